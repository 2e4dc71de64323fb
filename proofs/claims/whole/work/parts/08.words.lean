theorem a_in (i : Nat) {w : Cond} (h : lw_tbl[i]? = some w) (hg : goodWord w = true) : w ∈ a_g := List.mem_filter.mpr ⟨List.mem_of_getElem? h, hg⟩
theorem a_ins (ps : List Nat) {ws : List Cond} (h : ws = ps.filterMap (fun i => lw_tbl[i]?)) (hg : ws.all goodWord = true) : ∀ w ∈ ws, w ∈ a_g := fun w hw => by
  have h1 := List.all_eq_true.mp hg w hw
  rw [h] at hw
  obtain ⟨i, -, hi⟩ := List.mem_filterMap.mp hw
  exact a_in i hi h1
theorem kX0 : a_K 0 RX0 TX0 5 tyX0 := ⟨rfl, a_ins [234, 236, 238, 240, 242] (by decide +kernel) (by decide +kernel), tyX0_ok, nmX0⟩
theorem kX1 : a_K 1 RX1 TX1 6 tyX1 := ⟨rfl, a_ins [118, 120, 122, 124, 126, 128] (by decide +kernel) (by decide +kernel), tyX1_ok, nmX1⟩
theorem kX2 : a_K 2 RX2 TX2 3 tyX2 := ⟨rfl, a_ins [90, 92, 94] (by decide +kernel) (by decide +kernel), tyX2_ok, nmX2⟩
theorem kX3 : a_K 3 RX3 TX3 3 tyX3 := ⟨rfl, a_ins [154, 156, 158] (by decide +kernel) (by decide +kernel), tyX3_ok, nmX3⟩
theorem kX4 : a_K 4 RX4 TX4 6 tyX4 := ⟨rfl, a_ins [171, 173, 175, 177, 179, 181] (by decide +kernel) (by decide +kernel), tyX4_ok, nmX4⟩
theorem kX5 : a_K 5 RX5 TX5 8 tyX5 := ⟨rfl, a_ins [204, 206, 208, 210, 212, 214, 216, 218] (by decide +kernel) (by decide +kernel), tyX5_ok, nmX5⟩
theorem kX6 : a_K 6 RX6 TX6 2 tyX6 := ⟨rfl, a_ins [257, 259] (by decide +kernel) (by decide +kernel), tyX6_ok, nmX6⟩
theorem kX7 : a_K 7 RX7 TX7 7 tyX7 := ⟨rfl, a_ins [269, 271, 273, 275, 277, 279, 281] (by decide +kernel) (by decide +kernel), tyX7_ok, nmX7⟩
theorem kX8 : a_K 8 RX8 TX8 19 tyX8 := ⟨rfl, a_ins [693, 695, 697, 699, 701, 703, 705, 707, 709, 711, 713, 715, 717, 719, 721, 723, 725, 727, 729] (by decide +kernel) (by decide +kernel), tyX8_ok, nmX8⟩
abbrev mX0_init : aM := (yX0_init, cX0_init, 4, none)
theorem tmX0_init : a_mi mX0_init 3 := ⟨⟨a_in 227 (by decide +kernel) (by decide +kernel), a_in 55 (by decide +kernel) (by decide +kernel), ⟨by decide +kernel, by decide +kernel⟩, by decide +kernel, by decide⟩, rfl, rfl, a_in 226 (by decide +kernel) (by decide +kernel)⟩
abbrev mX0_wrongLine : aM := (yX0_wrongLine, cX0_wrongLine, 2, (some .int))
theorem tmX0_wrongLine : a_mv mX0_wrongLine 0 1 := ⟨⟨a_in 576 (by decide +kernel) (by decide +kernel), a_in 55 (by decide +kernel) (by decide +kernel), ⟨by decide +kernel, by decide +kernel⟩, by decide +kernel, by decide⟩, a_in 574 (by decide +kernel) (by decide +kernel), a_in 575 (by decide +kernel) (by decide +kernel), _, _, rfl⟩
abbrev mX0_proof : aM := (yX0_proof, cX0_proof, 3, (some .boolean))
theorem tmX0_proof : a_mv mX0_proof 0 1 := ⟨⟨a_in 581 (by decide +kernel) (by decide +kernel), a_in 55 (by decide +kernel) (by decide +kernel), ⟨by decide +kernel, by decide +kernel⟩, by decide +kernel, by decide⟩, a_in 580 (by decide +kernel) (by decide +kernel), a_in 11 (by decide +kernel) (by decide +kernel), _, _, rfl⟩
abbrev mX0_branch : aM := (yX0_branch, cX0_branch, 6, (some .boolean))
theorem tmX0_branch : a_mv mX0_branch 0 2 := ⟨⟨a_in 586 (by decide +kernel) (by decide +kernel), a_in 55 (by decide +kernel) (by decide +kernel), ⟨by decide +kernel, by decide +kernel⟩, by decide +kernel, by decide⟩, a_in 585 (by decide +kernel) (by decide +kernel), a_in 12 (by decide +kernel) (by decide +kernel), _, _, rfl⟩
abbrev mX0_attempt : aM := (yX0_attempt, cX0_attempt, 5, (some .boolean))
theorem tmX0_attempt : a_mv mX0_attempt 0 3 := ⟨⟨a_in 602 (by decide +kernel) (by decide +kernel), a_in 55 (by decide +kernel) (by decide +kernel), ⟨by decide +kernel, by decide +kernel⟩, by decide +kernel, by decide⟩, a_in 601 (by decide +kernel) (by decide +kernel), a_in 15 (by decide +kernel) (by decide +kernel), _, _, rfl⟩
abbrev mX0_blocks : aM := (yX0_blocks, cX0_blocks, 4, (some .boolean))
theorem tmX0_blocks : a_mv mX0_blocks 0 2 := ⟨⟨a_in 597 (by decide +kernel) (by decide +kernel), a_in 55 (by decide +kernel) (by decide +kernel), ⟨by decide +kernel, by decide +kernel⟩, by decide +kernel, by decide⟩, a_in 596 (by decide +kernel) (by decide +kernel), a_in 14 (by decide +kernel) (by decide +kernel), _, _, rfl⟩
abbrev mX0_closes : aM := (yX0_closes, cX0_closes, 4, (some .boolean))
theorem tmX0_closes : a_mv mX0_closes 0 1 := ⟨⟨a_in 608 (by decide +kernel) (by decide +kernel), a_in 55 (by decide +kernel) (by decide +kernel), ⟨by decide +kernel, by decide +kernel⟩, by decide +kernel, by decide⟩, a_in 607 (by decide +kernel) (by decide +kernel), a_in 16 (by decide +kernel) (by decide +kernel), _, _, rfl⟩
abbrev mX0_stepOverIf : aM := (yX0_stepOverIf, cX0_stepOverIf, 2, (some .boolean))
theorem tmX0_stepOverIf : a_mv mX0_stepOverIf 0 1 := ⟨⟨a_in 592 (by decide +kernel) (by decide +kernel), a_in 55 (by decide +kernel) (by decide +kernel), ⟨by decide +kernel, by decide +kernel⟩, by decide +kernel, by decide⟩, a_in 591 (by decide +kernel) (by decide +kernel), a_in 13 (by decide +kernel) (by decide +kernel), _, _, rfl⟩
abbrev mX1_init : aM := (yX1_init, cX1_init, 2, none)
theorem tmX1_init : a_mi mX1_init 1 := ⟨⟨a_in 102 (by decide +kernel) (by decide +kernel), a_in 51 (by decide +kernel) (by decide +kernel), ⟨by decide +kernel, by decide +kernel⟩, by decide +kernel, by decide⟩, rfl, rfl, a_in 101 (by decide +kernel) (by decide +kernel)⟩
abbrev mX1_wipe : aM := (yX1_wipe, cX1_wipe, 1, none)
theorem tmX1_wipe : a_mv mX1_wipe 1 0 := ⟨⟨a_in 393 (by decide +kernel) (by decide +kernel), a_in 51 (by decide +kernel) (by decide +kernel), ⟨by decide +kernel, by decide +kernel⟩, by decide +kernel, by decide⟩, a_in 391 (by decide +kernel) (by decide +kernel), a_in 392 (by decide +kernel) (by decide +kernel), _, _, rfl⟩
abbrev mX1_give : aM := (yX1_give, cX1_give, 4, none)
theorem tmX1_give : a_mv mX1_give 1 2 := ⟨⟨a_in 423 (by decide +kernel) (by decide +kernel), a_in 51 (by decide +kernel) (by decide +kernel), ⟨by decide +kernel, by decide +kernel⟩, by decide +kernel, by decide⟩, a_in 421 (by decide +kernel) (by decide +kernel), a_in 422 (by decide +kernel) (by decide +kernel), _, _, rfl⟩
abbrev mX1_strip : aM := (yX1_strip, cX1_strip, 4, none)
theorem tmX1_strip : a_mv mX1_strip 1 2 := ⟨⟨a_in 489 (by decide +kernel) (by decide +kernel), a_in 51 (by decide +kernel) (by decide +kernel), ⟨by decide +kernel, by decide +kernel⟩, by decide +kernel, by decide⟩, a_in 487 (by decide +kernel) (by decide +kernel), a_in 488 (by decide +kernel) (by decide +kernel), _, _, rfl⟩
abbrev mX1_blocked : aM := (yX1_blocked, cX1_blocked, 3, (some .boolean))
theorem tmX1_blocked : a_mv mX1_blocked 1 2 := ⟨⟨a_in 419 (by decide +kernel) (by decide +kernel), a_in 51 (by decide +kernel) (by decide +kernel), ⟨by decide +kernel, by decide +kernel⟩, by decide +kernel, by decide⟩, a_in 417 (by decide +kernel) (by decide +kernel), a_in 418 (by decide +kernel) (by decide +kernel), _, _, rfl⟩
abbrev mX1_leastNeighbourWith : aM := (yX1_leastNeighbourWith, cX1_leastNeighbourWith, 4, (some .int))
theorem tmX1_leastNeighbourWith : a_mv mX1_leastNeighbourWith 1 2 := ⟨⟨a_in 480 (by decide +kernel) (by decide +kernel), a_in 51 (by decide +kernel) (by decide +kernel), ⟨by decide +kernel, by decide +kernel⟩, by decide +kernel, by decide⟩, a_in 478 (by decide +kernel) (by decide +kernel), a_in 479 (by decide +kernel) (by decide +kernel), _, _, rfl⟩
abbrev mX1_freeWith : aM := (yX1_freeWith, cX1_freeWith, 3, (some .int))
theorem tmX1_freeWith : a_mv mX1_freeWith 1 2 := ⟨⟨a_in 460 (by decide +kernel) (by decide +kernel), a_in 51 (by decide +kernel) (by decide +kernel), ⟨by decide +kernel, by decide +kernel⟩, by decide +kernel, by decide⟩, a_in 458 (by decide +kernel) (by decide +kernel), a_in 459 (by decide +kernel) (by decide +kernel), _, _, rfl⟩
abbrev mX1_choice : aM := (yX1_choice, cX1_choice, 5, (some .int))
theorem tmX1_choice : a_mv mX1_choice 1 0 := ⟨⟨a_in 405 (by decide +kernel) (by decide +kernel), a_in 51 (by decide +kernel) (by decide +kernel), ⟨by decide +kernel, by decide +kernel⟩, by decide +kernel, by decide⟩, a_in 403 (by decide +kernel) (by decide +kernel), a_in 404 (by decide +kernel) (by decide +kernel), _, _, rfl⟩
abbrev mX1_foremost : aM := (yX1_foremost, cX1_foremost, 6, (some .int))
theorem tmX1_foremost : a_mv mX1_foremost 1 1 := ⟨⟨a_in 455 (by decide +kernel) (by decide +kernel), a_in 51 (by decide +kernel) (by decide +kernel), ⟨by decide +kernel, by decide +kernel⟩, by decide +kernel, by decide⟩, a_in 453 (by decide +kernel) (by decide +kernel), a_in 454 (by decide +kernel) (by decide +kernel), _, _, rfl⟩
abbrev mX1_rank : aM := (yX1_rank, cX1_rank, 3, (some .int))
theorem tmX1_rank : a_mv mX1_rank 1 2 := ⟨⟨a_in 411 (by decide +kernel) (by decide +kernel), a_in 51 (by decide +kernel) (by decide +kernel), ⟨by decide +kernel, by decide +kernel⟩, by decide +kernel, by decide⟩, a_in 410 (by decide +kernel) (by decide +kernel), a_in 0 (by decide +kernel) (by decide +kernel), _, _, rfl⟩
abbrev mX1_fillGreedily : aM := (yX1_fillGreedily, cX1_fillGreedily, 3, none)
theorem tmX1_fillGreedily : a_mv mX1_fillGreedily 1 0 := ⟨⟨a_in 389 (by decide +kernel) (by decide +kernel), a_in 51 (by decide +kernel) (by decide +kernel), ⟨by decide +kernel, by decide +kernel⟩, by decide +kernel, by decide⟩, a_in 387 (by decide +kernel) (by decide +kernel), a_in 388 (by decide +kernel) (by decide +kernel), _, _, rfl⟩
abbrev mX1_leastUnseen : aM := (yX1_leastUnseen, cX1_leastUnseen, 3, (some .int))
theorem tmX1_leastUnseen : a_mv mX1_leastUnseen 1 1 := ⟨⟨a_in 415 (by decide +kernel) (by decide +kernel), a_in 51 (by decide +kernel) (by decide +kernel), ⟨by decide +kernel, by decide +kernel⟩, by decide +kernel, by decide⟩, a_in 414 (by decide +kernel) (by decide +kernel), a_in 1 (by decide +kernel) (by decide +kernel), _, _, rfl⟩
abbrev mX2_init : aM := (yX2_init, cX2_init, 1, none)
theorem tmX2_init : a_mi mX2_init 0 := ⟨⟨a_in 74 (by decide +kernel) (by decide +kernel), a_in 50 (by decide +kernel) (by decide +kernel), ⟨by decide +kernel, by decide +kernel⟩, by decide +kernel, by decide⟩, rfl, rfl, a_in 73 (by decide +kernel) (by decide +kernel)⟩
abbrev mX2_restart : aM := (yX2_restart, cX2_restart, 2, none)
theorem tmX2_restart : a_mv mX2_restart 2 1 := ⟨⟨a_in 291 (by decide +kernel) (by decide +kernel), a_in 50 (by decide +kernel) (by decide +kernel), ⟨by decide +kernel, by decide +kernel⟩, by decide +kernel, by decide⟩, a_in 289 (by decide +kernel) (by decide +kernel), a_in 290 (by decide +kernel) (by decide +kernel), _, _, rfl⟩
abbrev mX2_isVertex : aM := (yX2_isVertex, cX2_isVertex, 2, (some .boolean))
theorem tmX2_isVertex : a_mv mX2_isVertex 2 1 := ⟨⟨a_in 304 (by decide +kernel) (by decide +kernel), a_in 50 (by decide +kernel) (by decide +kernel), ⟨by decide +kernel, by decide +kernel⟩, by decide +kernel, by decide⟩, a_in 302 (by decide +kernel) (by decide +kernel), a_in 303 (by decide +kernel) (by decide +kernel), _, _, rfl⟩
abbrev mX2_all : aM := (yX2_all, cX2_all, 1, (some .int))
theorem tmX2_all : a_mv mX2_all 2 0 := ⟨⟨a_in 398 (by decide +kernel) (by decide +kernel), a_in 50 (by decide +kernel) (by decide +kernel), ⟨by decide +kernel, by decide +kernel⟩, by decide +kernel, by decide⟩, a_in 396 (by decide +kernel) (by decide +kernel), a_in 397 (by decide +kernel) (by decide +kernel), _, _, rfl⟩
abbrev mX2_joined : aM := (yX2_joined, cX2_joined, 3, (some .boolean))
theorem tmX2_joined : a_mv mX2_joined 2 2 := ⟨⟨a_in 308 (by decide +kernel) (by decide +kernel), a_in 50 (by decide +kernel) (by decide +kernel), ⟨by decide +kernel, by decide +kernel⟩, by decide +kernel, by decide⟩, a_in 306 (by decide +kernel) (by decide +kernel), a_in 307 (by decide +kernel) (by decide +kernel), _, _, rfl⟩
abbrev mX2_flip : aM := (yX2_flip, cX2_flip, 3, none)
theorem tmX2_flip : a_mv mX2_flip 2 2 := ⟨⟨a_in 315 (by decide +kernel) (by decide +kernel), a_in 50 (by decide +kernel) (by decide +kernel), ⟨by decide +kernel, by decide +kernel⟩, by decide +kernel, by decide⟩, a_in 313 (by decide +kernel) (by decide +kernel), a_in 314 (by decide +kernel) (by decide +kernel), _, _, rfl⟩
abbrev mX2_degreeOf : aM := (yX2_degreeOf, cX2_degreeOf, 2, (some .int))
theorem tmX2_degreeOf : a_mv mX2_degreeOf 2 1 := ⟨⟨a_in 333 (by decide +kernel) (by decide +kernel), a_in 50 (by decide +kernel) (by decide +kernel), ⟨by decide +kernel, by decide +kernel⟩, by decide +kernel, by decide⟩, a_in 331 (by decide +kernel) (by decide +kernel), a_in 332 (by decide +kernel) (by decide +kernel), _, _, rfl⟩
abbrev mX2_edges : aM := (yX2_edges, cX2_edges, 3, (some .int))
theorem tmX2_edges : a_mv mX2_edges 2 0 := ⟨⟨a_in 329 (by decide +kernel) (by decide +kernel), a_in 50 (by decide +kernel) (by decide +kernel), ⟨by decide +kernel, by decide +kernel⟩, by decide +kernel, by decide⟩, a_in 327 (by decide +kernel) (by decide +kernel), a_in 328 (by decide +kernel) (by decide +kernel), _, _, rfl⟩
abbrev mX2_greatestDegree : aM := (yX2_greatestDegree, cX2_greatestDegree, 3, (some .int))
theorem tmX2_greatestDegree : a_mv mX2_greatestDegree 2 0 := ⟨⟨a_in 363 (by decide +kernel) (by decide +kernel), a_in 50 (by decide +kernel) (by decide +kernel), ⟨by decide +kernel, by decide +kernel⟩, by decide +kernel, by decide⟩, a_in 361 (by decide +kernel) (by decide +kernel), a_in 362 (by decide +kernel) (by decide +kernel), _, _, rfl⟩
abbrev mX2_drawEdges : aM := (yX2_drawEdges, cX2_drawEdges, 6, none)
theorem tmX2_drawEdges : a_mv mX2_drawEdges 2 2 := ⟨⟨a_in 323 (by decide +kernel) (by decide +kernel), a_in 50 (by decide +kernel) (by decide +kernel), ⟨by decide +kernel, by decide +kernel⟩, by decide +kernel, by decide⟩, a_in 321 (by decide +kernel) (by decide +kernel), a_in 322 (by decide +kernel) (by decide +kernel), _, _, rfl⟩
abbrev mX2_sharesDivisor : aM := (yX2_sharesDivisor, cX2_sharesDivisor, 3, (some .boolean))
theorem tmX2_sharesDivisor : a_mv mX2_sharesDivisor 2 1 := ⟨⟨a_in 347 (by decide +kernel) (by decide +kernel), a_in 50 (by decide +kernel) (by decide +kernel), ⟨by decide +kernel, by decide +kernel⟩, by decide +kernel, by decide⟩, a_in 345 (by decide +kernel) (by decide +kernel), a_in 346 (by decide +kernel) (by decide +kernel), _, _, rfl⟩
abbrev mX2_renumber : aM := (yX2_renumber, cX2_renumber, 6, none)
theorem tmX2_renumber : a_mv mX2_renumber 2 2 := ⟨⟨a_in 351 (by decide +kernel) (by decide +kernel), a_in 50 (by decide +kernel) (by decide +kernel), ⟨by decide +kernel, by decide +kernel⟩, by decide +kernel, by decide⟩, a_in 349 (by decide +kernel) (by decide +kernel), a_in 350 (by decide +kernel) (by decide +kernel), _, _, rfl⟩
abbrev mX2_greedyClique : aM := (yX2_greedyClique, cX2_greedyClique, 5, (some .int))
theorem tmX2_greedyClique : a_mv mX2_greedyClique 2 0 := ⟨⟨a_in 432 (by decide +kernel) (by decide +kernel), a_in 50 (by decide +kernel) (by decide +kernel), ⟨by decide +kernel, by decide +kernel⟩, by decide +kernel, by decide⟩, a_in 430 (by decide +kernel) (by decide +kernel), a_in 431 (by decide +kernel) (by decide +kernel), _, _, rfl⟩
abbrev mX2_widest : aM := (yX2_widest, cX2_widest, 5, (some .int))
theorem tmX2_widest : a_mv mX2_widest 2 1 := ⟨⟨a_in 437 (by decide +kernel) (by decide +kernel), a_in 50 (by decide +kernel) (by decide +kernel), ⟨by decide +kernel, by decide +kernel⟩, by decide +kernel, by decide⟩, a_in 436 (by decide +kernel) (by decide +kernel), a_in 3 (by decide +kernel) (by decide +kernel), _, _, rfl⟩
abbrev mX3_init : aM := (yX3_init, cX3_init, 1, none)
theorem tmX3_init : a_mi mX3_init 0 := ⟨⟨a_in 141 (by decide +kernel) (by decide +kernel), a_in 53 (by decide +kernel) (by decide +kernel), ⟨by decide +kernel, by decide +kernel⟩, by decide +kernel, by decide⟩, rfl, rfl, a_in 140 (by decide +kernel) (by decide +kernel)⟩
abbrev mX3_holds : aM := (yX3_holds, cX3_holds, 2, (some .boolean))
theorem tmX3_holds : a_mv mX3_holds 3 1 := ⟨⟨a_in 533 (by decide +kernel) (by decide +kernel), a_in 53 (by decide +kernel) (by decide +kernel), ⟨by decide +kernel, by decide +kernel⟩, by decide +kernel, by decide⟩, a_in 531 (by decide +kernel) (by decide +kernel), a_in 532 (by decide +kernel) (by decide +kernel), _, _, rfl⟩
abbrev mX3_write : aM := (yX3_write, cX3_write, 3, (some .boolean))
theorem tmX3_write : a_mv mX3_write 3 2 := ⟨⟨a_in 475 (by decide +kernel) (by decide +kernel), a_in 53 (by decide +kernel) (by decide +kernel), ⟨by decide +kernel, by decide +kernel⟩, by decide +kernel, by decide⟩, a_in 473 (by decide +kernel) (by decide +kernel), a_in 474 (by decide +kernel) (by decide +kernel), _, _, rfl⟩
abbrev mX3_part : aM := (yX3_part, cX3_part, 3, (some .int))
theorem tmX3_part : a_mv mX3_part 3 2 := ⟨⟨a_in 529 (by decide +kernel) (by decide +kernel), a_in 53 (by decide +kernel) (by decide +kernel), ⟨by decide +kernel, by decide +kernel⟩, by decide +kernel, by decide⟩, a_in 527 (by decide +kernel) (by decide +kernel), a_in 528 (by decide +kernel) (by decide +kernel), _, _, rfl⟩
abbrev mX3_become : aM := (yX3_become, cX3_become, 2, none)
theorem tmX3_become : a_mv mX3_become 3 1 := ⟨⟨a_in 501 (by decide +kernel) (by decide +kernel), a_in 53 (by decide +kernel) (by decide +kernel), ⟨by decide +kernel, by decide +kernel⟩, by decide +kernel, by decide⟩, a_in 499 (by decide +kernel) (by decide +kernel), a_in 500 (by decide +kernel) (by decide +kernel), _, _, rfl⟩
abbrev mX4_init : aM := (yX4_init, cX4_init, 3, none)
theorem tmX4_init : a_mi mX4_init 2 := ⟨⟨a_in 135 (by decide +kernel) (by decide +kernel), a_in 52 (by decide +kernel) (by decide +kernel), ⟨by decide +kernel, by decide +kernel⟩, by decide +kernel, by decide⟩, rfl, rfl, a_in 134 (by decide +kernel) (by decide +kernel)⟩
abbrev mX4_run : aM := (yX4_run, cX4_run, 2, (some .int))
theorem tmX4_run : a_mv mX4_run 4 1 := ⟨⟨a_in 442 (by decide +kernel) (by decide +kernel), a_in 52 (by decide +kernel) (by decide +kernel), ⟨by decide +kernel, by decide +kernel⟩, by decide +kernel, by decide⟩, a_in 440 (by decide +kernel) (by decide +kernel), a_in 441 (by decide +kernel) (by decide +kernel), _, _, rfl⟩
abbrev mX4_visit : aM := (yX4_visit, cX4_visit, 3, (some .int))
theorem tmX4_visit : a_mv mX4_visit 4 1 := ⟨⟨a_in 447 (by decide +kernel) (by decide +kernel), a_in 52 (by decide +kernel) (by decide +kernel), ⟨by decide +kernel, by decide +kernel⟩, by decide +kernel, by decide⟩, a_in 446 (by decide +kernel) (by decide +kernel), a_in 4 (by decide +kernel) (by decide +kernel), _, _, rfl⟩
abbrev mX4_tightClique : aM := (yX4_tightClique, cX4_tightClique, 6, (some .int))
theorem tmX4_tightClique : a_mv mX4_tightClique 4 0 := ⟨⟨a_in 451 (by decide +kernel) (by decide +kernel), a_in 52 (by decide +kernel) (by decide +kernel), ⟨by decide +kernel, by decide +kernel⟩, by decide +kernel, by decide⟩, a_in 450 (by decide +kernel) (by decide +kernel), a_in 5 (by decide +kernel) (by decide +kernel), _, _, rfl⟩
abbrev mX4_branch : aM := (yX4_branch, cX4_branch, 6, (some .int))
theorem tmX4_branch : a_mv mX4_branch 4 1 := ⟨⟨a_in 466 (by decide +kernel) (by decide +kernel), a_in 52 (by decide +kernel) (by decide +kernel), ⟨by decide +kernel, by decide +kernel⟩, by decide +kernel, by decide⟩, a_in 465 (by decide +kernel) (by decide +kernel), a_in 6 (by decide +kernel) (by decide +kernel), _, _, rfl⟩
abbrev mX4_attempt : aM := (yX4_attempt, cX4_attempt, 5, (some .int))
theorem tmX4_attempt : a_mv mX4_attempt 4 3 := ⟨⟨a_in 484 (by decide +kernel) (by decide +kernel), a_in 52 (by decide +kernel) (by decide +kernel), ⟨by decide +kernel, by decide +kernel⟩, by decide +kernel, by decide⟩, a_in 483 (by decide +kernel) (by decide +kernel), a_in 8 (by decide +kernel) (by decide +kernel), _, _, rfl⟩
abbrev mX4_write : aM := (yX4_write, cX4_write, 3, (some .int))
theorem tmX4_write : a_mv mX4_write 4 2 := ⟨⟨a_in 471 (by decide +kernel) (by decide +kernel), a_in 52 (by decide +kernel) (by decide +kernel), ⟨by decide +kernel, by decide +kernel⟩, by decide +kernel, by decide⟩, a_in 470 (by decide +kernel) (by decide +kernel), a_in 7 (by decide +kernel) (by decide +kernel), _, _, rfl⟩
abbrev mX5_init : aM := (yX5_init, cX5_init, 4, none)
theorem tmX5_init : a_mi mX5_init 3 := ⟨⟨a_in 188 (by decide +kernel) (by decide +kernel), a_in 54 (by decide +kernel) (by decide +kernel), ⟨by decide +kernel, by decide +kernel⟩, by decide +kernel, by decide⟩, rfl, rfl, a_in 187 (by decide +kernel) (by decide +kernel)⟩
abbrev mX5_forget : aM := (yX5_forget, cX5_forget, 1, none)
theorem tmX5_forget : a_mv mX5_forget 5 0 := ⟨⟨a_in 296 (by decide +kernel) (by decide +kernel), a_in 54 (by decide +kernel) (by decide +kernel), ⟨by decide +kernel, by decide +kernel⟩, by decide +kernel, by decide⟩, a_in 294 (by decide +kernel) (by decide +kernel), a_in 295 (by decide +kernel) (by decide +kernel), _, _, rfl⟩
abbrev mX5_find : aM := (yX5_find, cX5_find, 4, (some .int))
theorem tmX5_find : a_mv mX5_find 5 0 := ⟨⟨a_in 383 (by decide +kernel) (by decide +kernel), a_in 54 (by decide +kernel) (by decide +kernel), ⟨by decide +kernel, by decide +kernel⟩, by decide +kernel, by decide⟩, a_in 381 (by decide +kernel) (by decide +kernel), a_in 382 (by decide +kernel) (by decide +kernel), _, _, rfl⟩
abbrev mX5_keepProof : aM := (yX5_keepProof, cX5_keepProof, 3, none)
theorem tmX5_keepProof : a_mv mX5_keepProof 5 2 := ⟨⟨a_in 497 (by decide +kernel) (by decide +kernel), a_in 54 (by decide +kernel) (by decide +kernel), ⟨by decide +kernel, by decide +kernel⟩, by decide +kernel, by decide⟩, a_in 496 (by decide +kernel) (by decide +kernel), a_in 10 (by decide +kernel) (by decide +kernel), _, _, rfl⟩
abbrev mX5_keepBest : aM := (yX5_keepBest, cX5_keepBest, 1, none)
theorem tmX5_keepBest : a_mv mX5_keepBest 5 0 := ⟨⟨a_in 427 (by decide +kernel) (by decide +kernel), a_in 54 (by decide +kernel) (by decide +kernel), ⟨by decide +kernel, by decide +kernel⟩, by decide +kernel, by decide⟩, a_in 426 (by decide +kernel) (by decide +kernel), a_in 2 (by decide +kernel) (by decide +kernel), _, _, rfl⟩
abbrev mX5_tally : aM := (yX5_tally, cX5_tally, 2, none)
theorem tmX5_tally : a_mv mX5_tally 5 1 := ⟨⟨a_in 493 (by decide +kernel) (by decide +kernel), a_in 54 (by decide +kernel) (by decide +kernel), ⟨by decide +kernel, by decide +kernel⟩, by decide +kernel, by decide⟩, a_in 492 (by decide +kernel) (by decide +kernel), a_in 9 (by decide +kernel) (by decide +kernel), _, _, rfl⟩
abbrev mX6_init : aM := (yX6_init, cX6_init, 2, none)
theorem tmX6_init : a_mi mX6_init 1 := ⟨⟨a_in 249 (by decide +kernel) (by decide +kernel), a_in 56 (by decide +kernel) (by decide +kernel), ⟨by decide +kernel, by decide +kernel⟩, by decide +kernel, by decide⟩, rfl, rfl, a_in 248 (by decide +kernel) (by decide +kernel)⟩
abbrev mX6_among : aM := (yX6_among, cX6_among, 4, (some .int))
theorem tmX6_among : a_mv mX6_among 6 1 := ⟨⟨a_in 640 (by decide +kernel) (by decide +kernel), a_in 56 (by decide +kernel) (by decide +kernel), ⟨by decide +kernel, by decide +kernel⟩, by decide +kernel, by decide⟩, a_in 638 (by decide +kernel) (by decide +kernel), a_in 639 (by decide +kernel) (by decide +kernel), _, _, rfl⟩
abbrev mX6_clashingEdges : aM := (yX6_clashingEdges, cX6_clashingEdges, 4, (some .int))
theorem tmX6_clashingEdges : a_mv mX6_clashingEdges 6 0 := ⟨⟨a_in 630 (by decide +kernel) (by decide +kernel), a_in 56 (by decide +kernel) (by decide +kernel), ⟨by decide +kernel, by decide +kernel⟩, by decide +kernel, by decide⟩, a_in 628 (by decide +kernel) (by decide +kernel), a_in 629 (by decide +kernel) (by decide +kernel), _, _, rfl⟩
abbrev mX6_swapChain : aM := (yX6_swapChain, cX6_swapChain, 6, (some .int))
theorem tmX6_swapChain : a_mv mX6_swapChain 6 2 := ⟨⟨a_in 650 (by decide +kernel) (by decide +kernel), a_in 56 (by decide +kernel) (by decide +kernel), ⟨by decide +kernel, by decide +kernel⟩, by decide +kernel, by decide⟩, a_in 648 (by decide +kernel) (by decide +kernel), a_in 649 (by decide +kernel) (by decide +kernel), _, _, rfl⟩
abbrev mX6_bearing : aM := (yX6_bearing, cX6_bearing, 4, (some .int))
theorem tmX6_bearing : a_mv mX6_bearing 6 1 := ⟨⟨a_in 654 (by decide +kernel) (by decide +kernel), a_in 56 (by decide +kernel) (by decide +kernel), ⟨by decide +kernel, by decide +kernel⟩, by decide +kernel, by decide⟩, a_in 653 (by decide +kernel) (by decide +kernel), a_in 17 (by decide +kernel) (by decide +kernel), _, _, rfl⟩
abbrev mX6_reach : aM := (yX6_reach, cX6_reach, 5, (some .int))
theorem tmX6_reach : a_mv mX6_reach 6 2 := ⟨⟨a_in 658 (by decide +kernel) (by decide +kernel), a_in 56 (by decide +kernel) (by decide +kernel), ⟨by decide +kernel, by decide +kernel⟩, by decide +kernel, by decide⟩, a_in 657 (by decide +kernel) (by decide +kernel), a_in 18 (by decide +kernel) (by decide +kernel), _, _, rfl⟩
abbrev mX6_neighboursOf : aM := (yX6_neighboursOf, cX6_neighboursOf, 4, (some .int))
theorem tmX6_neighboursOf : a_mv mX6_neighboursOf 6 1 := ⟨⟨a_in 662 (by decide +kernel) (by decide +kernel), a_in 56 (by decide +kernel) (by decide +kernel), ⟨by decide +kernel, by decide +kernel⟩, by decide +kernel, by decide⟩, a_in 661 (by decide +kernel) (by decide +kernel), a_in 19 (by decide +kernel) (by decide +kernel), _, _, rfl⟩
abbrev mX7_init : aM := (yX7_init, cX7_init, 1, none)
theorem tmX7_init : a_mi mX7_init 0 := ⟨⟨a_in 66 (by decide +kernel) (by decide +kernel), a_in 49 (by decide +kernel) (by decide +kernel), ⟨by decide +kernel, by decide +kernel⟩, by decide +kernel, by decide⟩, rfl, rfl, a_in 65 (by decide +kernel) (by decide +kernel)⟩
abbrev mX7_graph : aM := (yX7_graph, cX7_graph, 2, (some .int))
theorem tmX7_graph : a_mv mX7_graph 7 1 := ⟨⟨a_in 287 (by decide +kernel) (by decide +kernel), a_in 49 (by decide +kernel) (by decide +kernel), ⟨by decide +kernel, by decide +kernel⟩, by decide +kernel, by decide⟩, a_in 285 (by decide +kernel) (by decide +kernel), a_in 286 (by decide +kernel) (by decide +kernel), _, _, rfl⟩
abbrev mX7_edge : aM := (yX7_edge, cX7_edge, 4, (some .int))
theorem tmX7_edge : a_mv mX7_edge 7 3 := ⟨⟨a_in 300 (by decide +kernel) (by decide +kernel), a_in 49 (by decide +kernel) (by decide +kernel), ⟨by decide +kernel, by decide +kernel⟩, by decide +kernel, by decide⟩, a_in 298 (by decide +kernel) (by decide +kernel), a_in 299 (by decide +kernel) (by decide +kernel), _, _, rfl⟩
abbrev mX7_draw : aM := (yX7_draw, cX7_draw, 3, (some .int))
theorem tmX7_draw : a_mv mX7_draw 7 2 := ⟨⟨a_in 319 (by decide +kernel) (by decide +kernel), a_in 49 (by decide +kernel) (by decide +kernel), ⟨by decide +kernel, by decide +kernel⟩, by decide +kernel, by decide⟩, a_in 317 (by decide +kernel) (by decide +kernel), a_in 318 (by decide +kernel) (by decide +kernel), _, _, rfl⟩
abbrev mX7_turn : aM := (yX7_turn, cX7_turn, 3, (some .int))
theorem tmX7_turn : a_mv mX7_turn 7 2 := ⟨⟨a_in 343 (by decide +kernel) (by decide +kernel), a_in 49 (by decide +kernel) (by decide +kernel), ⟨by decide +kernel, by decide +kernel⟩, by decide +kernel, by decide⟩, a_in 341 (by decide +kernel) (by decide +kernel), a_in 342 (by decide +kernel) (by decide +kernel), _, _, rfl⟩
abbrev mX7_count : aM := (yX7_count, cX7_count, 2, (some .int))
theorem tmX7_count : a_mv mX7_count 7 1 := ⟨⟨a_in 359 (by decide +kernel) (by decide +kernel), a_in 49 (by decide +kernel) (by decide +kernel), ⟨by decide +kernel, by decide +kernel⟩, by decide +kernel, by decide⟩, a_in 357 (by decide +kernel) (by decide +kernel), a_in 358 (by decide +kernel) (by decide +kernel), _, _, rfl⟩
abbrev mX7_has : aM := (yX7_has, cX7_has, 3, (some .boolean))
theorem tmX7_has : a_mv mX7_has 7 2 := ⟨⟨a_in 370 (by decide +kernel) (by decide +kernel), a_in 49 (by decide +kernel) (by decide +kernel), ⟨by decide +kernel, by decide +kernel⟩, by decide +kernel, by decide⟩, a_in 368 (by decide +kernel) (by decide +kernel), a_in 369 (by decide +kernel) (by decide +kernel), _, _, rfl⟩
abbrev mX7_degree : aM := (yX7_degree, cX7_degree, 2, (some .int))
theorem tmX7_degree : a_mv mX7_degree 7 1 := ⟨⟨a_in 374 (by decide +kernel) (by decide +kernel), a_in 49 (by decide +kernel) (by decide +kernel), ⟨by decide +kernel, by decide +kernel⟩, by decide +kernel, by decide⟩, a_in 372 (by decide +kernel) (by decide +kernel), a_in 373 (by decide +kernel) (by decide +kernel), _, _, rfl⟩
abbrev mX7_solve : aM := (yX7_solve, cX7_solve, 1, (some .int))
theorem tmX7_solve : a_mv mX7_solve 7 0 := ⟨⟨a_in 379 (by decide +kernel) (by decide +kernel), a_in 49 (by decide +kernel) (by decide +kernel), ⟨by decide +kernel, by decide +kernel⟩, by decide +kernel, by decide⟩, a_in 377 (by decide +kernel) (by decide +kernel), a_in 378 (by decide +kernel) (by decide +kernel), _, _, rfl⟩
abbrev mX7_colour : aM := (yX7_colour, cX7_colour, 2, (some .int))
theorem tmX7_colour : a_mv mX7_colour 7 1 := ⟨⟨a_in 507 (by decide +kernel) (by decide +kernel), a_in 49 (by decide +kernel) (by decide +kernel), ⟨by decide +kernel, by decide +kernel⟩, by decide +kernel, by decide⟩, a_in 505 (by decide +kernel) (by decide +kernel), a_in 506 (by decide +kernel) (by decide +kernel), _, _, rfl⟩
abbrev mX7_clique : aM := (yX7_clique, cX7_clique, 1, (some .int))
theorem tmX7_clique : a_mv mX7_clique 7 0 := ⟨⟨a_in 511 (by decide +kernel) (by decide +kernel), a_in 49 (by decide +kernel) (by decide +kernel), ⟨by decide +kernel, by decide +kernel⟩, by decide +kernel, by decide⟩, a_in 509 (by decide +kernel) (by decide +kernel), a_in 510 (by decide +kernel) (by decide +kernel), _, _, rfl⟩
abbrev mX7_first : aM := (yX7_first, cX7_first, 1, (some .int))
theorem tmX7_first : a_mv mX7_first 7 0 := ⟨⟨a_in 516 (by decide +kernel) (by decide +kernel), a_in 49 (by decide +kernel) (by decide +kernel), ⟨by decide +kernel, by decide +kernel⟩, by decide +kernel, by decide⟩, a_in 514 (by decide +kernel) (by decide +kernel), a_in 515 (by decide +kernel) (by decide +kernel), _, _, rfl⟩
abbrev mX7_lines : aM := (yX7_lines, cX7_lines, 1, (some .int))
theorem tmX7_lines : a_mv mX7_lines 7 0 := ⟨⟨a_in 521 (by decide +kernel) (by decide +kernel), a_in 49 (by decide +kernel) (by decide +kernel), ⟨by decide +kernel, by decide +kernel⟩, by decide +kernel, by decide⟩, a_in 519 (by decide +kernel) (by decide +kernel), a_in 520 (by decide +kernel) (by decide +kernel), _, _, rfl⟩
abbrev mX7_line : aM := (yX7_line, cX7_line, 3, (some .int))
theorem tmX7_line : a_mv mX7_line 7 2 := ⟨⟨a_in 525 (by decide +kernel) (by decide +kernel), a_in 49 (by decide +kernel) (by decide +kernel), ⟨by decide +kernel, by decide +kernel⟩, by decide +kernel, by decide⟩, a_in 523 (by decide +kernel) (by decide +kernel), a_in 524 (by decide +kernel) (by decide +kernel), _, _, rfl⟩
abbrev mX7_work : aM := (yX7_work, cX7_work, 2, (some .int))
theorem tmX7_work : a_mv mX7_work 7 1 := ⟨⟨a_in 537 (by decide +kernel) (by decide +kernel), a_in 49 (by decide +kernel) (by decide +kernel), ⟨by decide +kernel, by decide +kernel⟩, by decide +kernel, by decide⟩, a_in 535 (by decide +kernel) (by decide +kernel), a_in 536 (by decide +kernel) (by decide +kernel), _, _, rfl⟩
abbrev mX7_search : aM := (yX7_search, cX7_search, 3, (some .int))
theorem tmX7_search : a_mv mX7_search 7 1 := ⟨⟨a_in 541 (by decide +kernel) (by decide +kernel), a_in 49 (by decide +kernel) (by decide +kernel), ⟨by decide +kernel, by decide +kernel⟩, by decide +kernel, by decide⟩, a_in 539 (by decide +kernel) (by decide +kernel), a_in 540 (by decide +kernel) (by decide +kernel), _, _, rfl⟩
abbrev mX7_tell : aM := (yX7_tell, cX7_tell, 3, (some .int))
theorem tmX7_tell : a_mv mX7_tell 7 2 := ⟨⟨a_in 547 (by decide +kernel) (by decide +kernel), a_in 49 (by decide +kernel) (by decide +kernel), ⟨by decide +kernel, by decide +kernel⟩, by decide +kernel, by decide⟩, a_in 545 (by decide +kernel) (by decide +kernel), a_in 546 (by decide +kernel) (by decide +kernel), _, _, rfl⟩
abbrev mX7_take : aM := (yX7_take, cX7_take, 1, (some .int))
theorem tmX7_take : a_mv mX7_take 7 0 := ⟨⟨a_in 555 (by decide +kernel) (by decide +kernel), a_in 49 (by decide +kernel) (by decide +kernel), ⟨by decide +kernel, by decide +kernel⟩, by decide +kernel, by decide⟩, a_in 553 (by decide +kernel) (by decide +kernel), a_in 554 (by decide +kernel) (by decide +kernel), _, _, rfl⟩
abbrev mX7_alter : aM := (yX7_alter, cX7_alter, 4, (some .int))
theorem tmX7_alter : a_mv mX7_alter 7 3 := ⟨⟨a_in 559 (by decide +kernel) (by decide +kernel), a_in 49 (by decide +kernel) (by decide +kernel), ⟨by decide +kernel, by decide +kernel⟩, by decide +kernel, by decide⟩, a_in 557 (by decide +kernel) (by decide +kernel), a_in 558 (by decide +kernel) (by decide +kernel), _, _, rfl⟩
abbrev mX7_cut : aM := (yX7_cut, cX7_cut, 2, (some .int))
theorem tmX7_cut : a_mv mX7_cut 7 1 := ⟨⟨a_in 564 (by decide +kernel) (by decide +kernel), a_in 49 (by decide +kernel) (by decide +kernel), ⟨by decide +kernel, by decide +kernel⟩, by decide +kernel, by decide⟩, a_in 562 (by decide +kernel) (by decide +kernel), a_in 563 (by decide +kernel) (by decide +kernel), _, _, rfl⟩
abbrev mX7_told : aM := (yX7_told, cX7_told, 3, (some .int))
theorem tmX7_told : a_mv mX7_told 7 2 := ⟨⟨a_in 568 (by decide +kernel) (by decide +kernel), a_in 49 (by decide +kernel) (by decide +kernel), ⟨by decide +kernel, by decide +kernel⟩, by decide +kernel, by decide⟩, a_in 566 (by decide +kernel) (by decide +kernel), a_in 567 (by decide +kernel) (by decide +kernel), _, _, rfl⟩
abbrev mX7_check : aM := (yX7_check, cX7_check, 2, (some .int))
theorem tmX7_check : a_mv mX7_check 7 1 := ⟨⟨a_in 572 (by decide +kernel) (by decide +kernel), a_in 49 (by decide +kernel) (by decide +kernel), ⟨by decide +kernel, by decide +kernel⟩, by decide +kernel, by decide⟩, a_in 570 (by decide +kernel) (by decide +kernel), a_in 571 (by decide +kernel) (by decide +kernel), _, _, rfl⟩
abbrev mX7_paint : aM := (yX7_paint, cX7_paint, 4, (some .int))
theorem tmX7_paint : a_mv mX7_paint 7 2 := ⟨⟨a_in 614 (by decide +kernel) (by decide +kernel), a_in 49 (by decide +kernel) (by decide +kernel), ⟨by decide +kernel, by decide +kernel⟩, by decide +kernel, by decide⟩, a_in 612 (by decide +kernel) (by decide +kernel), a_in 613 (by decide +kernel) (by decide +kernel), _, _, rfl⟩
abbrev mX7_copy : aM := (yX7_copy, cX7_copy, 1, (some .int))
theorem tmX7_copy : a_mv mX7_copy 7 0 := ⟨⟨a_in 621 (by decide +kernel) (by decide +kernel), a_in 49 (by decide +kernel) (by decide +kernel), ⟨by decide +kernel, by decide +kernel⟩, by decide +kernel, by decide⟩, a_in 619 (by decide +kernel) (by decide +kernel), a_in 620 (by decide +kernel) (by decide +kernel), _, _, rfl⟩
abbrev mX7_clashes : aM := (yX7_clashes, cX7_clashes, 1, (some .int))
theorem tmX7_clashes : a_mv mX7_clashes 7 0 := ⟨⟨a_in 626 (by decide +kernel) (by decide +kernel), a_in 49 (by decide +kernel) (by decide +kernel), ⟨by decide +kernel, by decide +kernel⟩, by decide +kernel, by decide⟩, a_in 624 (by decide +kernel) (by decide +kernel), a_in 625 (by decide +kernel) (by decide +kernel), _, _, rfl⟩
abbrev mX7_used : aM := (yX7_used, cX7_used, 1, (some .int))
theorem tmX7_used : a_mv mX7_used 7 0 := ⟨⟨a_in 635 (by decide +kernel) (by decide +kernel), a_in 49 (by decide +kernel) (by decide +kernel), ⟨by decide +kernel, by decide +kernel⟩, by decide +kernel, by decide⟩, a_in 633 (by decide +kernel) (by decide +kernel), a_in 634 (by decide +kernel) (by decide +kernel), _, _, rfl⟩
abbrev mX7_chain : aM := (yX7_chain, cX7_chain, 3, (some .int))
theorem tmX7_chain : a_mv mX7_chain 7 2 := ⟨⟨a_in 646 (by decide +kernel) (by decide +kernel), a_in 49 (by decide +kernel) (by decide +kernel), ⟨by decide +kernel, by decide +kernel⟩, by decide +kernel, by decide⟩, a_in 644 (by decide +kernel) (by decide +kernel), a_in 645 (by decide +kernel) (by decide +kernel), _, _, rfl⟩
abbrev mX7_saturation : aM := (yX7_saturation, cX7_saturation, 2, (some .int))
theorem tmX7_saturation : a_mv mX7_saturation 7 1 := ⟨⟨a_in 667 (by decide +kernel) (by decide +kernel), a_in 49 (by decide +kernel) (by decide +kernel), ⟨by decide +kernel, by decide +kernel⟩, by decide +kernel, by decide⟩, a_in 665 (by decide +kernel) (by decide +kernel), a_in 666 (by decide +kernel) (by decide +kernel), _, _, rfl⟩
abbrev mX7_isOp : aM := (yX7_isOp, cX7_isOp, 1, (some .boolean))
theorem tmX7_isOp : a_ms mX7_isOp 1 := ⟨⟨a_in 550 (by decide +kernel) (by decide +kernel), a_in 49 (by decide +kernel) (by decide +kernel), ⟨by decide +kernel, by decide +kernel⟩, by decide +kernel, by decide⟩, a_in 549 (by decide +kernel) (by decide +kernel)⟩
abbrev mX7_isColour : aM := (yX7_isColour, cX7_isColour, 1, (some .boolean))
theorem tmX7_isColour : a_ms mX7_isColour 1 := ⟨⟨a_in 617 (by decide +kernel) (by decide +kernel), a_in 49 (by decide +kernel) (by decide +kernel), ⟨by decide +kernel, by decide +kernel⟩, by decide +kernel, by decide⟩, a_in 616 (by decide +kernel) (by decide +kernel)⟩
abbrev mX7_contains : aM := (yX7_contains, cX7_contains, 2, (some .boolean))
theorem tmX7_contains : a_ms mX7_contains 2 := ⟨⟨a_in 311 (by decide +kernel) (by decide +kernel), a_in 49 (by decide +kernel) (by decide +kernel), ⟨by decide +kernel, by decide +kernel⟩, by decide +kernel, by decide⟩, a_in 310 (by decide +kernel) (by decide +kernel)⟩
abbrev mX7_firstOnes : aM := (yX7_firstOnes, cX7_firstOnes, 1, (some .int))
theorem tmX7_firstOnes : a_ms mX7_firstOnes 1 := ⟨⟨a_in 401 (by decide +kernel) (by decide +kernel), a_in 49 (by decide +kernel) (by decide +kernel), ⟨by decide +kernel, by decide +kernel⟩, by decide +kernel, by decide⟩, a_in 400 (by decide +kernel) (by decide +kernel)⟩
abbrev mX8_init : aM := (yX8_init, cX8_init, 2, none)
theorem tmX8_init : a_mi mX8_init 0 := ⟨⟨a_in 672 (by decide +kernel) (by decide +kernel), a_in 58 (by decide +kernel) (by decide +kernel), ⟨by decide +kernel, by decide +kernel⟩, by decide +kernel, by decide⟩, rfl, rfl, a_in 671 (by decide +kernel) (by decide +kernel)⟩
abbrev mX8_isVertex : aM := (yX8_isVertex, cX8_isVertex, 2, (some .boolean))
theorem tmX8_isVertex : a_mv mX8_isVertex 8 1 := ⟨⟨a_in 744 (by decide +kernel) (by decide +kernel), a_in 58 (by decide +kernel) (by decide +kernel), ⟨by decide +kernel, by decide +kernel⟩, by decide +kernel, by decide⟩, a_in 743 (by decide +kernel) (by decide +kernel), a_in 20 (by decide +kernel) (by decide +kernel), _, _, rfl⟩
abbrev mX8_isNear : aM := (yX8_isNear, cX8_isNear, 3, (some .boolean))
theorem tmX8_isNear : a_mv mX8_isNear 8 2 := ⟨⟨a_in 748 (by decide +kernel) (by decide +kernel), a_in 58 (by decide +kernel) (by decide +kernel), ⟨by decide +kernel, by decide +kernel⟩, by decide +kernel, by decide⟩, a_in 747 (by decide +kernel) (by decide +kernel), a_in 21 (by decide +kernel) (by decide +kernel), _, _, rfl⟩
abbrev mX8_join : aM := (yX8_join, cX8_join, 4, none)
theorem tmX8_join : a_mv mX8_join 8 3 := ⟨⟨a_in 752 (by decide +kernel) (by decide +kernel), a_in 58 (by decide +kernel) (by decide +kernel), ⟨by decide +kernel, by decide +kernel⟩, by decide +kernel, by decide⟩, a_in 751 (by decide +kernel) (by decide +kernel), a_in 22 (by decide +kernel) (by decide +kernel), _, _, rfl⟩
abbrev mX8_graph : aM := (yX8_graph, cX8_graph, 3, (some .int))
theorem tmX8_graph : a_mv mX8_graph 8 1 := ⟨⟨a_in 736 (by decide +kernel) (by decide +kernel), a_in 58 (by decide +kernel) (by decide +kernel), ⟨by decide +kernel, by decide +kernel⟩, by decide +kernel, by decide⟩, a_in 734 (by decide +kernel) (by decide +kernel), a_in 735 (by decide +kernel) (by decide +kernel), _, _, rfl⟩
abbrev mX8_edge : aM := (yX8_edge, cX8_edge, 4, (some .int))
theorem tmX8_edge : a_mv mX8_edge 8 3 := ⟨⟨a_in 740 (by decide +kernel) (by decide +kernel), a_in 58 (by decide +kernel) (by decide +kernel), ⟨by decide +kernel, by decide +kernel⟩, by decide +kernel, by decide⟩, a_in 738 (by decide +kernel) (by decide +kernel), a_in 739 (by decide +kernel) (by decide +kernel), _, _, rfl⟩
abbrev mX8_edges : aM := (yX8_edges, cX8_edges, 3, (some .int))
theorem tmX8_edges : a_mv mX8_edges 8 0 := ⟨⟨a_in 762 (by decide +kernel) (by decide +kernel), a_in 58 (by decide +kernel) (by decide +kernel), ⟨by decide +kernel, by decide +kernel⟩, by decide +kernel, by decide⟩, a_in 761 (by decide +kernel) (by decide +kernel), a_in 23 (by decide +kernel) (by decide +kernel), _, _, rfl⟩
abbrev mX8_draw : aM := (yX8_draw, cX8_draw, 6, (some .int))
theorem tmX8_draw : a_mv mX8_draw 8 2 := ⟨⟨a_in 756 (by decide +kernel) (by decide +kernel), a_in 58 (by decide +kernel) (by decide +kernel), ⟨by decide +kernel, by decide +kernel⟩, by decide +kernel, by decide⟩, a_in 754 (by decide +kernel) (by decide +kernel), a_in 755 (by decide +kernel) (by decide +kernel), _, _, rfl⟩
abbrev mX8_common : aM := (yX8_common, cX8_common, 5, (some .int))
theorem tmX8_common : a_ms mX8_common 2 := ⟨⟨a_in 773 (by decide +kernel) (by decide +kernel), a_in 58 (by decide +kernel) (by decide +kernel), ⟨by decide +kernel, by decide +kernel⟩, by decide +kernel, by decide⟩, a_in 772 (by decide +kernel) (by decide +kernel)⟩
abbrev mX8_turn : aM := (yX8_turn, cX8_turn, 7, (some .int))
theorem tmX8_turn : a_mv mX8_turn 8 2 := ⟨⟨a_in 770 (by decide +kernel) (by decide +kernel), a_in 58 (by decide +kernel) (by decide +kernel), ⟨by decide +kernel, by decide +kernel⟩, by decide +kernel, by decide⟩, a_in 768 (by decide +kernel) (by decide +kernel), a_in 769 (by decide +kernel) (by decide +kernel), _, _, rfl⟩
abbrev mX8_degreeOf : aM := (yX8_degreeOf, cX8_degreeOf, 4, (some .int))
theorem tmX8_degreeOf : a_mv mX8_degreeOf 8 1 := ⟨⟨a_in 766 (by decide +kernel) (by decide +kernel), a_in 58 (by decide +kernel) (by decide +kernel), ⟨by decide +kernel, by decide +kernel⟩, by decide +kernel, by decide⟩, a_in 765 (by decide +kernel) (by decide +kernel), a_in 24 (by decide +kernel) (by decide +kernel), _, _, rfl⟩
abbrev mX8_count : aM := (yX8_count, cX8_count, 4, (some .int))
theorem tmX8_count : a_mv mX8_count 8 1 := ⟨⟨a_in 777 (by decide +kernel) (by decide +kernel), a_in 58 (by decide +kernel) (by decide +kernel), ⟨by decide +kernel, by decide +kernel⟩, by decide +kernel, by decide⟩, a_in 775 (by decide +kernel) (by decide +kernel), a_in 776 (by decide +kernel) (by decide +kernel), _, _, rfl⟩
abbrev mX8_has : aM := (yX8_has, cX8_has, 3, (some .boolean))
theorem tmX8_has : a_mv mX8_has 8 2 := ⟨⟨a_in 781 (by decide +kernel) (by decide +kernel), a_in 58 (by decide +kernel) (by decide +kernel), ⟨by decide +kernel, by decide +kernel⟩, by decide +kernel, by decide⟩, a_in 779 (by decide +kernel) (by decide +kernel), a_in 780 (by decide +kernel) (by decide +kernel), _, _, rfl⟩
abbrev mX8_degree : aM := (yX8_degree, cX8_degree, 2, (some .int))
theorem tmX8_degree : a_mv mX8_degree 8 1 := ⟨⟨a_in 785 (by decide +kernel) (by decide +kernel), a_in 58 (by decide +kernel) (by decide +kernel), ⟨by decide +kernel, by decide +kernel⟩, by decide +kernel, by decide⟩, a_in 783 (by decide +kernel) (by decide +kernel), a_in 784 (by decide +kernel) (by decide +kernel), _, _, rfl⟩
abbrev mX8_clearColours : aM := (yX8_clearColours, cX8_clearColours, 2, none)
theorem tmX8_clearColours : a_mv mX8_clearColours 8 0 := ⟨⟨a_in 793 (by decide +kernel) (by decide +kernel), a_in 58 (by decide +kernel) (by decide +kernel), ⟨by decide +kernel, by decide +kernel⟩, by decide +kernel, by decide⟩, a_in 792 (by decide +kernel) (by decide +kernel), a_in 25 (by decide +kernel) (by decide +kernel), _, _, rfl⟩
abbrev mX8_neighbourWith : aM := (yX8_neighbourWith, cX8_neighbourWith, 4, (some .int))
theorem tmX8_neighbourWith : a_mv mX8_neighbourWith 8 2 := ⟨⟨a_in 809 (by decide +kernel) (by decide +kernel), a_in 58 (by decide +kernel) (by decide +kernel), ⟨by decide +kernel, by decide +kernel⟩, by decide +kernel, by decide⟩, a_in 808 (by decide +kernel) (by decide +kernel), a_in 29 (by decide +kernel) (by decide +kernel), _, _, rfl⟩
abbrev mX8_saturationOf : aM := (yX8_saturationOf, cX8_saturationOf, 4, (some .int))
theorem tmX8_saturationOf : a_mv mX8_saturationOf 8 1 := ⟨⟨a_in 805 (by decide +kernel) (by decide +kernel), a_in 58 (by decide +kernel) (by decide +kernel), ⟨by decide +kernel, by decide +kernel⟩, by decide +kernel, by decide⟩, a_in 804 (by decide +kernel) (by decide +kernel), a_in 28 (by decide +kernel) (by decide +kernel), _, _, rfl⟩
abbrev mX8_bare : aM := (yX8_bare, cX8_bare, 4, (some .int))
theorem tmX8_bare : a_mv mX8_bare 8 1 := ⟨⟨a_in 825 (by decide +kernel) (by decide +kernel), a_in 58 (by decide +kernel) (by decide +kernel), ⟨by decide +kernel, by decide +kernel⟩, by decide +kernel, by decide⟩, a_in 824 (by decide +kernel) (by decide +kernel), a_in 32 (by decide +kernel) (by decide +kernel), _, _, rfl⟩
abbrev mX8_standing : aM := (yX8_standing, cX8_standing, 3, (some .int))
theorem tmX8_standing : a_mv mX8_standing 8 0 := ⟨⟨a_in 829 (by decide +kernel) (by decide +kernel), a_in 58 (by decide +kernel) (by decide +kernel), ⟨by decide +kernel, by decide +kernel⟩, by decide +kernel, by decide⟩, a_in 828 (by decide +kernel) (by decide +kernel), a_in 33 (by decide +kernel) (by decide +kernel), _, _, rfl⟩
abbrev mX8_choice : aM := (yX8_choice, cX8_choice, 4, (some .int))
theorem tmX8_choice : a_mv mX8_choice 8 0 := ⟨⟨a_in 821 (by decide +kernel) (by decide +kernel), a_in 58 (by decide +kernel) (by decide +kernel), ⟨by decide +kernel, by decide +kernel⟩, by decide +kernel, by decide⟩, a_in 820 (by decide +kernel) (by decide +kernel), a_in 31 (by decide +kernel) (by decide +kernel), _, _, rfl⟩
abbrev mX8_freeFor : aM := (yX8_freeFor, cX8_freeFor, 7, (some .int))
theorem tmX8_freeFor : a_mv mX8_freeFor 8 2 := ⟨⟨a_in 858 (by decide +kernel) (by decide +kernel), a_in 58 (by decide +kernel) (by decide +kernel), ⟨by decide +kernel, by decide +kernel⟩, by decide +kernel, by decide⟩, a_in 857 (by decide +kernel) (by decide +kernel), a_in 38 (by decide +kernel) (by decide +kernel), _, _, rfl⟩
abbrev mX8_size : aM := (yX8_size, cX8_size, 3, (some .int))
theorem tmX8_size : a_ms mX8_size 1 := ⟨⟨a_in 837 (by decide +kernel) (by decide +kernel), a_in 58 (by decide +kernel) (by decide +kernel), ⟨by decide +kernel, by decide +kernel⟩, by decide +kernel, by decide⟩, a_in 836 (by decide +kernel) (by decide +kernel)⟩
abbrev mX8_isNearAll : aM := (yX8_isNearAll, cX8_isNearAll, 5, (some .boolean))
theorem tmX8_isNearAll : a_mv mX8_isNearAll 8 2 := ⟨⟨a_in 813 (by decide +kernel) (by decide +kernel), a_in 58 (by decide +kernel) (by decide +kernel), ⟨by decide +kernel, by decide +kernel⟩, by decide +kernel, by decide⟩, a_in 812 (by decide +kernel) (by decide +kernel), a_in 30 (by decide +kernel) (by decide +kernel), _, _, rfl⟩
abbrev mX8_firstLeft : aM := (yX8_firstLeft, cX8_firstLeft, 7, (some .int))
theorem tmX8_firstLeft : a_mv mX8_firstLeft 8 1 := ⟨⟨a_in 801 (by decide +kernel) (by decide +kernel), a_in 58 (by decide +kernel) (by decide +kernel), ⟨by decide +kernel, by decide +kernel⟩, by decide +kernel, by decide⟩, a_in 800 (by decide +kernel) (by decide +kernel), a_in 27 (by decide +kernel) (by decide +kernel), _, _, rfl⟩
abbrev mX8_clearSeen : aM := (yX8_clearSeen, cX8_clearSeen, 2, none)
theorem tmX8_clearSeen : a_mv mX8_clearSeen 8 0 := ⟨⟨a_in 797 (by decide +kernel) (by decide +kernel), a_in 58 (by decide +kernel) (by decide +kernel), ⟨by decide +kernel, by decide +kernel⟩, by decide +kernel, by decide⟩, a_in 796 (by decide +kernel) (by decide +kernel), a_in 26 (by decide +kernel) (by decide +kernel), _, _, rfl⟩
abbrev mX8_closing : aM := (yX8_closing, cX8_closing, 4, (some .int))
theorem tmX8_closing : a_mv mX8_closing 8 1 := ⟨⟨a_in 854 (by decide +kernel) (by decide +kernel), a_in 58 (by decide +kernel) (by decide +kernel), ⟨by decide +kernel, by decide +kernel⟩, by decide +kernel, by decide⟩, a_in 853 (by decide +kernel) (by decide +kernel), a_in 37 (by decide +kernel) (by decide +kernel), _, _, rfl⟩
abbrev mX8_clique : aM := (yX8_clique, cX8_clique, 3, (some .int))
theorem tmX8_clique : a_mv mX8_clique 8 0 := ⟨⟨a_in 789 (by decide +kernel) (by decide +kernel), a_in 58 (by decide +kernel) (by decide +kernel), ⟨by decide +kernel, by decide +kernel⟩, by decide +kernel, by decide⟩, a_in 787 (by decide +kernel) (by decide +kernel), a_in 788 (by decide +kernel) (by decide +kernel), _, _, rfl⟩
abbrev mX8_first : aM := (yX8_first, cX8_first, 3, (some .int))
theorem tmX8_first : a_mv mX8_first 8 0 := ⟨⟨a_in 817 (by decide +kernel) (by decide +kernel), a_in 58 (by decide +kernel) (by decide +kernel), ⟨by decide +kernel, by decide +kernel⟩, by decide +kernel, by decide⟩, a_in 815 (by decide +kernel) (by decide +kernel), a_in 816 (by decide +kernel) (by decide +kernel), _, _, rfl⟩
abbrev mX8_write : aM := (yX8_write, cX8_write, 3, (some .boolean))
theorem tmX8_write : a_mv mX8_write 8 2 := ⟨⟨a_in 862 (by decide +kernel) (by decide +kernel), a_in 58 (by decide +kernel) (by decide +kernel), ⟨by decide +kernel, by decide +kernel⟩, by decide +kernel, by decide⟩, a_in 861 (by decide +kernel) (by decide +kernel), a_in 39 (by decide +kernel) (by decide +kernel), _, _, rfl⟩
abbrev mX8_enter : aM := (yX8_enter, cX8_enter, 2, none)
theorem tmX8_enter : a_mv mX8_enter 8 1 := ⟨⟨a_in 866 (by decide +kernel) (by decide +kernel), a_in 58 (by decide +kernel) (by decide +kernel), ⟨by decide +kernel, by decide +kernel⟩, by decide +kernel, by decide⟩, a_in 865 (by decide +kernel) (by decide +kernel), a_in 40 (by decide +kernel) (by decide +kernel), _, _, rfl⟩
abbrev mX8_come : aM := (yX8_come, cX8_come, 4, (some .int))
theorem tmX8_come : a_mv mX8_come 8 1 := ⟨⟨a_in 850 (by decide +kernel) (by decide +kernel), a_in 58 (by decide +kernel) (by decide +kernel), ⟨by decide +kernel, by decide +kernel⟩, by decide +kernel, by decide⟩, a_in 849 (by decide +kernel) (by decide +kernel), a_in 36 (by decide +kernel) (by decide +kernel), _, _, rfl⟩
abbrev mX8_goOn : aM := (yX8_goOn, cX8_goOn, 6, (some .int))
theorem tmX8_goOn : a_mv mX8_goOn 8 1 := ⟨⟨a_in 870 (by decide +kernel) (by decide +kernel), a_in 58 (by decide +kernel) (by decide +kernel), ⟨by decide +kernel, by decide +kernel⟩, by decide +kernel, by decide⟩, a_in 869 (by decide +kernel) (by decide +kernel), a_in 41 (by decide +kernel) (by decide +kernel), _, _, rfl⟩
abbrev mX8_seek : aM := (yX8_seek, cX8_seek, 3, (some .int))
theorem tmX8_seek : a_mv mX8_seek 8 1 := ⟨⟨a_in 846 (by decide +kernel) (by decide +kernel), a_in 58 (by decide +kernel) (by decide +kernel), ⟨by decide +kernel, by decide +kernel⟩, by decide +kernel, by decide⟩, a_in 845 (by decide +kernel) (by decide +kernel), a_in 35 (by decide +kernel) (by decide +kernel), _, _, rfl⟩
abbrev mX8_countWork : aM := (yX8_countWork, cX8_countWork, 3, none)
theorem tmX8_countWork : a_mv mX8_countWork 8 1 := ⟨⟨a_in 874 (by decide +kernel) (by decide +kernel), a_in 58 (by decide +kernel) (by decide +kernel), ⟨by decide +kernel, by decide +kernel⟩, by decide +kernel, by decide⟩, a_in 873 (by decide +kernel) (by decide +kernel), a_in 42 (by decide +kernel) (by decide +kernel), _, _, rfl⟩
abbrev mX8_keepBest : aM := (yX8_keepBest, cX8_keepBest, 2, none)
theorem tmX8_keepBest : a_mv mX8_keepBest 8 0 := ⟨⟨a_in 842 (by decide +kernel) (by decide +kernel), a_in 58 (by decide +kernel) (by decide +kernel), ⟨by decide +kernel, by decide +kernel⟩, by decide +kernel, by decide⟩, a_in 841 (by decide +kernel) (by decide +kernel), a_in 34 (by decide +kernel) (by decide +kernel), _, _, rfl⟩
abbrev mX8_solve : aM := (yX8_solve, cX8_solve, 6, (some .int))
theorem tmX8_solve : a_mv mX8_solve 8 0 := ⟨⟨a_in 833 (by decide +kernel) (by decide +kernel), a_in 58 (by decide +kernel) (by decide +kernel), ⟨by decide +kernel, by decide +kernel⟩, by decide +kernel, by decide⟩, a_in 831 (by decide +kernel) (by decide +kernel), a_in 832 (by decide +kernel) (by decide +kernel), _, _, rfl⟩
abbrev mX8_colour : aM := (yX8_colour, cX8_colour, 2, (some .int))
theorem tmX8_colour : a_mv mX8_colour 8 1 := ⟨⟨a_in 878 (by decide +kernel) (by decide +kernel), a_in 58 (by decide +kernel) (by decide +kernel), ⟨by decide +kernel, by decide +kernel⟩, by decide +kernel, by decide⟩, a_in 876 (by decide +kernel) (by decide +kernel), a_in 877 (by decide +kernel) (by decide +kernel), _, _, rfl⟩
abbrev mX8_lines : aM := (yX8_lines, cX8_lines, 1, (some .int))
theorem tmX8_lines : a_mv mX8_lines 8 0 := ⟨⟨a_in 882 (by decide +kernel) (by decide +kernel), a_in 58 (by decide +kernel) (by decide +kernel), ⟨by decide +kernel, by decide +kernel⟩, by decide +kernel, by decide⟩, a_in 880 (by decide +kernel) (by decide +kernel), a_in 881 (by decide +kernel) (by decide +kernel), _, _, rfl⟩
abbrev mX8_line : aM := (yX8_line, cX8_line, 3, (some .int))
theorem tmX8_line : a_mv mX8_line 8 2 := ⟨⟨a_in 886 (by decide +kernel) (by decide +kernel), a_in 58 (by decide +kernel) (by decide +kernel), ⟨by decide +kernel, by decide +kernel⟩, by decide +kernel, by decide⟩, a_in 884 (by decide +kernel) (by decide +kernel), a_in 885 (by decide +kernel) (by decide +kernel), _, _, rfl⟩
abbrev mX8_work : aM := (yX8_work, cX8_work, 2, (some .int))
theorem tmX8_work : a_mv mX8_work 8 1 := ⟨⟨a_in 890 (by decide +kernel) (by decide +kernel), a_in 58 (by decide +kernel) (by decide +kernel), ⟨by decide +kernel, by decide +kernel⟩, by decide +kernel, by decide⟩, a_in 888 (by decide +kernel) (by decide +kernel), a_in 889 (by decide +kernel) (by decide +kernel), _, _, rfl⟩
abbrev mX8_tellWritten : aM := (yX8_tellWritten, cX8_tellWritten, 2, none)
theorem tmX8_tellWritten : a_mv mX8_tellWritten 8 0 := ⟨⟨a_in 898 (by decide +kernel) (by decide +kernel), a_in 58 (by decide +kernel) (by decide +kernel), ⟨by decide +kernel, by decide +kernel⟩, by decide +kernel, by decide⟩, a_in 897 (by decide +kernel) (by decide +kernel), a_in 43 (by decide +kernel) (by decide +kernel), _, _, rfl⟩
abbrev mX8_search : aM := (yX8_search, cX8_search, 3, (some .int))
theorem tmX8_search : a_mv mX8_search 8 1 := ⟨⟨a_in 894 (by decide +kernel) (by decide +kernel), a_in 58 (by decide +kernel) (by decide +kernel), ⟨by decide +kernel, by decide +kernel⟩, by decide +kernel, by decide⟩, a_in 892 (by decide +kernel) (by decide +kernel), a_in 893 (by decide +kernel) (by decide +kernel), _, _, rfl⟩
abbrev mX8_tell : aM := (yX8_tell, cX8_tell, 3, (some .int))
theorem tmX8_tell : a_mv mX8_tell 8 2 := ⟨⟨a_in 902 (by decide +kernel) (by decide +kernel), a_in 58 (by decide +kernel) (by decide +kernel), ⟨by decide +kernel, by decide +kernel⟩, by decide +kernel, by decide⟩, a_in 900 (by decide +kernel) (by decide +kernel), a_in 901 (by decide +kernel) (by decide +kernel), _, _, rfl⟩
abbrev mX8_take : aM := (yX8_take, cX8_take, 2, (some .int))
theorem tmX8_take : a_mv mX8_take 8 0 := ⟨⟨a_in 906 (by decide +kernel) (by decide +kernel), a_in 58 (by decide +kernel) (by decide +kernel), ⟨by decide +kernel, by decide +kernel⟩, by decide +kernel, by decide⟩, a_in 904 (by decide +kernel) (by decide +kernel), a_in 905 (by decide +kernel) (by decide +kernel), _, _, rfl⟩
abbrev mX8_alter : aM := (yX8_alter, cX8_alter, 4, (some .int))
theorem tmX8_alter : a_mv mX8_alter 8 3 := ⟨⟨a_in 910 (by decide +kernel) (by decide +kernel), a_in 58 (by decide +kernel) (by decide +kernel), ⟨by decide +kernel, by decide +kernel⟩, by decide +kernel, by decide⟩, a_in 908 (by decide +kernel) (by decide +kernel), a_in 909 (by decide +kernel) (by decide +kernel), _, _, rfl⟩
abbrev mX8_cut : aM := (yX8_cut, cX8_cut, 2, (some .int))
theorem tmX8_cut : a_mv mX8_cut 8 1 := ⟨⟨a_in 914 (by decide +kernel) (by decide +kernel), a_in 58 (by decide +kernel) (by decide +kernel), ⟨by decide +kernel, by decide +kernel⟩, by decide +kernel, by decide⟩, a_in 912 (by decide +kernel) (by decide +kernel), a_in 913 (by decide +kernel) (by decide +kernel), _, _, rfl⟩
abbrev mX8_told : aM := (yX8_told, cX8_told, 3, (some .int))
theorem tmX8_told : a_mv mX8_told 8 2 := ⟨⟨a_in 918 (by decide +kernel) (by decide +kernel), a_in 58 (by decide +kernel) (by decide +kernel), ⟨by decide +kernel, by decide +kernel⟩, by decide +kernel, by decide⟩, a_in 916 (by decide +kernel) (by decide +kernel), a_in 917 (by decide +kernel) (by decide +kernel), _, _, rfl⟩
abbrev mX8_closes : aM := (yX8_closes, cX8_closes, 5, (some .boolean))
theorem tmX8_closes : a_mv mX8_closes 8 2 := ⟨⟨a_in 930 (by decide +kernel) (by decide +kernel), a_in 58 (by decide +kernel) (by decide +kernel), ⟨by decide +kernel, by decide +kernel⟩, by decide +kernel, by decide⟩, a_in 929 (by decide +kernel) (by decide +kernel), a_in 45 (by decide +kernel) (by decide +kernel), _, _, rfl⟩
abbrev mX8_begins : aM := (yX8_begins, cX8_begins, 5, (some .boolean))
theorem tmX8_begins : a_mv mX8_begins 8 2 := ⟨⟨a_in 926 (by decide +kernel) (by decide +kernel), a_in 58 (by decide +kernel) (by decide +kernel), ⟨by decide +kernel, by decide +kernel⟩, by decide +kernel, by decide⟩, a_in 925 (by decide +kernel) (by decide +kernel), a_in 44 (by decide +kernel) (by decide +kernel), _, _, rfl⟩
abbrev mX8_leave : aM := (yX8_leave, cX8_leave, 4, none)
theorem tmX8_leave : a_mv mX8_leave 8 1 := ⟨⟨a_in 938 (by decide +kernel) (by decide +kernel), a_in 58 (by decide +kernel) (by decide +kernel), ⟨by decide +kernel, by decide +kernel⟩, by decide +kernel, by decide⟩, a_in 937 (by decide +kernel) (by decide +kernel), a_in 47 (by decide +kernel) (by decide +kernel), _, _, rfl⟩
abbrev mX8_stands : aM := (yX8_stands, cX8_stands, 6, (some .int))
theorem tmX8_stands : a_mv mX8_stands 8 1 := ⟨⟨a_in 934 (by decide +kernel) (by decide +kernel), a_in 58 (by decide +kernel) (by decide +kernel), ⟨by decide +kernel, by decide +kernel⟩, by decide +kernel, by decide⟩, a_in 933 (by decide +kernel) (by decide +kernel), a_in 46 (by decide +kernel) (by decide +kernel), _, _, rfl⟩
abbrev mX8_check : aM := (yX8_check, cX8_check, 5, (some .int))
theorem tmX8_check : a_mv mX8_check 8 1 := ⟨⟨a_in 922 (by decide +kernel) (by decide +kernel), a_in 58 (by decide +kernel) (by decide +kernel), ⟨by decide +kernel, by decide +kernel⟩, by decide +kernel, by decide⟩, a_in 920 (by decide +kernel) (by decide +kernel), a_in 921 (by decide +kernel) (by decide +kernel), _, _, rfl⟩
abbrev mX8_paint : aM := (yX8_paint, cX8_paint, 4, (some .int))
theorem tmX8_paint : a_mv mX8_paint 8 2 := ⟨⟨a_in 942 (by decide +kernel) (by decide +kernel), a_in 58 (by decide +kernel) (by decide +kernel), ⟨by decide +kernel, by decide +kernel⟩, by decide +kernel, by decide⟩, a_in 940 (by decide +kernel) (by decide +kernel), a_in 941 (by decide +kernel) (by decide +kernel), _, _, rfl⟩
abbrev mX8_copy : aM := (yX8_copy, cX8_copy, 2, (some .int))
theorem tmX8_copy : a_mv mX8_copy 8 0 := ⟨⟨a_in 946 (by decide +kernel) (by decide +kernel), a_in 58 (by decide +kernel) (by decide +kernel), ⟨by decide +kernel, by decide +kernel⟩, by decide +kernel, by decide⟩, a_in 944 (by decide +kernel) (by decide +kernel), a_in 945 (by decide +kernel) (by decide +kernel), _, _, rfl⟩
abbrev mX8_clashes : aM := (yX8_clashes, cX8_clashes, 4, (some .int))
theorem tmX8_clashes : a_mv mX8_clashes 8 0 := ⟨⟨a_in 950 (by decide +kernel) (by decide +kernel), a_in 58 (by decide +kernel) (by decide +kernel), ⟨by decide +kernel, by decide +kernel⟩, by decide +kernel, by decide⟩, a_in 948 (by decide +kernel) (by decide +kernel), a_in 949 (by decide +kernel) (by decide +kernel), _, _, rfl⟩
abbrev mX8_used : aM := (yX8_used, cX8_used, 5, (some .int))
theorem tmX8_used : a_mv mX8_used 8 0 := ⟨⟨a_in 954 (by decide +kernel) (by decide +kernel), a_in 58 (by decide +kernel) (by decide +kernel), ⟨by decide +kernel, by decide +kernel⟩, by decide +kernel, by decide⟩, a_in 952 (by decide +kernel) (by decide +kernel), a_in 953 (by decide +kernel) (by decide +kernel), _, _, rfl⟩
abbrev mX8_chain : aM := (yX8_chain, cX8_chain, 8, (some .int))
theorem tmX8_chain : a_mv mX8_chain 8 2 := ⟨⟨a_in 958 (by decide +kernel) (by decide +kernel), a_in 58 (by decide +kernel) (by decide +kernel), ⟨by decide +kernel, by decide +kernel⟩, by decide +kernel, by decide⟩, a_in 956 (by decide +kernel) (by decide +kernel), a_in 957 (by decide +kernel) (by decide +kernel), _, _, rfl⟩
abbrev mX8_saturation : aM := (yX8_saturation, cX8_saturation, 6, (some .int))
theorem tmX8_saturation : a_mv mX8_saturation 8 1 := ⟨⟨a_in 962 (by decide +kernel) (by decide +kernel), a_in 58 (by decide +kernel) (by decide +kernel), ⟨by decide +kernel, by decide +kernel⟩, by decide +kernel, by decide⟩, a_in 960 (by decide +kernel) (by decide +kernel), a_in 961 (by decide +kernel) (by decide +kernel), _, _, rfl⟩
abbrev mJ6_bitCount_0f7a4 : aM := (yJ6_bitCount_0f7a4, cJ6_bitCount_0f7a4, 1, (some .int))
theorem tmJ6_bitCount_0f7a4 : a_ms mJ6_bitCount_0f7a4 1 := ⟨⟨a_in 336 (by decide +kernel) (by decide +kernel), a_in 59 (by decide +kernel) (by decide +kernel), ⟨by decide +kernel, by decide +kernel⟩, by decide +kernel, by decide⟩, a_in 335 (by decide +kernel) (by decide +kernel)⟩
abbrev mJ9_max_7cf53 : aM := (yJ9_max_7cf53, cJ9_max_7cf53, 2, (some .int))
theorem tmJ9_max_7cf53 : a_ms mJ9_max_7cf53 2 := ⟨⟨a_in 366 (by decide +kernel) (by decide +kernel), a_in 61 (by decide +kernel) (by decide +kernel), ⟨by decide +kernel, by decide +kernel⟩, by decide +kernel, by decide⟩, a_in 365 (by decide +kernel) (by decide +kernel)⟩
abbrev mJ7_fill_53178 : aM := (yJ7_fill_53178, cJ7_fill_53178, 4, none)
theorem tmJ7_fill_53178 : a_ms mJ7_fill_53178 2 := ⟨⟨a_in 253 (by decide +kernel) (by decide +kernel), a_in 57 (by decide +kernel) (by decide +kernel), ⟨by decide +kernel, by decide +kernel⟩, by decide +kernel, by decide⟩, a_in 252 (by decide +kernel) (by decide +kernel)⟩
theorem nwL_7 : a_new RL 7 7 7 [.null, .null, .null, .null, .null, .null, .null] := ⟨RX7, TX7, tyX7, kX7, a_in 62 (by decide +kernel) (by decide +kernel), a_in 63 (by decide +kernel) (by decide +kernel), a_in 49 (by decide +kernel) (by decide +kernel), fun z b j hj => by
  rcases (show j = 0 ∨ j = 1 ∨ j = 2 ∨ j = 3 ∨ j = 4 ∨ j = 5 ∨ j = 6 by omega) with rfl | rfl | rfl | rfl | rfl | rfl | rfl <;> rfl⟩
theorem lkL_9 : Cond.methodLink RL 9 yX7_init ∈ a_g := a_in 64 (by decide +kernel) (by decide +kernel)
theorem lkX7_1 : Cond.methodLink RX7 1 Lib.objectInit ∈ a_g := a_in 67 (by decide +kernel) (by decide +kernel)
theorem nwX7_7 : a_new RX7 7 2 3 [.int 0, .null, .null] := ⟨RX2, TX2, tyX2, kX2, a_in 70 (by decide +kernel) (by decide +kernel), a_in 71 (by decide +kernel) (by decide +kernel), a_in 50 (by decide +kernel) (by decide +kernel), fun z b j hj => by
  rcases (show j = 0 ∨ j = 1 ∨ j = 2 by omega) with rfl | rfl | rfl <;> rfl⟩
theorem lkX2_3 : Cond.methodLink RX2 3 Lib.objectInit ∈ a_g := a_in 75 (by decide +kernel) (by decide +kernel)
theorem flX2_9 : a_f RX2 9 2 0 (.int) false := ⟨RX2, TX2, 3, tyX2, kX2, by decide, a_in 76 (by decide +kernel) (by decide +kernel), rfl, rfl, fun _ => rfl⟩
theorem flX6_25 : a_f RX6 25 2 0 (.int) false := ⟨RX2, TX2, 3, tyX2, kX2, by decide, a_in 77 (by decide +kernel) (by decide +kernel), rfl, rfl, fun _ => rfl⟩
theorem flX1_44 : a_f RX1 44 2 0 (.int) false := ⟨RX2, TX2, 3, tyX2, kX2, by decide, a_in 78 (by decide +kernel) (by decide +kernel), rfl, rfl, fun _ => rfl⟩
theorem flX4_62 : a_f RX4 62 2 0 (.int) false := ⟨RX2, TX2, 3, tyX2, kX2, by decide, a_in 79 (by decide +kernel) (by decide +kernel), rfl, rfl, fun _ => rfl⟩
theorem flX5_102 : a_f RX5 102 2 0 (.int) false := ⟨RX2, TX2, 3, tyX2, kX2, by decide, a_in 80 (by decide +kernel) (by decide +kernel), rfl, rfl, fun _ => rfl⟩
theorem flX7_98 : a_f RX7 98 2 0 (.int) false := ⟨RX2, TX2, 3, tyX2, kX2, by decide, a_in 81 (by decide +kernel) (by decide +kernel), rfl, rfl, fun _ => rfl⟩
theorem flX0_102 : a_f RX0 102 2 0 (.int) false := ⟨RX2, TX2, 3, tyX2, kX2, by decide, a_in 82 (by decide +kernel) (by decide +kernel), rfl, rfl, fun _ => rfl⟩
theorem flX2_15 : a_f RX2 15 2 1 (.array .int) true := ⟨RX2, TX2, 3, tyX2, kX2, by decide, a_in 83 (by decide +kernel) (by decide +kernel), rfl, rfl, fun _ => rfl⟩
theorem flX1_47 : a_f RX1 47 2 1 (.array .int) true := ⟨RX2, TX2, 3, tyX2, kX2, by decide, a_in 84 (by decide +kernel) (by decide +kernel), rfl, rfl, fun _ => rfl⟩
theorem flX4_76 : a_f RX4 76 2 1 (.array .int) true := ⟨RX2, TX2, 3, tyX2, kX2, by decide, a_in 85 (by decide +kernel) (by decide +kernel), rfl, rfl, fun _ => rfl⟩
theorem flX6_54 : a_f RX6 54 2 1 (.array .int) true := ⟨RX2, TX2, 3, tyX2, kX2, by decide, a_in 86 (by decide +kernel) (by decide +kernel), rfl, rfl, fun _ => rfl⟩
theorem flX0_103 : a_f RX0 103 2 1 (.array .int) true := ⟨RX2, TX2, 3, tyX2, kX2, by decide, a_in 87 (by decide +kernel) (by decide +kernel), rfl, rfl, fun _ => rfl⟩
theorem flX7_195 : a_f RX7 195 2 1 (.array .int) true := ⟨RX2, TX2, 3, tyX2, kX2, by decide, a_in 88 (by decide +kernel) (by decide +kernel), rfl, rfl, fun _ => rfl⟩
theorem flX2_19 : a_f RX2 19 2 2 (.array .int) true := ⟨RX2, TX2, 3, tyX2, kX2, by decide, a_in 89 (by decide +kernel) (by decide +kernel), rfl, rfl, fun _ => rfl⟩
theorem nwX7_16 : a_new RX7 16 1 6 [.null, .null, .null, .null, .int 0, .int 0] := ⟨RX1, TX1, tyX1, kX1, a_in 98 (by decide +kernel) (by decide +kernel), a_in 99 (by decide +kernel) (by decide +kernel), a_in 51 (by decide +kernel) (by decide +kernel), fun z b j hj => by
  rcases (show j = 0 ∨ j = 1 ∨ j = 2 ∨ j = 3 ∨ j = 4 ∨ j = 5 by omega) with rfl | rfl | rfl | rfl | rfl | rfl <;> rfl⟩
theorem lkX7_18 : Cond.methodLink RX7 18 yX1_init ∈ a_g := a_in 100 (by decide +kernel) (by decide +kernel)
theorem lkX1_3 : Cond.methodLink RX1 3 Lib.objectInit ∈ a_g := a_in 103 (by decide +kernel) (by decide +kernel)
theorem flX1_28 : a_f RX1 28 1 0 (.object "ColourProof$Graph") true := ⟨RX1, TX1, 6, tyX1, kX1, by decide, a_in 104 (by decide +kernel) (by decide +kernel), rfl, rfl, fun _ => rfl⟩
theorem flX1_9 : a_f RX1 9 1 1 (.array .int) true := ⟨RX1, TX1, 6, tyX1, kX1, by decide, a_in 105 (by decide +kernel) (by decide +kernel), rfl, rfl, fun _ => rfl⟩
theorem flX5_99 : a_f RX5 99 1 1 (.array .int) true := ⟨RX1, TX1, 6, tyX1, kX1, by decide, a_in 106 (by decide +kernel) (by decide +kernel), rfl, rfl, fun _ => rfl⟩
theorem flX0_99 : a_f RX0 99 1 1 (.array .int) true := ⟨RX1, TX1, 6, tyX1, kX1, by decide, a_in 107 (by decide +kernel) (by decide +kernel), rfl, rfl, fun _ => rfl⟩
theorem flX1_15 : a_f RX1 15 1 2 (.array .int) true := ⟨RX1, TX1, 6, tyX1, kX1, by decide, a_in 108 (by decide +kernel) (by decide +kernel), rfl, rfl, fun _ => rfl⟩
theorem flX1_18 : a_f RX1 18 1 3 (.array .int) true := ⟨RX1, TX1, 6, tyX1, kX1, by decide, a_in 109 (by decide +kernel) (by decide +kernel), rfl, rfl, fun _ => rfl⟩
theorem flX1_21 : a_f RX1 21 1 4 (.int) false := ⟨RX1, TX1, 6, tyX1, kX1, by decide, a_in 110 (by decide +kernel) (by decide +kernel), rfl, rfl, fun _ => rfl⟩
theorem flX4_48 : a_f RX4 48 1 4 (.int) false := ⟨RX1, TX1, 6, tyX1, kX1, by decide, a_in 111 (by decide +kernel) (by decide +kernel), rfl, rfl, fun _ => rfl⟩
theorem flX0_70 : a_f RX0 70 1 4 (.int) false := ⟨RX1, TX1, 6, tyX1, kX1, by decide, a_in 112 (by decide +kernel) (by decide +kernel), rfl, rfl, fun _ => rfl⟩
theorem flX1_25 : a_f RX1 25 1 5 (.int) false := ⟨RX1, TX1, 6, tyX1, kX1, by decide, a_in 113 (by decide +kernel) (by decide +kernel), rfl, rfl, fun _ => rfl⟩
theorem flX0_76 : a_f RX0 76 1 5 (.int) false := ⟨RX1, TX1, 6, tyX1, kX1, by decide, a_in 114 (by decide +kernel) (by decide +kernel), rfl, rfl, fun _ => rfl⟩
theorem flX5_109 : a_f RX5 109 1 5 (.int) false := ⟨RX1, TX1, 6, tyX1, kX1, by decide, a_in 115 (by decide +kernel) (by decide +kernel), rfl, rfl, fun _ => rfl⟩
theorem flX4_83 : a_f RX4 83 1 5 (.int) false := ⟨RX1, TX1, 6, tyX1, kX1, by decide, a_in 116 (by decide +kernel) (by decide +kernel), rfl, rfl, fun _ => rfl⟩
theorem flX7_126 : a_f RX7 126 1 5 (.int) false := ⟨RX1, TX1, 6, tyX1, kX1, by decide, a_in 117 (by decide +kernel) (by decide +kernel), rfl, rfl, fun _ => rfl⟩
theorem nwX7_25 : a_new RX7 25 4 6 [.null, .null, .int 0, .null, .int 0, .int 0] := ⟨RX4, TX4, tyX4, kX4, a_in 131 (by decide +kernel) (by decide +kernel), a_in 132 (by decide +kernel) (by decide +kernel), a_in 52 (by decide +kernel) (by decide +kernel), fun z b j hj => by
  rcases (show j = 0 ∨ j = 1 ∨ j = 2 ∨ j = 3 ∨ j = 4 ∨ j = 5 by omega) with rfl | rfl | rfl | rfl | rfl | rfl <;> rfl⟩
theorem lkX7_27 : Cond.methodLink RX7 27 yX4_init ∈ a_g := a_in 133 (by decide +kernel) (by decide +kernel)
theorem lkX4_3 : Cond.methodLink RX4 3 Lib.objectInit ∈ a_g := a_in 136 (by decide +kernel) (by decide +kernel)
theorem nwX4_15 : a_new RX4 15 3 3 [.int 0, .null, .null] := ⟨RX3, TX3, tyX3, kX3, a_in 137 (by decide +kernel) (by decide +kernel), a_in 138 (by decide +kernel) (by decide +kernel), a_in 53 (by decide +kernel) (by decide +kernel), fun z b j hj => by
  rcases (show j = 0 ∨ j = 1 ∨ j = 2 by omega) with rfl | rfl | rfl <;> rfl⟩
theorem lkX3_3 : Cond.methodLink RX3 3 Lib.objectInit ∈ a_g := a_in 142 (by decide +kernel) (by decide +kernel)
theorem flX3_9 : a_f RX3 9 3 0 (.int) false := ⟨RX3, TX3, 3, tyX3, kX3, by decide, a_in 143 (by decide +kernel) (by decide +kernel), rfl, rfl, fun _ => rfl⟩
theorem flX4_36 : a_f RX4 36 3 0 (.int) false := ⟨RX3, TX3, 3, tyX3, kX3, by decide, a_in 144 (by decide +kernel) (by decide +kernel), rfl, rfl, fun _ => rfl⟩
theorem flX0_39 : a_f RX0 39 3 0 (.int) false := ⟨RX3, TX3, 3, tyX3, kX3, by decide, a_in 145 (by decide +kernel) (by decide +kernel), rfl, rfl, fun _ => rfl⟩
theorem flX5_92 : a_f RX5 92 3 0 (.int) false := ⟨RX3, TX3, 3, tyX3, kX3, by decide, a_in 146 (by decide +kernel) (by decide +kernel), rfl, rfl, fun _ => rfl⟩
theorem flX7_132 : a_f RX7 132 3 0 (.int) false := ⟨RX3, TX3, 3, tyX3, kX3, by decide, a_in 147 (by decide +kernel) (by decide +kernel), rfl, rfl, fun _ => rfl⟩
theorem flX3_15 : a_f RX3 15 3 1 (.array .int) true := ⟨RX3, TX3, 3, tyX3, kX3, by decide, a_in 148 (by decide +kernel) (by decide +kernel), rfl, rfl, fun _ => rfl⟩
theorem flX0_51 : a_f RX0 51 3 1 (.array .int) true := ⟨RX3, TX3, 3, tyX3, kX3, by decide, a_in 149 (by decide +kernel) (by decide +kernel), rfl, rfl, fun _ => rfl⟩
theorem flX7_157 : a_f RX7 157 3 1 (.array .int) true := ⟨RX3, TX3, 3, tyX3, kX3, by decide, a_in 150 (by decide +kernel) (by decide +kernel), rfl, rfl, fun _ => rfl⟩
theorem flX3_19 : a_f RX3 19 3 2 (.array .int) true := ⟨RX3, TX3, 3, tyX3, kX3, by decide, a_in 151 (by decide +kernel) (by decide +kernel), rfl, rfl, fun _ => rfl⟩
theorem flX0_47 : a_f RX0 47 3 2 (.array .int) true := ⟨RX3, TX3, 3, tyX3, kX3, by decide, a_in 152 (by decide +kernel) (by decide +kernel), rfl, rfl, fun _ => rfl⟩
theorem flX7_160 : a_f RX7 160 3 2 (.array .int) true := ⟨RX3, TX3, 3, tyX3, kX3, by decide, a_in 153 (by decide +kernel) (by decide +kernel), rfl, rfl, fun _ => rfl⟩
theorem flX4_28 : a_f RX4 28 4 0 (.object "ColourProof$Graph") true := ⟨RX4, TX4, 6, tyX4, kX4, by decide, a_in 161 (by decide +kernel) (by decide +kernel), rfl, rfl, fun _ => rfl⟩
theorem flX4_32 : a_f RX4 32 4 1 (.object "ColourProof$Colouring") true := ⟨RX4, TX4, 6, tyX4, kX4, by decide, a_in 162 (by decide +kernel) (by decide +kernel), rfl, rfl, fun _ => rfl⟩
theorem flX4_9 : a_f RX4 9 4 2 (.int) false := ⟨RX4, TX4, 6, tyX4, kX4, by decide, a_in 163 (by decide +kernel) (by decide +kernel), rfl, rfl, fun _ => rfl⟩
theorem flX4_18 : a_f RX4 18 4 3 (.object "ColourProof$Log") true := ⟨RX4, TX4, 6, tyX4, kX4, by decide, a_in 164 (by decide +kernel) (by decide +kernel), rfl, rfl, fun _ => rfl⟩
theorem flX5_87 : a_f RX5 87 4 3 (.object "ColourProof$Log") true := ⟨RX4, TX4, 6, tyX4, kX4, by decide, a_in 165 (by decide +kernel) (by decide +kernel), rfl, rfl, fun _ => rfl⟩
theorem flX7_143 : a_f RX7 143 4 3 (.object "ColourProof$Log") true := ⟨RX4, TX4, 6, tyX4, kX4, by decide, a_in 166 (by decide +kernel) (by decide +kernel), rfl, rfl, fun _ => rfl⟩
theorem flX4_22 : a_f RX4 22 4 4 (.int) false := ⟨RX4, TX4, 6, tyX4, kX4, by decide, a_in 167 (by decide +kernel) (by decide +kernel), rfl, rfl, fun _ => rfl⟩
theorem flX5_112 : a_f RX5 112 4 4 (.int) false := ⟨RX4, TX4, 6, tyX4, kX4, by decide, a_in 168 (by decide +kernel) (by decide +kernel), rfl, rfl, fun _ => rfl⟩
theorem flX4_25 : a_f RX4 25 4 5 (.int) false := ⟨RX4, TX4, 6, tyX4, kX4, by decide, a_in 169 (by decide +kernel) (by decide +kernel), rfl, rfl, fun _ => rfl⟩
theorem flX5_115 : a_f RX5 115 4 5 (.int) false := ⟨RX4, TX4, 6, tyX4, kX4, by decide, a_in 170 (by decide +kernel) (by decide +kernel), rfl, rfl, fun _ => rfl⟩
theorem nwX7_34 : a_new RX7 34 5 8 [.null, .null, .null, .int 0, .null, .int 0, .null, .null] := ⟨RX5, TX5, tyX5, kX5, a_in 184 (by decide +kernel) (by decide +kernel), a_in 185 (by decide +kernel) (by decide +kernel), a_in 54 (by decide +kernel) (by decide +kernel), fun z b j hj => by
  rcases (show j = 0 ∨ j = 1 ∨ j = 2 ∨ j = 3 ∨ j = 4 ∨ j = 5 ∨ j = 6 ∨ j = 7 by omega) with rfl | rfl | rfl | rfl | rfl | rfl | rfl | rfl <;> rfl⟩
theorem lkX7_36 : Cond.methodLink RX7 36 yX5_init ∈ a_g := a_in 186 (by decide +kernel) (by decide +kernel)
theorem lkX5_3 : Cond.methodLink RX5 3 Lib.objectInit ∈ a_g := a_in 189 (by decide +kernel) (by decide +kernel)
theorem nwX5_23 : a_new RX5 23 3 3 [.int 0, .null, .null] := ⟨RX3, TX3, tyX3, kX3, a_in 190 (by decide +kernel) (by decide +kernel), a_in 138 (by decide +kernel) (by decide +kernel), a_in 53 (by decide +kernel) (by decide +kernel), fun z b j hj => by
  rcases (show j = 0 ∨ j = 1 ∨ j = 2 by omega) with rfl | rfl | rfl <;> rfl⟩
theorem flX5_33 : a_f RX5 33 5 0 (.object "ColourProof$Graph") true := ⟨RX5, TX5, 8, tyX5, kX5, by decide, a_in 192 (by decide +kernel) (by decide +kernel), rfl, rfl, fun _ => rfl⟩
theorem flX5_37 : a_f RX5 37 5 1 (.object "ColourProof$Colouring") true := ⟨RX5, TX5, 8, tyX5, kX5, by decide, a_in 193 (by decide +kernel) (by decide +kernel), rfl, rfl, fun _ => rfl⟩
theorem flX5_41 : a_f RX5 41 5 2 (.object "ColourProof$Search") true := ⟨RX5, TX5, 8, tyX5, kX5, by decide, a_in 194 (by decide +kernel) (by decide +kernel), rfl, rfl, fun _ => rfl⟩
theorem flX5_9 : a_f RX5 9 5 3 (.boolean) false := ⟨RX5, TX5, 8, tyX5, kX5, by decide, a_in 195 (by decide +kernel) (by decide +kernel), rfl, rfl, fun _ => rfl⟩
theorem flX7_112 : a_f RX7 112 5 3 (.boolean) false := ⟨RX5, TX5, 8, tyX5, kX5, by decide, a_in 196 (by decide +kernel) (by decide +kernel), rfl, rfl, fun _ => rfl⟩
theorem flX5_15 : a_f RX5 15 5 4 (.array .int) true := ⟨RX5, TX5, 8, tyX5, kX5, by decide, a_in 197 (by decide +kernel) (by decide +kernel), rfl, rfl, fun _ => rfl⟩
theorem flX7_116 : a_f RX7 116 5 4 (.array .int) true := ⟨RX5, TX5, 8, tyX5, kX5, by decide, a_in 198 (by decide +kernel) (by decide +kernel), rfl, rfl, fun _ => rfl⟩
theorem flX5_19 : a_f RX5 19 5 5 (.int) false := ⟨RX5, TX5, 8, tyX5, kX5, by decide, a_in 199 (by decide +kernel) (by decide +kernel), rfl, rfl, fun _ => rfl⟩
theorem flX5_26 : a_f RX5 26 5 6 (.object "ColourProof$Log") true := ⟨RX5, TX5, 8, tyX5, kX5, by decide, a_in 200 (by decide +kernel) (by decide +kernel), rfl, rfl, fun _ => rfl⟩
theorem flX7_129 : a_f RX7 129 5 6 (.object "ColourProof$Log") true := ⟨RX5, TX5, 8, tyX5, kX5, by decide, a_in 201 (by decide +kernel) (by decide +kernel), rfl, rfl, fun _ => rfl⟩
theorem flX5_30 : a_f RX5 30 5 7 (.array .int) true := ⟨RX5, TX5, 8, tyX5, kX5, by decide, a_in 202 (by decide +kernel) (by decide +kernel), rfl, rfl, fun _ => rfl⟩
theorem flX7_137 : a_f RX7 137 5 7 (.array .int) true := ⟨RX5, TX5, 8, tyX5, kX5, by decide, a_in 203 (by decide +kernel) (by decide +kernel), rfl, rfl, fun _ => rfl⟩
theorem nwX7_43 : a_new RX7 43 3 3 [.int 0, .null, .null] := ⟨RX3, TX3, tyX3, kX3, a_in 221 (by decide +kernel) (by decide +kernel), a_in 138 (by decide +kernel) (by decide +kernel), a_in 53 (by decide +kernel) (by decide +kernel), fun z b j hj => by
  rcases (show j = 0 ∨ j = 1 ∨ j = 2 by omega) with rfl | rfl | rfl <;> rfl⟩
theorem nwX7_50 : a_new RX7 50 0 5 [.null, .null, .null, .int 0, .int 0] := ⟨RX0, TX0, tyX0, kX0, a_in 223 (by decide +kernel) (by decide +kernel), a_in 224 (by decide +kernel) (by decide +kernel), a_in 55 (by decide +kernel) (by decide +kernel), fun z b j hj => by
  rcases (show j = 0 ∨ j = 1 ∨ j = 2 ∨ j = 3 ∨ j = 4 by omega) with rfl | rfl | rfl | rfl | rfl <;> rfl⟩
theorem lkX7_52 : Cond.methodLink RX7 52 yX0_init ∈ a_g := a_in 225 (by decide +kernel) (by decide +kernel)
theorem lkX0_3 : Cond.methodLink RX0 3 Lib.objectInit ∈ a_g := a_in 228 (by decide +kernel) (by decide +kernel)
theorem flX0_18 : a_f RX0 18 0 0 (.object "ColourProof$Graph") true := ⟨RX0, TX0, 5, tyX0, kX0, by decide, a_in 229 (by decide +kernel) (by decide +kernel), rfl, rfl, fun _ => rfl⟩
theorem flX0_22 : a_f RX0 22 0 1 (.object "ColourProof$Colouring") true := ⟨RX0, TX0, 5, tyX0, kX0, by decide, a_in 230 (by decide +kernel) (by decide +kernel), rfl, rfl, fun _ => rfl⟩
theorem flX0_26 : a_f RX0 26 0 2 (.object "ColourProof$Log") true := ⟨RX0, TX0, 5, tyX0, kX0, by decide, a_in 231 (by decide +kernel) (by decide +kernel), rfl, rfl, fun _ => rfl⟩
theorem flX0_9 : a_f RX0 9 0 3 (.int) false := ⟨RX0, TX0, 5, tyX0, kX0, by decide, a_in 232 (by decide +kernel) (by decide +kernel), rfl, rfl, fun _ => rfl⟩
theorem flX0_15 : a_f RX0 15 0 4 (.int) false := ⟨RX0, TX0, 5, tyX0, kX0, by decide, a_in 233 (by decide +kernel) (by decide +kernel), rfl, rfl, fun _ => rfl⟩
theorem nwX7_59 : a_new RX7 59 6 2 [.null, .null] := ⟨RX6, TX6, tyX6, kX6, a_in 245 (by decide +kernel) (by decide +kernel), a_in 246 (by decide +kernel) (by decide +kernel), a_in 56 (by decide +kernel) (by decide +kernel), fun z b j hj => by
  rcases (show j = 0 ∨ j = 1 by omega) with rfl | rfl <;> rfl⟩
theorem lkX7_61 : Cond.methodLink RX7 61 yX6_init ∈ a_g := a_in 247 (by decide +kernel) (by decide +kernel)
theorem lkX6_3 : Cond.methodLink RX6 3 Lib.objectInit ∈ a_g := a_in 250 (by decide +kernel) (by decide +kernel)
theorem lkX6_19 : Cond.methodLink RX6 19 yJ7_fill_53178 ∈ a_g := a_in 251 (by decide +kernel) (by decide +kernel)
theorem flX6_15 : a_f RX6 15 6 0 (.object "ColourProof$Graph") true := ⟨RX6, TX6, 2, tyX6, kX6, by decide, a_in 254 (by decide +kernel) (by decide +kernel), rfl, rfl, fun _ => rfl⟩
theorem flX6_9 : a_f RX6 9 6 1 (.array .int) true := ⟨RX6, TX6, 2, tyX6, kX6, by decide, a_in 255 (by decide +kernel) (by decide +kernel), rfl, rfl, fun _ => rfl⟩
theorem flX7_169 : a_f RX7 169 6 1 (.array .int) true := ⟨RX6, TX6, 2, tyX6, kX6, by decide, a_in 256 (by decide +kernel) (by decide +kernel), rfl, rfl, fun _ => rfl⟩
theorem flX7_10 : a_f RX7 10 7 0 (.object "ColourProof$Graph") true := ⟨RX7, TX7, 7, tyX7, kX7, by decide, a_in 262 (by decide +kernel) (by decide +kernel), rfl, rfl, fun _ => rfl⟩
theorem flX7_21 : a_f RX7 21 7 1 (.object "ColourProof$Colouring") true := ⟨RX7, TX7, 7, tyX7, kX7, by decide, a_in 263 (by decide +kernel) (by decide +kernel), rfl, rfl, fun _ => rfl⟩
theorem flX7_30 : a_f RX7 30 7 2 (.object "ColourProof$Search") true := ⟨RX7, TX7, 7, tyX7, kX7, by decide, a_in 264 (by decide +kernel) (by decide +kernel), rfl, rfl, fun _ => rfl⟩
theorem flX7_39 : a_f RX7 39 7 3 (.object "ColourProof$Solution") true := ⟨RX7, TX7, 7, tyX7, kX7, by decide, a_in 265 (by decide +kernel) (by decide +kernel), rfl, rfl, fun _ => rfl⟩
theorem flX7_46 : a_f RX7 46 7 4 (.object "ColourProof$Log") true := ⟨RX7, TX7, 7, tyX7, kX7, by decide, a_in 266 (by decide +kernel) (by decide +kernel), rfl, rfl, fun _ => rfl⟩
theorem flX7_55 : a_f RX7 55 7 5 (.object "ColourProof$Checker") true := ⟨RX7, TX7, 7, tyX7, kX7, by decide, a_in 267 (by decide +kernel) (by decide +kernel), rfl, rfl, fun _ => rfl⟩
theorem flX7_62 : a_f RX7 62 7 6 (.object "ColourProof$ToldColours") true := ⟨RX7, TX7, 7, tyX7, kX7, by decide, a_in 268 (by decide +kernel) (by decide +kernel), rfl, rfl, fun _ => rfl⟩
theorem lkL_13 : Cond.methodLink RL 13 yX7_graph ∈ a_g := a_in 284 (by decide +kernel) (by decide +kernel)
theorem lkX7_66 : Cond.methodLink RX7 66 yX2_restart ∈ a_g := a_in 288 (by decide +kernel) (by decide +kernel)
theorem lkX2_22 : Cond.methodLink RX2 22 yJ7_fill_53178 ∈ a_g := a_in 292 (by decide +kernel) (by decide +kernel)
theorem lkX7_70 : Cond.methodLink RX7 70 yX5_forget ∈ a_g := a_in 293 (by decide +kernel) (by decide +kernel)
theorem lkL_18 : Cond.methodLink RL 18 yX7_edge ∈ a_g := a_in 297 (by decide +kernel) (by decide +kernel)
theorem lkX7_73 : Cond.methodLink RX7 73 yX2_isVertex ∈ a_g := a_in 301 (by decide +kernel) (by decide +kernel)
theorem lkX7_77 : Cond.methodLink RX7 77 yX2_joined ∈ a_g := a_in 305 (by decide +kernel) (by decide +kernel)
theorem lkX7_81 : Cond.methodLink RX7 81 yX2_flip ∈ a_g := a_in 312 (by decide +kernel) (by decide +kernel)
theorem lkL_23 : Cond.methodLink RL 23 yX7_draw ∈ a_g := a_in 316 (by decide +kernel) (by decide +kernel)
theorem lkX7_85 : Cond.methodLink RX7 85 yX2_drawEdges ∈ a_g := a_in 320 (by decide +kernel) (by decide +kernel)
theorem ctX2_50 : Cond.constant RX2 50 (1103515245) ∈ a_g := a_in 324 (by decide +kernel) (by decide +kernel)
theorem lkX2_51 : Cond.methodLink RX2 51 yX2_flip ∈ a_g := a_in 325 (by decide +kernel) (by decide +kernel)
theorem lkX7_88 : Cond.methodLink RX7 88 yX2_edges ∈ a_g := a_in 326 (by decide +kernel) (by decide +kernel)
theorem lkX2_41 : Cond.methodLink RX2 41 yX2_degreeOf ∈ a_g := a_in 330 (by decide +kernel) (by decide +kernel)
theorem lkX2_36 : Cond.methodLink RX2 36 yJ6_bitCount_0f7a4 ∈ a_g := a_in 334 (by decide +kernel) (by decide +kernel)
theorem ctJ6_265 : Cond.constant RJ6 265 (1431655765) ∈ a_g := a_in 337 (by decide +kernel) (by decide +kernel)
theorem ctJ6_266 : Cond.constant RJ6 266 (858993459) ∈ a_g := a_in 338 (by decide +kernel) (by decide +kernel)
theorem ctJ6_267 : Cond.constant RJ6 267 (252645135) ∈ a_g := a_in 339 (by decide +kernel) (by decide +kernel)
theorem lkL_28 : Cond.methodLink RL 28 yX7_turn ∈ a_g := a_in 340 (by decide +kernel) (by decide +kernel)
theorem lkX7_92 : Cond.methodLink RX7 92 yX2_sharesDivisor ∈ a_g := a_in 344 (by decide +kernel) (by decide +kernel)
theorem lkX7_95 : Cond.methodLink RX7 95 yX2_renumber ∈ a_g := a_in 348 (by decide +kernel) (by decide +kernel)
theorem lkX2_55 : Cond.methodLink RX2 55 yX2_joined ∈ a_g := a_in 352 (by decide +kernel) (by decide +kernel)
theorem lkX2_58 : Cond.methodLink RX2 58 arraycopyName ∈ a_g := a_in 353 (by decide +kernel) (by decide +kernel)
theorem lkL_32 : Cond.methodLink RL 32 yX7_count ∈ a_g := a_in 356 (by decide +kernel) (by decide +kernel)
theorem lkX7_102 : Cond.methodLink RX7 102 yX2_greatestDegree ∈ a_g := a_in 360 (by decide +kernel) (by decide +kernel)
theorem lkX2_44 : Cond.methodLink RX2 44 yJ9_max_7cf53 ∈ a_g := a_in 364 (by decide +kernel) (by decide +kernel)
theorem lkL_36 : Cond.methodLink RL 36 yX7_has ∈ a_g := a_in 367 (by decide +kernel) (by decide +kernel)
theorem lkL_41 : Cond.methodLink RL 41 yX7_degree ∈ a_g := a_in 371 (by decide +kernel) (by decide +kernel)
theorem lkX7_105 : Cond.methodLink RX7 105 yX2_degreeOf ∈ a_g := a_in 375 (by decide +kernel) (by decide +kernel)
theorem lkL_45 : Cond.methodLink RL 45 yX7_solve ∈ a_g := a_in 376 (by decide +kernel) (by decide +kernel)
theorem lkX7_109 : Cond.methodLink RX7 109 yX5_find ∈ a_g := a_in 380 (by decide +kernel) (by decide +kernel)
theorem lkX5_45 : Cond.methodLink RX5 45 yX5_forget ∈ a_g := a_in 384 (by decide +kernel) (by decide +kernel)
theorem lkX5_48 : Cond.methodLink RX5 48 yJ7_fill_53178 ∈ a_g := a_in 385 (by decide +kernel) (by decide +kernel)
theorem lkX5_54 : Cond.methodLink RX5 54 yX1_fillGreedily ∈ a_g := a_in 386 (by decide +kernel) (by decide +kernel)
theorem lkX1_70 : Cond.methodLink RX1 70 yX1_wipe ∈ a_g := a_in 390 (by decide +kernel) (by decide +kernel)
theorem lkX1_32 : Cond.methodLink RX1 32 yJ7_fill_53178 ∈ a_g := a_in 394 (by decide +kernel) (by decide +kernel)
theorem lkX1_38 : Cond.methodLink RX1 38 yX2_all ∈ a_g := a_in 395 (by decide +kernel) (by decide +kernel)
theorem lkX1_73 : Cond.methodLink RX1 73 yX1_choice ∈ a_g := a_in 402 (by decide +kernel) (by decide +kernel)
theorem lkX1_58 : Cond.methodLink RX1 58 yJ6_bitCount_0f7a4 ∈ a_g := a_in 407 (by decide +kernel) (by decide +kernel)
theorem lkX1_63 : Cond.methodLink RX1 63 yX1_rank ∈ a_g := a_in 408 (by decide +kernel) (by decide +kernel)
theorem lkX1_76 : Cond.methodLink RX1 76 yX1_leastUnseen ∈ a_g := a_in 412 (by decide +kernel) (by decide +kernel)
theorem lkX1_83 : Cond.methodLink RX1 83 yX1_blocked ∈ a_g := a_in 416 (by decide +kernel) (by decide +kernel)
theorem lkX1_79 : Cond.methodLink RX1 79 yX1_give ∈ a_g := a_in 420 (by decide +kernel) (by decide +kernel)
theorem lkX5_59 : Cond.methodLink RX5 59 yX5_keepBest ∈ a_g := a_in 424 (by decide +kernel) (by decide +kernel)
theorem lkX5_103 : Cond.methodLink RX5 103 arraycopyName ∈ a_g := a_in 428 (by decide +kernel) (by decide +kernel)
theorem lkX5_62 : Cond.methodLink RX5 62 yX2_greedyClique ∈ a_g := a_in 429 (by decide +kernel) (by decide +kernel)
theorem lkX2_64 : Cond.methodLink RX2 64 yX2_all ∈ a_g := a_in 433 (by decide +kernel) (by decide +kernel)
theorem lkX2_68 : Cond.methodLink RX2 68 yX2_widest ∈ a_g := a_in 434 (by decide +kernel) (by decide +kernel)
theorem lkX5_70 : Cond.methodLink RX5 70 yJ6_bitCount_0f7a4 ∈ a_g := a_in 438 (by decide +kernel) (by decide +kernel)
theorem lkX5_76 : Cond.methodLink RX5 76 yX4_run ∈ a_g := a_in 439 (by decide +kernel) (by decide +kernel)
theorem lkX4_39 : Cond.methodLink RX4 39 yX1_wipe ∈ a_g := a_in 443 (by decide +kernel) (by decide +kernel)
theorem lkX4_44 : Cond.methodLink RX4 44 yX4_visit ∈ a_g := a_in 444 (by decide +kernel) (by decide +kernel)
theorem lkX4_51 : Cond.methodLink RX4 51 yX4_tightClique ∈ a_g := a_in 448 (by decide +kernel) (by decide +kernel)
theorem lkX4_65 : Cond.methodLink RX4 65 yX1_foremost ∈ a_g := a_in 452 (by decide +kernel) (by decide +kernel)
theorem lkX1_67 : Cond.methodLink RX1 67 yX2_degreeOf ∈ a_g := a_in 456 (by decide +kernel) (by decide +kernel)
theorem lkX4_68 : Cond.methodLink RX4 68 yX1_freeWith ∈ a_g := a_in 457 (by decide +kernel) (by decide +kernel)
theorem lkX4_71 : Cond.methodLink RX4 71 yJ6_bitCount_0f7a4 ∈ a_g := a_in 462 (by decide +kernel) (by decide +kernel)
theorem lkX4_55 : Cond.methodLink RX4 55 yX4_branch ∈ a_g := a_in 463 (by decide +kernel) (by decide +kernel)
theorem lkX4_80 : Cond.methodLink RX4 80 yX1_choice ∈ a_g := a_in 467 (by decide +kernel) (by decide +kernel)
theorem lkX4_58 : Cond.methodLink RX4 58 yX4_write ∈ a_g := a_in 468 (by decide +kernel) (by decide +kernel)
theorem lkX4_104 : Cond.methodLink RX4 104 yX3_write ∈ a_g := a_in 472 (by decide +kernel) (by decide +kernel)
theorem lkX4_86 : Cond.methodLink RX4 86 yX1_blocked ∈ a_g := a_in 476 (by decide +kernel) (by decide +kernel)
theorem lkX4_90 : Cond.methodLink RX4 90 yX1_leastNeighbourWith ∈ a_g := a_in 477 (by decide +kernel) (by decide +kernel)
theorem lkX4_93 : Cond.methodLink RX4 93 yX4_attempt ∈ a_g := a_in 481 (by decide +kernel) (by decide +kernel)
theorem lkX4_97 : Cond.methodLink RX4 97 yX1_give ∈ a_g := a_in 485 (by decide +kernel) (by decide +kernel)
theorem lkX4_101 : Cond.methodLink RX4 101 yX1_strip ∈ a_g := a_in 486 (by decide +kernel) (by decide +kernel)
theorem lkX5_79 : Cond.methodLink RX5 79 yX5_tally ∈ a_g := a_in 490 (by decide +kernel) (by decide +kernel)
theorem lkX5_83 : Cond.methodLink RX5 83 yX5_keepProof ∈ a_g := a_in 494 (by decide +kernel) (by decide +kernel)
theorem lkX5_88 : Cond.methodLink RX5 88 yX3_become ∈ a_g := a_in 498 (by decide +kernel) (by decide +kernel)
theorem lkX3_26 : Cond.methodLink RX3 26 arraycopyName ∈ a_g := a_in 502 (by decide +kernel) (by decide +kernel)
theorem lkX5_95 : Cond.methodLink RX5 95 yX3_write ∈ a_g := a_in 503 (by decide +kernel) (by decide +kernel)
theorem lkL_50 : Cond.methodLink RL 50 yX7_colour ∈ a_g := a_in 504 (by decide +kernel) (by decide +kernel)
theorem lkL_54 : Cond.methodLink RL 54 yX7_clique ∈ a_g := a_in 508 (by decide +kernel) (by decide +kernel)
theorem lkX7_120 : Cond.methodLink RX7 120 yX2_greedyClique ∈ a_g := a_in 512 (by decide +kernel) (by decide +kernel)
theorem lkL_58 : Cond.methodLink RL 58 yX7_first ∈ a_g := a_in 513 (by decide +kernel) (by decide +kernel)
theorem lkX7_123 : Cond.methodLink RX7 123 yX1_fillGreedily ∈ a_g := a_in 517 (by decide +kernel) (by decide +kernel)
theorem lkL_62 : Cond.methodLink RL 62 yX7_lines ∈ a_g := a_in 518 (by decide +kernel) (by decide +kernel)
theorem lkL_66 : Cond.methodLink RL 66 yX7_line ∈ a_g := a_in 522 (by decide +kernel) (by decide +kernel)
theorem lkX7_133 : Cond.methodLink RX7 133 yX3_part ∈ a_g := a_in 526 (by decide +kernel) (by decide +kernel)
theorem lkX3_22 : Cond.methodLink RX3 22 yX3_holds ∈ a_g := a_in 530 (by decide +kernel) (by decide +kernel)
theorem lkL_70 : Cond.methodLink RL 70 yX7_work ∈ a_g := a_in 534 (by decide +kernel) (by decide +kernel)
theorem lkL_74 : Cond.methodLink RL 74 yX7_search ∈ a_g := a_in 538 (by decide +kernel) (by decide +kernel)
theorem lkX7_140 : Cond.methodLink RX7 140 yX4_run ∈ a_g := a_in 542 (by decide +kernel) (by decide +kernel)
theorem lkX7_144 : Cond.methodLink RX7 144 yX3_become ∈ a_g := a_in 543 (by decide +kernel) (by decide +kernel)
theorem lkL_78 : Cond.methodLink RL 78 yX7_tell ∈ a_g := a_in 544 (by decide +kernel) (by decide +kernel)
theorem lkX7_148 : Cond.methodLink RX7 148 yX7_isOp ∈ a_g := a_in 548 (by decide +kernel) (by decide +kernel)
theorem lkX7_151 : Cond.methodLink RX7 151 yX3_write ∈ a_g := a_in 551 (by decide +kernel) (by decide +kernel)
theorem lkL_82 : Cond.methodLink RL 82 yX7_take ∈ a_g := a_in 552 (by decide +kernel) (by decide +kernel)
theorem lkL_86 : Cond.methodLink RL 86 yX7_alter ∈ a_g := a_in 556 (by decide +kernel) (by decide +kernel)
theorem lkX7_154 : Cond.methodLink RX7 154 yX3_holds ∈ a_g := a_in 560 (by decide +kernel) (by decide +kernel)
theorem lkL_91 : Cond.methodLink RL 91 yX7_cut ∈ a_g := a_in 561 (by decide +kernel) (by decide +kernel)
theorem lkL_95 : Cond.methodLink RL 95 yX7_told ∈ a_g := a_in 565 (by decide +kernel) (by decide +kernel)
theorem lkL_99 : Cond.methodLink RL 99 yX7_check ∈ a_g := a_in 569 (by decide +kernel) (by decide +kernel)
theorem lkX7_163 : Cond.methodLink RX7 163 yX0_wrongLine ∈ a_g := a_in 573 (by decide +kernel) (by decide +kernel)
theorem lkX0_30 : Cond.methodLink RX0 30 yX1_wipe ∈ a_g := a_in 577 (by decide +kernel) (by decide +kernel)
theorem lkX0_35 : Cond.methodLink RX0 35 yX0_proof ∈ a_g := a_in 578 (by decide +kernel) (by decide +kernel)
theorem lkX0_44 : Cond.methodLink RX0 44 yX3_holds ∈ a_g := a_in 582 (by decide +kernel) (by decide +kernel)
theorem lkX0_54 : Cond.methodLink RX0 54 yX0_branch ∈ a_g := a_in 583 (by decide +kernel) (by decide +kernel)
theorem lkX0_65 : Cond.methodLink RX0 65 yX2_isVertex ∈ a_g := a_in 587 (by decide +kernel) (by decide +kernel)
theorem lkX0_61 : Cond.methodLink RX0 61 yX0_stepOverIf ∈ a_g := a_in 589 (by decide +kernel) (by decide +kernel)
theorem lkX0_79 : Cond.methodLink RX0 79 yX1_blocked ∈ a_g := a_in 593 (by decide +kernel) (by decide +kernel)
theorem lkX0_82 : Cond.methodLink RX0 82 yX0_blocks ∈ a_g := a_in 594 (by decide +kernel) (by decide +kernel)
theorem lkX0_96 : Cond.methodLink RX0 96 yX2_joined ∈ a_g := a_in 598 (by decide +kernel) (by decide +kernel)
theorem lkX0_85 : Cond.methodLink RX0 85 yX0_attempt ∈ a_g := a_in 599 (by decide +kernel) (by decide +kernel)
theorem lkX0_89 : Cond.methodLink RX0 89 yX1_give ∈ a_g := a_in 603 (by decide +kernel) (by decide +kernel)
theorem lkX0_93 : Cond.methodLink RX0 93 yX1_strip ∈ a_g := a_in 604 (by decide +kernel) (by decide +kernel)
theorem lkX0_58 : Cond.methodLink RX0 58 yX0_closes ∈ a_g := a_in 605 (by decide +kernel) (by decide +kernel)
theorem lkX0_106 : Cond.methodLink RX0 106 yX1_freeWith ∈ a_g := a_in 609 (by decide +kernel) (by decide +kernel)
theorem lkX0_110 : Cond.methodLink RX0 110 yJ6_bitCount_0f7a4 ∈ a_g := a_in 610 (by decide +kernel) (by decide +kernel)
theorem lkL_103 : Cond.methodLink RL 103 yX7_paint ∈ a_g := a_in 611 (by decide +kernel) (by decide +kernel)
theorem lkX7_166 : Cond.methodLink RX7 166 yX7_isColour ∈ a_g := a_in 615 (by decide +kernel) (by decide +kernel)
theorem lkL_107 : Cond.methodLink RL 107 yX7_copy ∈ a_g := a_in 618 (by decide +kernel) (by decide +kernel)
theorem lkX7_172 : Cond.methodLink RX7 172 arraycopyName ∈ a_g := a_in 622 (by decide +kernel) (by decide +kernel)
theorem lkL_111 : Cond.methodLink RL 111 yX7_clashes ∈ a_g := a_in 623 (by decide +kernel) (by decide +kernel)
theorem lkX7_178 : Cond.methodLink RX7 178 yX6_clashingEdges ∈ a_g := a_in 627 (by decide +kernel) (by decide +kernel)
theorem lkX6_35 : Cond.methodLink RX6 35 yX2_joined ∈ a_g := a_in 631 (by decide +kernel) (by decide +kernel)
theorem lkL_115 : Cond.methodLink RL 115 yX7_used ∈ a_g := a_in 632 (by decide +kernel) (by decide +kernel)
theorem lkX7_181 : Cond.methodLink RX7 181 yX2_all ∈ a_g := a_in 636 (by decide +kernel) (by decide +kernel)
theorem lkX7_184 : Cond.methodLink RX7 184 yX6_among ∈ a_g := a_in 637 (by decide +kernel) (by decide +kernel)
theorem lkX7_187 : Cond.methodLink RX7 187 yJ6_bitCount_0f7a4 ∈ a_g := a_in 642 (by decide +kernel) (by decide +kernel)
theorem lkL_119 : Cond.methodLink RL 119 yX7_chain ∈ a_g := a_in 643 (by decide +kernel) (by decide +kernel)
theorem lkX7_192 : Cond.methodLink RX7 192 yX6_swapChain ∈ a_g := a_in 647 (by decide +kernel) (by decide +kernel)
theorem lkX6_38 : Cond.methodLink RX6 38 yX6_bearing ∈ a_g := a_in 651 (by decide +kernel) (by decide +kernel)
theorem lkX6_42 : Cond.methodLink RX6 42 yX6_reach ∈ a_g := a_in 655 (by decide +kernel) (by decide +kernel)
theorem lkX6_51 : Cond.methodLink RX6 51 yX6_neighboursOf ∈ a_g := a_in 659 (by decide +kernel) (by decide +kernel)
theorem lkX6_46 : Cond.methodLink RX6 46 yJ6_bitCount_0f7a4 ∈ a_g := a_in 663 (by decide +kernel) (by decide +kernel)
theorem lkL_123 : Cond.methodLink RL 123 yX7_saturation ∈ a_g := a_in 664 (by decide +kernel) (by decide +kernel)
theorem nwL_10 : a_new RL 10 8 19 [.int 0, .null, .null, .null, .null, .null, .null, .null, .null, .int 0, .null, .int 0, .null, .int 0, .null, .int 0, .int 0, .null, .null] := ⟨RX8, TX8, tyX8, kX8, a_in 668 (by decide +kernel) (by decide +kernel), a_in 669 (by decide +kernel) (by decide +kernel), a_in 58 (by decide +kernel) (by decide +kernel), fun z b j hj => by
  rcases (show j = 0 ∨ j = 1 ∨ j = 2 ∨ j = 3 ∨ j = 4 ∨ j = 5 ∨ j = 6 ∨ j = 7 ∨ j = 8 ∨ j = 9 ∨ j = 10 ∨ j = 11 ∨ j = 12 ∨ j = 13 ∨ j = 14 ∨ j = 15 ∨ j = 16 ∨ j = 17 ∨ j = 18 by omega) with rfl | rfl | rfl | rfl | rfl | rfl | rfl | rfl | rfl | rfl | rfl | rfl | rfl | rfl | rfl | rfl | rfl | rfl | rfl <;> rfl⟩
theorem lkL_12 : Cond.methodLink RL 12 yX8_init ∈ a_g := a_in 670 (by decide +kernel) (by decide +kernel)
theorem lkX8_1 : Cond.methodLink RX8 1 Lib.objectInit ∈ a_g := a_in 673 (by decide +kernel) (by decide +kernel)
theorem flX8_50 : a_f RX8 50 8 0 (.int) false := ⟨RX8, TX8, 19, tyX8, kX8, by decide, a_in 674 (by decide +kernel) (by decide +kernel), rfl, rfl, fun _ => rfl⟩
theorem flX8_7 : a_f RX8 7 8 1 (.array .boolean) true := ⟨RX8, TX8, 19, tyX8, kX8, by decide, a_in 675 (by decide +kernel) (by decide +kernel), rfl, rfl, fun _ => rfl⟩
theorem flX8_13 : a_f RX8 13 8 2 (.array .boolean) true := ⟨RX8, TX8, 19, tyX8, kX8, by decide, a_in 676 (by decide +kernel) (by decide +kernel), rfl, rfl, fun _ => rfl⟩
theorem flX8_16 : a_f RX8 16 8 3 (.array .int) true := ⟨RX8, TX8, 19, tyX8, kX8, by decide, a_in 677 (by decide +kernel) (by decide +kernel), rfl, rfl, fun _ => rfl⟩
theorem flX8_20 : a_f RX8 20 8 4 (.array .int) true := ⟨RX8, TX8, 19, tyX8, kX8, by decide, a_in 678 (by decide +kernel) (by decide +kernel), rfl, rfl, fun _ => rfl⟩
theorem flX8_23 : a_f RX8 23 8 5 (.array .int) true := ⟨RX8, TX8, 19, tyX8, kX8, by decide, a_in 679 (by decide +kernel) (by decide +kernel), rfl, rfl, fun _ => rfl⟩
theorem flX8_26 : a_f RX8 26 8 6 (.array .int) true := ⟨RX8, TX8, 19, tyX8, kX8, by decide, a_in 680 (by decide +kernel) (by decide +kernel), rfl, rfl, fun _ => rfl⟩
theorem flX8_29 : a_f RX8 29 8 7 (.array .int) true := ⟨RX8, TX8, 19, tyX8, kX8, by decide, a_in 681 (by decide +kernel) (by decide +kernel), rfl, rfl, fun _ => rfl⟩
theorem flX8_32 : a_f RX8 32 8 8 (.array .int) true := ⟨RX8, TX8, 19, tyX8, kX8, by decide, a_in 682 (by decide +kernel) (by decide +kernel), rfl, rfl, fun _ => rfl⟩
theorem flX8_121 : a_f RX8 121 8 9 (.int) false := ⟨RX8, TX8, 19, tyX8, kX8, by decide, a_in 683 (by decide +kernel) (by decide +kernel), rfl, rfl, fun _ => rfl⟩
theorem flX8_35 : a_f RX8 35 8 10 (.array .int) true := ⟨RX8, TX8, 19, tyX8, kX8, by decide, a_in 684 (by decide +kernel) (by decide +kernel), rfl, rfl, fun _ => rfl⟩
theorem flX8_118 : a_f RX8 118 8 11 (.int) false := ⟨RX8, TX8, 19, tyX8, kX8, by decide, a_in 685 (by decide +kernel) (by decide +kernel), rfl, rfl, fun _ => rfl⟩
theorem flX8_38 : a_f RX8 38 8 12 (.array .int) true := ⟨RX8, TX8, 19, tyX8, kX8, by decide, a_in 686 (by decide +kernel) (by decide +kernel), rfl, rfl, fun _ => rfl⟩
theorem flX8_155 : a_f RX8 155 8 13 (.int) false := ⟨RX8, TX8, 19, tyX8, kX8, by decide, a_in 687 (by decide +kernel) (by decide +kernel), rfl, rfl, fun _ => rfl⟩
theorem flX8_41 : a_f RX8 41 8 14 (.array .int) true := ⟨RX8, TX8, 19, tyX8, kX8, by decide, a_in 688 (by decide +kernel) (by decide +kernel), rfl, rfl, fun _ => rfl⟩
theorem flX8_158 : a_f RX8 158 8 15 (.int) false := ⟨RX8, TX8, 19, tyX8, kX8, by decide, a_in 689 (by decide +kernel) (by decide +kernel), rfl, rfl, fun _ => rfl⟩
theorem flX8_54 : a_f RX8 54 8 16 (.boolean) false := ⟨RX8, TX8, 19, tyX8, kX8, by decide, a_in 690 (by decide +kernel) (by decide +kernel), rfl, rfl, fun _ => rfl⟩
theorem flX8_44 : a_f RX8 44 8 17 (.array .int) true := ⟨RX8, TX8, 19, tyX8, kX8, by decide, a_in 691 (by decide +kernel) (by decide +kernel), rfl, rfl, fun _ => rfl⟩
theorem flX8_47 : a_f RX8 47 8 18 (.array .boolean) true := ⟨RX8, TX8, 19, tyX8, kX8, by decide, a_in 692 (by decide +kernel) (by decide +kernel), rfl, rfl, fun _ => rfl⟩
theorem lkL_17 : Cond.methodLink RL 17 yX8_graph ∈ a_g := a_in 733 (by decide +kernel) (by decide +kernel)
theorem lkL_22 : Cond.methodLink RL 22 yX8_edge ∈ a_g := a_in 737 (by decide +kernel) (by decide +kernel)
theorem lkX8_58 : Cond.methodLink RX8 58 yX8_isVertex ∈ a_g := a_in 741 (by decide +kernel) (by decide +kernel)
theorem lkX8_62 : Cond.methodLink RX8 62 yX8_isNear ∈ a_g := a_in 745 (by decide +kernel) (by decide +kernel)
theorem lkX8_66 : Cond.methodLink RX8 66 yX8_join ∈ a_g := a_in 749 (by decide +kernel) (by decide +kernel)
theorem lkL_27 : Cond.methodLink RL 27 yX8_draw ∈ a_g := a_in 753 (by decide +kernel) (by decide +kernel)
theorem ctX8_74 : Cond.constant RX8 74 (1103515245) ∈ a_g := a_in 757 (by decide +kernel) (by decide +kernel)
theorem ctX8_75 : Cond.constant RX8 75 (65535) ∈ a_g := a_in 758 (by decide +kernel) (by decide +kernel)
theorem lkX8_76 : Cond.methodLink RX8 76 yX8_edges ∈ a_g := a_in 759 (by decide +kernel) (by decide +kernel)
theorem lkX8_70 : Cond.methodLink RX8 70 yX8_degreeOf ∈ a_g := a_in 763 (by decide +kernel) (by decide +kernel)
theorem lkL_31 : Cond.methodLink RL 31 yX8_turn ∈ a_g := a_in 767 (by decide +kernel) (by decide +kernel)
theorem lkX8_80 : Cond.methodLink RX8 80 yX8_common ∈ a_g := a_in 771 (by decide +kernel) (by decide +kernel)
theorem lkL_35 : Cond.methodLink RL 35 yX8_count ∈ a_g := a_in 774 (by decide +kernel) (by decide +kernel)
theorem lkL_40 : Cond.methodLink RL 40 yX8_has ∈ a_g := a_in 778 (by decide +kernel) (by decide +kernel)
theorem lkL_44 : Cond.methodLink RL 44 yX8_degree ∈ a_g := a_in 782 (by decide +kernel) (by decide +kernel)
theorem lkL_57 : Cond.methodLink RL 57 yX8_clique ∈ a_g := a_in 786 (by decide +kernel) (by decide +kernel)
theorem lkX8_109 : Cond.methodLink RX8 109 yX8_clearColours ∈ a_g := a_in 790 (by decide +kernel) (by decide +kernel)
theorem lkX8_93 : Cond.methodLink RX8 93 yX8_clearSeen ∈ a_g := a_in 794 (by decide +kernel) (by decide +kernel)
theorem lkX8_96 : Cond.methodLink RX8 96 yX8_firstLeft ∈ a_g := a_in 798 (by decide +kernel) (by decide +kernel)
theorem lkX8_87 : Cond.methodLink RX8 87 yX8_saturationOf ∈ a_g := a_in 802 (by decide +kernel) (by decide +kernel)
theorem lkX8_84 : Cond.methodLink RX8 84 yX8_neighbourWith ∈ a_g := a_in 806 (by decide +kernel) (by decide +kernel)
theorem lkX8_100 : Cond.methodLink RX8 100 yX8_isNearAll ∈ a_g := a_in 810 (by decide +kernel) (by decide +kernel)
theorem lkL_61 : Cond.methodLink RL 61 yX8_first ∈ a_g := a_in 814 (by decide +kernel) (by decide +kernel)
theorem lkX8_112 : Cond.methodLink RX8 112 yX8_choice ∈ a_g := a_in 818 (by decide +kernel) (by decide +kernel)
theorem lkX8_90 : Cond.methodLink RX8 90 yX8_bare ∈ a_g := a_in 822 (by decide +kernel) (by decide +kernel)
theorem lkX8_115 : Cond.methodLink RX8 115 yX8_standing ∈ a_g := a_in 826 (by decide +kernel) (by decide +kernel)
theorem lkL_49 : Cond.methodLink RL 49 yX8_solve ∈ a_g := a_in 830 (by decide +kernel) (by decide +kernel)
theorem lkX8_140 : Cond.methodLink RX8 140 yX8_clique ∈ a_g := a_in 834 (by decide +kernel) (by decide +kernel)
theorem lkX8_106 : Cond.methodLink RX8 106 yX8_size ∈ a_g := a_in 835 (by decide +kernel) (by decide +kernel)
theorem lkX8_143 : Cond.methodLink RX8 143 yX8_first ∈ a_g := a_in 838 (by decide +kernel) (by decide +kernel)
theorem lkX8_146 : Cond.methodLink RX8 146 yX8_keepBest ∈ a_g := a_in 839 (by decide +kernel) (by decide +kernel)
theorem lkX8_149 : Cond.methodLink RX8 149 yX8_seek ∈ a_g := a_in 843 (by decide +kernel) (by decide +kernel)
theorem lkX8_134 : Cond.methodLink RX8 134 yX8_come ∈ a_g := a_in 847 (by decide +kernel) (by decide +kernel)
theorem lkX8_124 : Cond.methodLink RX8 124 yX8_closing ∈ a_g := a_in 851 (by decide +kernel) (by decide +kernel)
theorem lkX8_103 : Cond.methodLink RX8 103 yX8_freeFor ∈ a_g := a_in 855 (by decide +kernel) (by decide +kernel)
theorem lkX8_127 : Cond.methodLink RX8 127 yX8_write ∈ a_g := a_in 859 (by decide +kernel) (by decide +kernel)
theorem lkX8_130 : Cond.methodLink RX8 130 yX8_enter ∈ a_g := a_in 863 (by decide +kernel) (by decide +kernel)
theorem lkX8_137 : Cond.methodLink RX8 137 yX8_goOn ∈ a_g := a_in 867 (by decide +kernel) (by decide +kernel)
theorem lkX8_152 : Cond.methodLink RX8 152 yX8_countWork ∈ a_g := a_in 871 (by decide +kernel) (by decide +kernel)
theorem lkL_53 : Cond.methodLink RL 53 yX8_colour ∈ a_g := a_in 875 (by decide +kernel) (by decide +kernel)
theorem lkL_65 : Cond.methodLink RL 65 yX8_lines ∈ a_g := a_in 879 (by decide +kernel) (by decide +kernel)
theorem lkL_69 : Cond.methodLink RL 69 yX8_line ∈ a_g := a_in 883 (by decide +kernel) (by decide +kernel)
theorem lkL_73 : Cond.methodLink RL 73 yX8_work ∈ a_g := a_in 887 (by decide +kernel) (by decide +kernel)
theorem lkL_77 : Cond.methodLink RL 77 yX8_search ∈ a_g := a_in 891 (by decide +kernel) (by decide +kernel)
theorem lkX8_161 : Cond.methodLink RX8 161 yX8_tellWritten ∈ a_g := a_in 895 (by decide +kernel) (by decide +kernel)
theorem lkL_81 : Cond.methodLink RL 81 yX8_tell ∈ a_g := a_in 899 (by decide +kernel) (by decide +kernel)
theorem lkL_85 : Cond.methodLink RL 85 yX8_take ∈ a_g := a_in 903 (by decide +kernel) (by decide +kernel)
theorem lkL_90 : Cond.methodLink RL 90 yX8_alter ∈ a_g := a_in 907 (by decide +kernel) (by decide +kernel)
theorem lkL_94 : Cond.methodLink RL 94 yX8_cut ∈ a_g := a_in 911 (by decide +kernel) (by decide +kernel)
theorem lkL_98 : Cond.methodLink RL 98 yX8_told ∈ a_g := a_in 915 (by decide +kernel) (by decide +kernel)
theorem lkL_102 : Cond.methodLink RL 102 yX8_check ∈ a_g := a_in 919 (by decide +kernel) (by decide +kernel)
theorem lkX8_167 : Cond.methodLink RX8 167 yX8_begins ∈ a_g := a_in 923 (by decide +kernel) (by decide +kernel)
theorem lkX8_164 : Cond.methodLink RX8 164 yX8_closes ∈ a_g := a_in 927 (by decide +kernel) (by decide +kernel)
theorem lkX8_170 : Cond.methodLink RX8 170 yX8_stands ∈ a_g := a_in 931 (by decide +kernel) (by decide +kernel)
theorem lkX8_173 : Cond.methodLink RX8 173 yX8_leave ∈ a_g := a_in 935 (by decide +kernel) (by decide +kernel)
theorem lkL_106 : Cond.methodLink RL 106 yX8_paint ∈ a_g := a_in 939 (by decide +kernel) (by decide +kernel)
theorem lkL_110 : Cond.methodLink RL 110 yX8_copy ∈ a_g := a_in 943 (by decide +kernel) (by decide +kernel)
theorem lkL_114 : Cond.methodLink RL 114 yX8_clashes ∈ a_g := a_in 947 (by decide +kernel) (by decide +kernel)
theorem lkL_118 : Cond.methodLink RL 118 yX8_used ∈ a_g := a_in 951 (by decide +kernel) (by decide +kernel)
theorem lkL_122 : Cond.methodLink RL 122 yX8_chain ∈ a_g := a_in 955 (by decide +kernel) (by decide +kernel)
theorem lkL_126 : Cond.methodLink RL 126 yX8_saturation ∈ a_g := a_in 959 (by decide +kernel) (by decide +kernel)
theorem lnX7_9 : (RX7, 9, yX2_init, "ColourProof") ∈ a_nl := by decide +kernel
theorem lnX4_17 : (RX4, 17, yX3_init, "ColourProof") ∈ a_nl := by decide +kernel
theorem lnX5_25 : (RX5, 25, yX3_init, "ColourProof") ∈ a_nl := by decide +kernel
theorem lnX7_45 : (RX7, 45, yX3_init, "ColourProof") ∈ a_nl := by decide +kernel
theorem lnX2_32 : (RX2, 32, yX7_contains, "ColourProof") ∈ a_nl := by decide +kernel
theorem lnX2_28 : (RX2, 28, yX7_firstOnes, "ColourProof") ∈ a_nl := by decide +kernel
theorem lnX1_50 : (RX1, 50, yX7_contains, "ColourProof") ∈ a_nl := by decide +kernel
theorem lnX1_54 : (RX1, 54, yX7_firstOnes, "ColourProof") ∈ a_nl := by decide +kernel
theorem lnX0_73 : (RX0, 73, yX7_contains, "ColourProof") ∈ a_nl := by decide +kernel
theorem lnX6_31 : (RX6, 31, yX7_contains, "ColourProof") ∈ a_nl := by decide +kernel
theorem wI : Cond.arrayClass .int ∈ a_g := a_in 97 (by decide +kernel) (by decide +kernel)
theorem wZ : Cond.arrayClass .boolean ∈ a_g := a_in 732 (by decide +kernel) (by decide +kernel)
theorem wO1 : Cond.instanceMethod Lib.objectInit ∈ a_g := a_in 68 (by decide +kernel) (by decide +kernel)
theorem wO2 : Cond.code Lib.objectInit ⟨#[0xb1]⟩ 1 none ∈ a_g := a_in 69 (by decide +kernel) (by decide +kernel)
theorem wA1 : Cond.native arraycopyName ∈ a_g := a_in 355 (by decide +kernel) (by decide +kernel)
theorem wA2 : Cond.static arraycopyName ∈ a_g := a_in 354 (by decide +kernel) (by decide +kernel)
theorem wA3 : Cond.initialized "java/lang/System" ∈ a_g := a_in 60 (by decide +kernel) (by decide +kernel)
