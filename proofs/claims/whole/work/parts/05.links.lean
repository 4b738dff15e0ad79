theorem iX0 : ∀ w ∈ u_ws RX0 TX0 9, w ∈ lw_tbl := by decide +kernel
theorem iX1 : ∀ w ∈ u_ws RX1 TX1 4, w ∈ lw_tbl := by decide +kernel
theorem iX2 : ∀ w ∈ u_ws RX2 TX2 16, w ∈ lw_tbl := by decide +kernel
theorem iX3 : ∀ w ∈ u_ws RX3 TX3 3, w ∈ lw_tbl := by decide +kernel
theorem iX4 : ∀ w ∈ u_ws RX4 TX4 9, w ∈ lw_tbl := by decide +kernel
theorem iX5 : ∀ w ∈ u_ws RX5 TX5 14, w ∈ lw_tbl := by decide +kernel
theorem iX6 : ∀ w ∈ u_ws RX6 TX6 38, w ∈ lw_tbl := by decide +kernel
theorem eX0_isThere : z_LmV mX0_isThere 0 := ⟨List.mem_of_getElem? (i := 394) (by decide +kernel), List.mem_of_getElem? (i := 395) (by decide +kernel), List.mem_of_getElem? (i := 67) (by decide +kernel), List.mem_of_getElem? (i := 396) (by decide +kernel), by decide +kernel, by decide⟩
theorem eX0_hasStage : z_LmV mX0_hasStage 1 := ⟨List.mem_of_getElem? (i := 378) (by decide +kernel), List.mem_of_getElem? (i := 379) (by decide +kernel), List.mem_of_getElem? (i := 67) (by decide +kernel), List.mem_of_getElem? (i := 380) (by decide +kernel), by decide +kernel, by decide⟩
theorem eX0_hasSpot : z_LmV mX0_hasSpot 1 := ⟨List.mem_of_getElem? (i := 436) (by decide +kernel), List.mem_of_getElem? (i := 437) (by decide +kernel), List.mem_of_getElem? (i := 67) (by decide +kernel), List.mem_of_getElem? (i := 438) (by decide +kernel), by decide +kernel, by decide⟩
theorem eX0_hasThing : z_LmV mX0_hasThing 1 := ⟨List.mem_of_getElem? (i := 386) (by decide +kernel), List.mem_of_getElem? (i := 387) (by decide +kernel), List.mem_of_getElem? (i := 67) (by decide +kernel), List.mem_of_getElem? (i := 388) (by decide +kernel), by decide +kernel, by decide⟩
theorem eX0_hasAllOf : z_LmV mX0_hasAllOf 1 := ⟨List.mem_of_getElem? (i := 410) (by decide +kernel), List.mem_of_getElem? (i := 411) (by decide +kernel), List.mem_of_getElem? (i := 67) (by decide +kernel), List.mem_of_getElem? (i := 412) (by decide +kernel), by decide +kernel, by decide⟩
theorem eX0_become : z_LmV mX0_become 1 := ⟨List.mem_of_getElem? (i := 366) (by decide +kernel), List.mem_of_getElem? (i := 367) (by decide +kernel), List.mem_of_getElem? (i := 67) (by decide +kernel), List.mem_of_getElem? (i := 368) (by decide +kernel), by decide +kernel, by decide⟩
theorem eX0_dropThing : z_LmV mX0_dropThing 1 := ⟨List.mem_of_getElem? (i := 597) (by decide +kernel), List.mem_of_getElem? (i := 598) (by decide +kernel), List.mem_of_getElem? (i := 67) (by decide +kernel), List.mem_of_getElem? (i := 599) (by decide +kernel), by decide +kernel, by decide⟩
theorem eX0_readText : z_LmV mX0_readText 3 := ⟨List.mem_of_getElem? (i := 339) (by decide +kernel), List.mem_of_getElem? (i := 340) (by decide +kernel), List.mem_of_getElem? (i := 67) (by decide +kernel), List.mem_of_getElem? (i := 341) (by decide +kernel), by decide +kernel, by decide⟩
theorem eX0_clear : z_LmV mX0_clear 0 := ⟨List.mem_of_getElem? (i := 344) (by decide +kernel), List.mem_of_getElem? (i := 1) (by decide +kernel), List.mem_of_getElem? (i := 67) (by decide +kernel), List.mem_of_getElem? (i := 345) (by decide +kernel), by decide +kernel, by decide⟩
theorem eX0_readCode : z_LmV mX0_readCode 2 := ⟨List.mem_of_getElem? (i := 348) (by decide +kernel), List.mem_of_getElem? (i := 2) (by decide +kernel), List.mem_of_getElem? (i := 67) (by decide +kernel), List.mem_of_getElem? (i := 349) (by decide +kernel), by decide +kernel, by decide⟩
theorem eX0_startPart : z_LmV mX0_startPart 1 := ⟨List.mem_of_getElem? (i := 352) (by decide +kernel), List.mem_of_getElem? (i := 3) (by decide +kernel), List.mem_of_getElem? (i := 67) (by decide +kernel), List.mem_of_getElem? (i := 353) (by decide +kernel), by decide +kernel, by decide⟩
theorem eX0_readKind : z_LmV mX0_readKind 1 := ⟨List.mem_of_getElem? (i := 356) (by decide +kernel), List.mem_of_getElem? (i := 4) (by decide +kernel), List.mem_of_getElem? (i := 67) (by decide +kernel), List.mem_of_getElem? (i := 357) (by decide +kernel), by decide +kernel, by decide⟩
theorem eX0_readDigit : z_LmV mX0_readDigit 2 := ⟨List.mem_of_getElem? (i := 363) (by decide +kernel), List.mem_of_getElem? (i := 5) (by decide +kernel), List.mem_of_getElem? (i := 67) (by decide +kernel), List.mem_of_getElem? (i := 364) (by decide +kernel), by decide +kernel, by decide⟩
theorem eX0_kindOfLetter : z_LmS mX0_kindOfLetter 1 := ⟨List.mem_of_getElem? (i := 359) (by decide +kernel), List.mem_of_getElem? (i := 67) (by decide +kernel), List.mem_of_getElem? (i := 360) (by decide +kernel), by decide +kernel, by decide⟩
theorem eX0_wellOnes : z_LmV mX0_wellOnes 1 := ⟨List.mem_of_getElem? (i := 414) (by decide +kernel), List.mem_of_getElem? (i := 415) (by decide +kernel), List.mem_of_getElem? (i := 67) (by decide +kernel), List.mem_of_getElem? (i := 416) (by decide +kernel), by decide +kernel, by decide⟩
theorem eX0_isWell : z_LmS mX0_isWell 3 := ⟨List.mem_of_getElem? (i := 425) (by decide +kernel), List.mem_of_getElem? (i := 67) (by decide +kernel), List.mem_of_getElem? (i := 426) (by decide +kernel), by decide +kernel, by decide⟩
theorem eX0_foodOnes : z_LmV mX0_foodOnes 0 := ⟨List.mem_of_getElem? (i := 419) (by decide +kernel), List.mem_of_getElem? (i := 7) (by decide +kernel), List.mem_of_getElem? (i := 67) (by decide +kernel), List.mem_of_getElem? (i := 420) (by decide +kernel), by decide +kernel, by decide⟩
theorem eX0_load : z_LmV mX0_load 1 := ⟨List.mem_of_getElem? (i := 459) (by decide +kernel), List.mem_of_getElem? (i := 460) (by decide +kernel), List.mem_of_getElem? (i := 67) (by decide +kernel), List.mem_of_getElem? (i := 461) (by decide +kernel), by decide +kernel, by decide⟩
theorem eX0_rainsIn : z_LmV mX0_rainsIn 1 := ⟨List.mem_of_getElem? (i := 471) (by decide +kernel), List.mem_of_getElem? (i := 472) (by decide +kernel), List.mem_of_getElem? (i := 67) (by decide +kernel), List.mem_of_getElem? (i := 473) (by decide +kernel), by decide +kernel, by decide⟩
theorem eX0_mudUnder : z_LmV mX0_mudUnder 2 := ⟨List.mem_of_getElem? (i := 479) (by decide +kernel), List.mem_of_getElem? (i := 480) (by decide +kernel), List.mem_of_getElem? (i := 67) (by decide +kernel), List.mem_of_getElem? (i := 481) (by decide +kernel), by decide +kernel, by decide⟩
theorem eX0_minutesOver : z_LmV mX0_minutesOver 3 := ⟨List.mem_of_getElem? (i := 475) (by decide +kernel), List.mem_of_getElem? (i := 476) (by decide +kernel), List.mem_of_getElem? (i := 67) (by decide +kernel), List.mem_of_getElem? (i := 477) (by decide +kernel), by decide +kernel, by decide⟩
theorem eX0_isIn : z_LmS mX0_isIn 2 := ⟨List.mem_of_getElem? (i := 422) (by decide +kernel), List.mem_of_getElem? (i := 67) (by decide +kernel), List.mem_of_getElem? (i := 423) (by decide +kernel), by decide +kernel, by decide⟩
theorem eX1_add : z_LmV mX1_add 3 := ⟨List.mem_of_getElem? (i := 609) (by decide +kernel), List.mem_of_getElem? (i := 610) (by decide +kernel), List.mem_of_getElem? (i := 68) (by decide +kernel), List.mem_of_getElem? (i := 611) (by decide +kernel), by decide +kernel, by decide⟩
theorem eX1_areSoBy : z_LmV mX1_areSoBy 1 := ⟨List.mem_of_getElem? (i := 625) (by decide +kernel), List.mem_of_getElem? (i := 626) (by decide +kernel), List.mem_of_getElem? (i := 68) (by decide +kernel), List.mem_of_getElem? (i := 627) (by decide +kernel), by decide +kernel, by decide⟩
theorem eX2_least : z_LmV mX2_least 2 := ⟨List.mem_of_getElem? (i := 519) (by decide +kernel), List.mem_of_getElem? (i := 520) (by decide +kernel), List.mem_of_getElem? (i := 70) (by decide +kernel), List.mem_of_getElem? (i := 521) (by decide +kernel), by decide +kernel, by decide⟩
theorem eX2_prepare : z_LmV mX2_prepare 2 := ⟨List.mem_of_getElem? (i := 524) (by decide +kernel), List.mem_of_getElem? (i := 13) (by decide +kernel), List.mem_of_getElem? (i := 70) (by decide +kernel), List.mem_of_getElem? (i := 525) (by decide +kernel), by decide +kernel, by decide⟩
theorem eX2_prepareSet : z_LmV mX2_prepareSet 3 := ⟨List.mem_of_getElem? (i := 529) (by decide +kernel), List.mem_of_getElem? (i := 14) (by decide +kernel), List.mem_of_getElem? (i := 70) (by decide +kernel), List.mem_of_getElem? (i := 530) (by decide +kernel), by decide +kernel, by decide⟩
theorem eX2_settleAll : z_LmV mX2_settleAll 1 := ⟨List.mem_of_getElem? (i := 547) (by decide +kernel), List.mem_of_getElem? (i := 17) (by decide +kernel), List.mem_of_getElem? (i := 70) (by decide +kernel), List.mem_of_getElem? (i := 548) (by decide +kernel), by decide +kernel, by decide⟩
theorem eX2_spread : z_LmV mX2_spread 2 := ⟨List.mem_of_getElem? (i := 551) (by decide +kernel), List.mem_of_getElem? (i := 18) (by decide +kernel), List.mem_of_getElem? (i := 70) (by decide +kernel), List.mem_of_getElem? (i := 552) (by decide +kernel), by decide +kernel, by decide⟩
theorem eX2_thingsHere : z_LmV mX2_thingsHere 1 := ⟨List.mem_of_getElem? (i := 555) (by decide +kernel), List.mem_of_getElem? (i := 19) (by decide +kernel), List.mem_of_getElem? (i := 70) (by decide +kernel), List.mem_of_getElem? (i := 556) (by decide +kernel), by decide +kernel, by decide⟩
theorem eX2_spotBehind : z_LmS mX2_spotBehind 2 := ⟨List.mem_of_getElem? (i := 562) (by decide +kernel), List.mem_of_getElem? (i := 70) (by decide +kernel), List.mem_of_getElem? (i := 563) (by decide +kernel), by decide +kernel, by decide⟩
theorem eX2_stateBehind : z_LmV mX2_stateBehind 3 := ⟨List.mem_of_getElem? (i := 559) (by decide +kernel), List.mem_of_getElem? (i := 20) (by decide +kernel), List.mem_of_getElem? (i := 70) (by decide +kernel), List.mem_of_getElem? (i := 560) (by decide +kernel), by decide +kernel, by decide⟩
theorem eX2_minutesOf : z_LmV mX2_minutesOf 3 := ⟨List.mem_of_getElem? (i := 566) (by decide +kernel), List.mem_of_getElem? (i := 21) (by decide +kernel), List.mem_of_getElem? (i := 70) (by decide +kernel), List.mem_of_getElem? (i := 567) (by decide +kernel), by decide +kernel, by decide⟩
theorem eX2_offer : z_LmV mX2_offer 2 := ⟨List.mem_of_getElem? (i := 538) (by decide +kernel), List.mem_of_getElem? (i := 15) (by decide +kernel), List.mem_of_getElem? (i := 70) (by decide +kernel), List.mem_of_getElem? (i := 539) (by decide +kernel), by decide +kernel, by decide⟩
theorem eX2_takeOut : z_LmV mX2_takeOut 1 := ⟨List.mem_of_getElem? (i := 542) (by decide +kernel), List.mem_of_getElem? (i := 16) (by decide +kernel), List.mem_of_getElem? (i := 70) (by decide +kernel), List.mem_of_getElem? (i := 543) (by decide +kernel), by decide +kernel, by decide⟩
theorem eX2_layRow : z_LmV mX2_layRow 1 := ⟨List.mem_of_getElem? (i := 569) (by decide +kernel), List.mem_of_getElem? (i := 570) (by decide +kernel), List.mem_of_getElem? (i := 70) (by decide +kernel), List.mem_of_getElem? (i := 571) (by decide +kernel), by decide +kernel, by decide⟩
theorem eX2_countTripsLeft : z_LmV mX2_countTripsLeft 0 := ⟨List.mem_of_getElem? (i := 574) (by decide +kernel), List.mem_of_getElem? (i := 22) (by decide +kernel), List.mem_of_getElem? (i := 70) (by decide +kernel), List.mem_of_getElem? (i := 575) (by decide +kernel), by decide +kernel, by decide⟩
theorem eX2_bestMove : z_LmV mX2_bestMove 1 := ⟨List.mem_of_getElem? (i := 578) (by decide +kernel), List.mem_of_getElem? (i := 23) (by decide +kernel), List.mem_of_getElem? (i := 70) (by decide +kernel), List.mem_of_getElem? (i := 579) (by decide +kernel), by decide +kernel, by decide⟩
theorem eX2_isInTime : z_LmV mX2_isInTime 3 := ⟨List.mem_of_getElem? (i := 582) (by decide +kernel), List.mem_of_getElem? (i := 24) (by decide +kernel), List.mem_of_getElem? (i := 70) (by decide +kernel), List.mem_of_getElem? (i := 583) (by decide +kernel), by decide +kernel, by decide⟩
theorem eX3_renew : z_LmV mX3_renew 2 := ⟨List.mem_of_getElem? (i := 638) (by decide +kernel), List.mem_of_getElem? (i := 639) (by decide +kernel), List.mem_of_getElem? (i := 71) (by decide +kernel), List.mem_of_getElem? (i := 640) (by decide +kernel), by decide +kernel, by decide⟩
theorem eX3_isNothing : z_LmV mX3_isNothing 0 := ⟨List.mem_of_getElem? (i := 327) (by decide +kernel), List.mem_of_getElem? (i := 328) (by decide +kernel), List.mem_of_getElem? (i := 71) (by decide +kernel), List.mem_of_getElem? (i := 329) (by decide +kernel), by decide +kernel, by decide⟩
theorem eX3_faultAs : z_LmV mX3_faultAs 1 := ⟨List.mem_of_getElem? (i := 323) (by decide +kernel), List.mem_of_getElem? (i := 324) (by decide +kernel), List.mem_of_getElem? (i := 71) (by decide +kernel), List.mem_of_getElem? (i := 325) (by decide +kernel), by decide +kernel, by decide⟩
theorem eX3_hasCell : z_LmV mX3_hasCell 1 := ⟨List.mem_of_getElem? (i := 652) (by decide +kernel), List.mem_of_getElem? (i := 653) (by decide +kernel), List.mem_of_getElem? (i := 71) (by decide +kernel), List.mem_of_getElem? (i := 654) (by decide +kernel), by decide +kernel, by decide⟩
theorem eX3_hasCells : z_LmV mX3_hasCells 2 := ⟨List.mem_of_getElem? (i := 335) (by decide +kernel), List.mem_of_getElem? (i := 336) (by decide +kernel), List.mem_of_getElem? (i := 71) (by decide +kernel), List.mem_of_getElem? (i := 337) (by decide +kernel), by decide +kernel, by decide⟩
theorem eX3_write : z_LmV mX3_write 2 := ⟨List.mem_of_getElem? (i := 656) (by decide +kernel), List.mem_of_getElem? (i := 657) (by decide +kernel), List.mem_of_getElem? (i := 71) (by decide +kernel), List.mem_of_getElem? (i := 658) (by decide +kernel), by decide +kernel, by decide⟩
theorem eX4_add : z_LmV mX4_add 2 := ⟨List.mem_of_getElem? (i := 441) (by decide +kernel), List.mem_of_getElem? (i := 442) (by decide +kernel), List.mem_of_getElem? (i := 69) (by decide +kernel), List.mem_of_getElem? (i := 443) (by decide +kernel), by decide +kernel, by decide⟩
theorem eX4_go : z_LmV mX4_go 1 := ⟨List.mem_of_getElem? (i := 445) (by decide +kernel), List.mem_of_getElem? (i := 446) (by decide +kernel), List.mem_of_getElem? (i := 69) (by decide +kernel), List.mem_of_getElem? (i := 447) (by decide +kernel), by decide +kernel, by decide⟩
theorem eX4_canGo : z_LmV mX4_canGo 2 := ⟨List.mem_of_getElem? (i := 453) (by decide +kernel), List.mem_of_getElem? (i := 9) (by decide +kernel), List.mem_of_getElem? (i := 69) (by decide +kernel), List.mem_of_getElem? (i := 454) (by decide +kernel), by decide +kernel, by decide⟩
theorem eX4_goOne : z_LmV mX4_goOne 2 := ⟨List.mem_of_getElem? (i := 465) (by decide +kernel), List.mem_of_getElem? (i := 10) (by decide +kernel), List.mem_of_getElem? (i := 69) (by decide +kernel), List.mem_of_getElem? (i := 466) (by decide +kernel), by decide +kernel, by decide⟩
theorem eX4_cutShare : z_LmV mX4_cutShare 0 := ⟨List.mem_of_getElem? (i := 486) (by decide +kernel), List.mem_of_getElem? (i := 11) (by decide +kernel), List.mem_of_getElem? (i := 69) (by decide +kernel), List.mem_of_getElem? (i := 487) (by decide +kernel), by decide +kernel, by decide⟩
theorem eX4_minutes : z_LmV mX4_minutes 0 := ⟨List.mem_of_getElem? (i := 489) (by decide +kernel), List.mem_of_getElem? (i := 490) (by decide +kernel), List.mem_of_getElem? (i := 69) (by decide +kernel), List.mem_of_getElem? (i := 491) (by decide +kernel), by decide +kernel, by decide⟩
theorem eX4_thingsAt : z_LmV mX4_thingsAt 1 := ⟨List.mem_of_getElem? (i := 493) (by decide +kernel), List.mem_of_getElem? (i := 494) (by decide +kernel), List.mem_of_getElem? (i := 69) (by decide +kernel), List.mem_of_getElem? (i := 495) (by decide +kernel), by decide +kernel, by decide⟩
theorem eX4_spotOf : z_LmV mX4_spotOf 2 := ⟨List.mem_of_getElem? (i := 501) (by decide +kernel), List.mem_of_getElem? (i := 502) (by decide +kernel), List.mem_of_getElem? (i := 69) (by decide +kernel), List.mem_of_getElem? (i := 503) (by decide +kernel), by decide +kernel, by decide⟩
theorem eX5_portage : z_LmV mX5_portage 4 := ⟨List.mem_of_getElem? (i := 313) (by decide +kernel), List.mem_of_getElem? (i := 314) (by decide +kernel), List.mem_of_getElem? (i := 66) (by decide +kernel), List.mem_of_getElem? (i := 315) (by decide +kernel), by decide +kernel, by decide⟩
theorem eX5_ofStage : z_LmV mX5_ofStage 2 := ⟨List.mem_of_getElem? (i := 374) (by decide +kernel), List.mem_of_getElem? (i := 375) (by decide +kernel), List.mem_of_getElem? (i := 66) (by decide +kernel), List.mem_of_getElem? (i := 376) (by decide +kernel), by decide +kernel, by decide⟩
theorem eX5_ofThing : z_LmV mX5_ofThing 2 := ⟨List.mem_of_getElem? (i := 382) (by decide +kernel), List.mem_of_getElem? (i := 383) (by decide +kernel), List.mem_of_getElem? (i := 66) (by decide +kernel), List.mem_of_getElem? (i := 384) (by decide +kernel), by decide +kernel, by decide⟩
theorem eX5_bears : z_LmV mX5_bears 1 := ⟨List.mem_of_getElem? (i := 390) (by decide +kernel), List.mem_of_getElem? (i := 391) (by decide +kernel), List.mem_of_getElem? (i := 66) (by decide +kernel), List.mem_of_getElem? (i := 392) (by decide +kernel), by decide +kernel, by decide⟩
theorem eX5_rain : z_LmV mX5_rain 1 := ⟨List.mem_of_getElem? (i := 398) (by decide +kernel), List.mem_of_getElem? (i := 399) (by decide +kernel), List.mem_of_getElem? (i := 66) (by decide +kernel), List.mem_of_getElem? (i := 400) (by decide +kernel), by decide +kernel, by decide⟩
theorem eX5_boards : z_LmV mX5_boards 2 := ⟨List.mem_of_getElem? (i := 402) (by decide +kernel), List.mem_of_getElem? (i := 403) (by decide +kernel), List.mem_of_getElem? (i := 66) (by decide +kernel), List.mem_of_getElem? (i := 404) (by decide +kernel), by decide +kernel, by decide⟩
theorem eX5_well : z_LmV mX5_well 1 := ⟨List.mem_of_getElem? (i := 406) (by decide +kernel), List.mem_of_getElem? (i := 407) (by decide +kernel), List.mem_of_getElem? (i := 66) (by decide +kernel), List.mem_of_getElem? (i := 408) (by decide +kernel), by decide +kernel, by decide⟩
theorem eX5_trips : z_LmV mX5_trips 5 := ⟨List.mem_of_getElem? (i := 428) (by decide +kernel), List.mem_of_getElem? (i := 429) (by decide +kernel), List.mem_of_getElem? (i := 66) (by decide +kernel), List.mem_of_getElem? (i := 430) (by decide +kernel), by decide +kernel, by decide⟩
theorem eX5_at : z_LmV mX5_at 6 := ⟨List.mem_of_getElem? (i := 497) (by decide +kernel), List.mem_of_getElem? (i := 498) (by decide +kernel), List.mem_of_getElem? (i := 66) (by decide +kernel), List.mem_of_getElem? (i := 499) (by decide +kernel), by decide +kernel, by decide⟩
theorem eX5_dry : z_LmV mX5_dry 5 := ⟨List.mem_of_getElem? (i := 506) (by decide +kernel), List.mem_of_getElem? (i := 507) (by decide +kernel), List.mem_of_getElem? (i := 66) (by decide +kernel), List.mem_of_getElem? (i := 508) (by decide +kernel), by decide +kernel, by decide⟩
theorem eX5_takeTrips : z_LmV mX5_takeTrips 5 := ⟨List.mem_of_getElem? (i := 433) (by decide +kernel), List.mem_of_getElem? (i := 8) (by decide +kernel), List.mem_of_getElem? (i := 66) (by decide +kernel), List.mem_of_getElem? (i := 434) (by decide +kernel), by decide +kernel, by decide⟩
theorem eX5_soonest : z_LmV mX5_soonest 0 := ⟨List.mem_of_getElem? (i := 511) (by decide +kernel), List.mem_of_getElem? (i := 512) (by decide +kernel), List.mem_of_getElem? (i := 66) (by decide +kernel), List.mem_of_getElem? (i := 513) (by decide +kernel), by decide +kernel, by decide⟩
theorem eX5_trip : z_LmV mX5_trip 2 := ⟨List.mem_of_getElem? (i := 585) (by decide +kernel), List.mem_of_getElem? (i := 586) (by decide +kernel), List.mem_of_getElem? (i := 66) (by decide +kernel), List.mem_of_getElem? (i := 587) (by decide +kernel), by decide +kernel, by decide⟩
theorem eX5_fewest : z_LmV mX5_fewest 0 := ⟨List.mem_of_getElem? (i := 589) (by decide +kernel), List.mem_of_getElem? (i := 590) (by decide +kernel), List.mem_of_getElem? (i := 66) (by decide +kernel), List.mem_of_getElem? (i := 591) (by decide +kernel), by decide +kernel, by decide⟩
theorem eX5_cost : z_LmV mX5_cost 1 := ⟨List.mem_of_getElem? (i := 593) (by decide +kernel), List.mem_of_getElem? (i := 594) (by decide +kernel), List.mem_of_getElem? (i := 66) (by decide +kernel), List.mem_of_getElem? (i := 595) (by decide +kernel), by decide +kernel, by decide⟩
theorem eX5_help : z_LmV mX5_help 1 := ⟨List.mem_of_getElem? (i := 601) (by decide +kernel), List.mem_of_getElem? (i := 602) (by decide +kernel), List.mem_of_getElem? (i := 66) (by decide +kernel), List.mem_of_getElem? (i := 603) (by decide +kernel), by decide +kernel, by decide⟩
theorem eX5_makePlan : z_LmV mX5_makePlan 0 := ⟨List.mem_of_getElem? (i := 516) (by decide +kernel), List.mem_of_getElem? (i := 12) (by decide +kernel), List.mem_of_getElem? (i := 66) (by decide +kernel), List.mem_of_getElem? (i := 517) (by decide +kernel), by decide +kernel, by decide⟩
theorem eX5_forgetSearches : z_LmV mX5_forgetSearches 0 := ⟨List.mem_of_getElem? (i := 371) (by decide +kernel), List.mem_of_getElem? (i := 6) (by decide +kernel), List.mem_of_getElem? (i := 66) (by decide +kernel), List.mem_of_getElem? (i := 372) (by decide +kernel), by decide +kernel, by decide⟩
theorem eX5_reading : z_LmV mX5_reading 3 := ⟨List.mem_of_getElem? (i := 605) (by decide +kernel), List.mem_of_getElem? (i := 606) (by decide +kernel), List.mem_of_getElem? (i := 66) (by decide +kernel), List.mem_of_getElem? (i := 607) (by decide +kernel), by decide +kernel, by decide⟩
theorem eX5_back : z_LmV mX5_back 1 := ⟨List.mem_of_getElem? (i := 613) (by decide +kernel), List.mem_of_getElem? (i := 614) (by decide +kernel), List.mem_of_getElem? (i := 66) (by decide +kernel), List.mem_of_getElem? (i := 615) (by decide +kernel), by decide +kernel, by decide⟩
theorem eX5_since : z_LmV mX5_since 4 := ⟨List.mem_of_getElem? (i := 617) (by decide +kernel), List.mem_of_getElem? (i := 618) (by decide +kernel), List.mem_of_getElem? (i := 66) (by decide +kernel), List.mem_of_getElem? (i := 619) (by decide +kernel), by decide +kernel, by decide⟩
theorem eX5_kinds : z_LmV mX5_kinds 5 := ⟨List.mem_of_getElem? (i := 630) (by decide +kernel), List.mem_of_getElem? (i := 631) (by decide +kernel), List.mem_of_getElem? (i := 66) (by decide +kernel), List.mem_of_getElem? (i := 632) (by decide +kernel), by decide +kernel, by decide⟩
theorem eX5_draftIsAsRead : z_LmV mX5_draftIsAsRead 0 := ⟨List.mem_of_getElem? (i := 622) (by decide +kernel), List.mem_of_getElem? (i := 25) (by decide +kernel), List.mem_of_getElem? (i := 66) (by decide +kernel), List.mem_of_getElem? (i := 623) (by decide +kernel), by decide +kernel, by decide⟩
theorem eX5_sheet : z_LmV mX5_sheet 3 := ⟨List.mem_of_getElem? (i := 634) (by decide +kernel), List.mem_of_getElem? (i := 635) (by decide +kernel), List.mem_of_getElem? (i := 66) (by decide +kernel), List.mem_of_getElem? (i := 636) (by decide +kernel), by decide +kernel, by decide⟩
theorem eX5_lose : z_LmV mX5_lose 1 := ⟨List.mem_of_getElem? (i := 643) (by decide +kernel), List.mem_of_getElem? (i := 644) (by decide +kernel), List.mem_of_getElem? (i := 66) (by decide +kernel), List.mem_of_getElem? (i := 645) (by decide +kernel), by decide +kernel, by decide⟩
theorem eX5_put : z_LmV mX5_put 3 := ⟨List.mem_of_getElem? (i := 648) (by decide +kernel), List.mem_of_getElem? (i := 649) (by decide +kernel), List.mem_of_getElem? (i := 66) (by decide +kernel), List.mem_of_getElem? (i := 650) (by decide +kernel), by decide +kernel, by decide⟩
theorem eX5_cell : z_LmV mX5_cell 3 := ⟨List.mem_of_getElem? (i := 660) (by decide +kernel), List.mem_of_getElem? (i := 661) (by decide +kernel), List.mem_of_getElem? (i := 66) (by decide +kernel), List.mem_of_getElem? (i := 662) (by decide +kernel), by decide +kernel, by decide⟩
theorem eX5_copy : z_LmV mX5_copy 5 := ⟨List.mem_of_getElem? (i := 664) (by decide +kernel), List.mem_of_getElem? (i := 665) (by decide +kernel), List.mem_of_getElem? (i := 66) (by decide +kernel), List.mem_of_getElem? (i := 666) (by decide +kernel), by decide +kernel, by decide⟩
theorem eX5_tell : z_LmV mX5_tell 1 := ⟨List.mem_of_getElem? (i := 671) (by decide +kernel), List.mem_of_getElem? (i := 672) (by decide +kernel), List.mem_of_getElem? (i := 66) (by decide +kernel), List.mem_of_getElem? (i := 673) (by decide +kernel), by decide +kernel, by decide⟩
theorem eX5_hail : z_LmV mX5_hail 1 := ⟨List.mem_of_getElem? (i := 691) (by decide +kernel), List.mem_of_getElem? (i := 692) (by decide +kernel), List.mem_of_getElem? (i := 66) (by decide +kernel), List.mem_of_getElem? (i := 693) (by decide +kernel), by decide +kernel, by decide⟩
theorem eX5_as : z_LmV mX5_as 2 := ⟨List.mem_of_getElem? (i := 695) (by decide +kernel), List.mem_of_getElem? (i := 696) (by decide +kernel), List.mem_of_getElem? (i := 66) (by decide +kernel), List.mem_of_getElem? (i := 697) (by decide +kernel), by decide +kernel, by decide⟩
theorem eX5_trace : z_LmV mX5_trace 0 := ⟨List.mem_of_getElem? (i := 699) (by decide +kernel), List.mem_of_getElem? (i := 700) (by decide +kernel), List.mem_of_getElem? (i := 66) (by decide +kernel), List.mem_of_getElem? (i := 701) (by decide +kernel), by decide +kernel, by decide⟩
theorem eX5_fault : z_LmV mX5_fault 0 := ⟨List.mem_of_getElem? (i := 703) (by decide +kernel), List.mem_of_getElem? (i := 704) (by decide +kernel), List.mem_of_getElem? (i := 66) (by decide +kernel), List.mem_of_getElem? (i := 705) (by decide +kernel), by decide +kernel, by decide⟩
theorem eX5_many : z_LmV mX5_many 1 := ⟨List.mem_of_getElem? (i := 707) (by decide +kernel), List.mem_of_getElem? (i := 708) (by decide +kernel), List.mem_of_getElem? (i := 66) (by decide +kernel), List.mem_of_getElem? (i := 709) (by decide +kernel), by decide +kernel, by decide⟩
theorem eX5_tellAsThing : z_LmV mX5_tellAsThing 1 := ⟨List.mem_of_getElem? (i := 688) (by decide +kernel), List.mem_of_getElem? (i := 29) (by decide +kernel), List.mem_of_getElem? (i := 66) (by decide +kernel), List.mem_of_getElem? (i := 689) (by decide +kernel), by decide +kernel, by decide⟩
theorem eX5_tellAsFood : z_LmV mX5_tellAsFood 1 := ⟨List.mem_of_getElem? (i := 684) (by decide +kernel), List.mem_of_getElem? (i := 28) (by decide +kernel), List.mem_of_getElem? (i := 66) (by decide +kernel), List.mem_of_getElem? (i := 685) (by decide +kernel), by decide +kernel, by decide⟩
theorem eX5_tellAsChild : z_LmV mX5_tellAsChild 1 := ⟨List.mem_of_getElem? (i := 676) (by decide +kernel), List.mem_of_getElem? (i := 26) (by decide +kernel), List.mem_of_getElem? (i := 66) (by decide +kernel), List.mem_of_getElem? (i := 677) (by decide +kernel), by decide +kernel, by decide⟩
theorem eX5_leave : z_LmV mX5_leave 1 := ⟨List.mem_of_getElem? (i := 680) (by decide +kernel), List.mem_of_getElem? (i := 27) (by decide +kernel), List.mem_of_getElem? (i := 66) (by decide +kernel), List.mem_of_getElem? (i := 681) (by decide +kernel), by decide +kernel, by decide⟩
theorem eX5_faulted : z_LmV mX5_faulted 1 := ⟨List.mem_of_getElem? (i := 332) (by decide +kernel), List.mem_of_getElem? (i := 0) (by decide +kernel), List.mem_of_getElem? (i := 66) (by decide +kernel), List.mem_of_getElem? (i := 333) (by decide +kernel), by decide +kernel, by decide⟩
theorem eX5_isSheet : z_LmS mX5_isSheet 1 := ⟨List.mem_of_getElem? (i := 317) (by decide +kernel), List.mem_of_getElem? (i := 66) (by decide +kernel), List.mem_of_getElem? (i := 318) (by decide +kernel), by decide +kernel, by decide⟩
theorem eX5_isLane : z_LmS mX5_isLane 1 := ⟨List.mem_of_getElem? (i := 320) (by decide +kernel), List.mem_of_getElem? (i := 66) (by decide +kernel), List.mem_of_getElem? (i := 321) (by decide +kernel), by decide +kernel, by decide⟩
theorem eX6_fails : z_LmV mX6_fails 1 := ⟨List.mem_of_getElem? (i := 850) (by decide +kernel), List.mem_of_getElem? (i := 31) (by decide +kernel), List.mem_of_getElem? (i := 72) (by decide +kernel), List.mem_of_getElem? (i := 851) (by decide +kernel), by decide +kernel, by decide⟩
theorem eX6_lost : z_LmV mX6_lost 1 := ⟨List.mem_of_getElem? (i := 1077) (by decide +kernel), List.mem_of_getElem? (i := 63) (by decide +kernel), List.mem_of_getElem? (i := 72) (by decide +kernel), List.mem_of_getElem? (i := 1078) (by decide +kernel), by decide +kernel, by decide⟩
theorem eX6_within : z_LmS mX6_within 3 := ⟨List.mem_of_getElem? (i := 839) (by decide +kernel), List.mem_of_getElem? (i := 72) (by decide +kernel), List.mem_of_getElem? (i := 840) (by decide +kernel), by decide +kernel, by decide⟩
theorem eX6_isSheet : z_LmS mX6_isSheet 1 := ⟨List.mem_of_getElem? (i := 836) (by decide +kernel), List.mem_of_getElem? (i := 72) (by decide +kernel), List.mem_of_getElem? (i := 837) (by decide +kernel), by decide +kernel, by decide⟩
theorem eX6_isSort : z_LmS mX6_isSort 1 := ⟨List.mem_of_getElem? (i := 842) (by decide +kernel), List.mem_of_getElem? (i := 72) (by decide +kernel), List.mem_of_getElem? (i := 843) (by decide +kernel), by decide +kernel, by decide⟩
theorem eX6_against : z_LmV mX6_against 4 := ⟨List.mem_of_getElem? (i := 846) (by decide +kernel), List.mem_of_getElem? (i := 30) (by decide +kernel), List.mem_of_getElem? (i := 72) (by decide +kernel), List.mem_of_getElem? (i := 847) (by decide +kernel), by decide +kernel, by decide⟩
theorem eX6_isStage : z_LmV mX6_isStage 1 := ⟨List.mem_of_getElem? (i := 878) (by decide +kernel), List.mem_of_getElem? (i := 37) (by decide +kernel), List.mem_of_getElem? (i := 72) (by decide +kernel), List.mem_of_getElem? (i := 879) (by decide +kernel), by decide +kernel, by decide⟩
theorem eX6_isThing : z_LmV mX6_isThing 1 := ⟨List.mem_of_getElem? (i := 886) (by decide +kernel), List.mem_of_getElem? (i := 38) (by decide +kernel), List.mem_of_getElem? (i := 72) (by decide +kernel), List.mem_of_getElem? (i := 887) (by decide +kernel), by decide +kernel, by decide⟩
theorem eX6_isSpot : z_LmV mX6_isSpot 1 := ⟨List.mem_of_getElem? (i := 929) (by decide +kernel), List.mem_of_getElem? (i := 43) (by decide +kernel), List.mem_of_getElem? (i := 72) (by decide +kernel), List.mem_of_getElem? (i := 930) (by decide +kernel), by decide +kernel, by decide⟩
theorem eX6_allThings : z_LmV mX6_allThings 0 := ⟨List.mem_of_getElem? (i := 906) (by decide +kernel), List.mem_of_getElem? (i := 39) (by decide +kernel), List.mem_of_getElem? (i := 72) (by decide +kernel), List.mem_of_getElem? (i := 907) (by decide +kernel), by decide +kernel, by decide⟩
theorem eX6_digit : z_LmV mX6_digit 3 := ⟨List.mem_of_getElem? (i := 862) (by decide +kernel), List.mem_of_getElem? (i := 34) (by decide +kernel), List.mem_of_getElem? (i := 72) (by decide +kernel), List.mem_of_getElem? (i := 863) (by decide +kernel), by decide +kernel, by decide⟩
theorem eX6_isSign : z_LmV mX6_isSign 2 := ⟨List.mem_of_getElem? (i := 858) (by decide +kernel), List.mem_of_getElem? (i := 33) (by decide +kernel), List.mem_of_getElem? (i := 72) (by decide +kernel), List.mem_of_getElem? (i := 859) (by decide +kernel), by decide +kernel, by decide⟩
theorem eX6_portage : z_LmV mX6_portage 4 := ⟨List.mem_of_getElem? (i := 832) (by decide +kernel), List.mem_of_getElem? (i := 833) (by decide +kernel), List.mem_of_getElem? (i := 72) (by decide +kernel), List.mem_of_getElem? (i := 834) (by decide +kernel), by decide +kernel, by decide⟩
theorem eX6_readAll : z_LmV mX6_readAll 1 := ⟨List.mem_of_getElem? (i := 854) (by decide +kernel), List.mem_of_getElem? (i := 32) (by decide +kernel), List.mem_of_getElem? (i := 72) (by decide +kernel), List.mem_of_getElem? (i := 855) (by decide +kernel), by decide +kernel, by decide⟩
theorem eX6_readOneStage : z_LmV mX6_readOneStage 1 := ⟨List.mem_of_getElem? (i := 866) (by decide +kernel), List.mem_of_getElem? (i := 35) (by decide +kernel), List.mem_of_getElem? (i := 72) (by decide +kernel), List.mem_of_getElem? (i := 867) (by decide +kernel), by decide +kernel, by decide⟩
theorem eX6_readOneThing : z_LmV mX6_readOneThing 1 := ⟨List.mem_of_getElem? (i := 870) (by decide +kernel), List.mem_of_getElem? (i := 36) (by decide +kernel), List.mem_of_getElem? (i := 72) (by decide +kernel), List.mem_of_getElem? (i := 871) (by decide +kernel), by decide +kernel, by decide⟩
theorem eX6_ofStage : z_LmV mX6_ofStage 2 := ⟨List.mem_of_getElem? (i := 873) (by decide +kernel), List.mem_of_getElem? (i := 874) (by decide +kernel), List.mem_of_getElem? (i := 72) (by decide +kernel), List.mem_of_getElem? (i := 875) (by decide +kernel), by decide +kernel, by decide⟩
theorem eX6_ofThing : z_LmV mX6_ofThing 2 := ⟨List.mem_of_getElem? (i := 881) (by decide +kernel), List.mem_of_getElem? (i := 882) (by decide +kernel), List.mem_of_getElem? (i := 72) (by decide +kernel), List.mem_of_getElem? (i := 883) (by decide +kernel), by decide +kernel, by decide⟩
theorem eX6_bears : z_LmV mX6_bears 1 := ⟨List.mem_of_getElem? (i := 889) (by decide +kernel), List.mem_of_getElem? (i := 890) (by decide +kernel), List.mem_of_getElem? (i := 72) (by decide +kernel), List.mem_of_getElem? (i := 891) (by decide +kernel), by decide +kernel, by decide⟩
theorem eX6_rain : z_LmV mX6_rain 1 := ⟨List.mem_of_getElem? (i := 893) (by decide +kernel), List.mem_of_getElem? (i := 894) (by decide +kernel), List.mem_of_getElem? (i := 72) (by decide +kernel), List.mem_of_getElem? (i := 895) (by decide +kernel), by decide +kernel, by decide⟩
theorem eX6_boards : z_LmV mX6_boards 2 := ⟨List.mem_of_getElem? (i := 897) (by decide +kernel), List.mem_of_getElem? (i := 898) (by decide +kernel), List.mem_of_getElem? (i := 72) (by decide +kernel), List.mem_of_getElem? (i := 899) (by decide +kernel), by decide +kernel, by decide⟩
theorem eX6_isWell : z_LmV mX6_isWell 2 := ⟨List.mem_of_getElem? (i := 914) (by decide +kernel), List.mem_of_getElem? (i := 41) (by decide +kernel), List.mem_of_getElem? (i := 72) (by decide +kernel), List.mem_of_getElem? (i := 915) (by decide +kernel), by decide +kernel, by decide⟩
theorem eX6_wellOf : z_LmV mX6_wellOf 1 := ⟨List.mem_of_getElem? (i := 910) (by decide +kernel), List.mem_of_getElem? (i := 40) (by decide +kernel), List.mem_of_getElem? (i := 72) (by decide +kernel), List.mem_of_getElem? (i := 911) (by decide +kernel), by decide +kernel, by decide⟩
theorem eX6_well : z_LmV mX6_well 1 := ⟨List.mem_of_getElem? (i := 901) (by decide +kernel), List.mem_of_getElem? (i := 902) (by decide +kernel), List.mem_of_getElem? (i := 72) (by decide +kernel), List.mem_of_getElem? (i := 903) (by decide +kernel), by decide +kernel, by decide⟩
theorem eX6_thingsAt : z_LmV mX6_thingsAt 2 := ⟨List.mem_of_getElem? (i := 941) (by decide +kernel), List.mem_of_getElem? (i := 46) (by decide +kernel), List.mem_of_getElem? (i := 72) (by decide +kernel), List.mem_of_getElem? (i := 942) (by decide +kernel), by decide +kernel, by decide⟩
theorem eX6_poundsOf : z_LmV mX6_poundsOf 1 := ⟨List.mem_of_getElem? (i := 945) (by decide +kernel), List.mem_of_getElem? (i := 47) (by decide +kernel), List.mem_of_getElem? (i := 72) (by decide +kernel), List.mem_of_getElem? (i := 946) (by decide +kernel), by decide +kernel, by decide⟩
theorem eX6_mayGo : z_LmV mX6_mayGo 3 := ⟨List.mem_of_getElem? (i := 937) (by decide +kernel), List.mem_of_getElem? (i := 45) (by decide +kernel), List.mem_of_getElem? (i := 72) (by decide +kernel), List.mem_of_getElem? (i := 938) (by decide +kernel), by decide +kernel, by decide⟩
theorem eX6_gone : z_LmS mX6_gone 3 := ⟨List.mem_of_getElem? (i := 961) (by decide +kernel), List.mem_of_getElem? (i := 72) (by decide +kernel), List.mem_of_getElem? (i := 962) (by decide +kernel), by decide +kernel, by decide⟩
theorem eX6_stageOf : z_LmV mX6_stageOf 2 := ⟨List.mem_of_getElem? (i := 949) (by decide +kernel), List.mem_of_getElem? (i := 48) (by decide +kernel), List.mem_of_getElem? (i := 72) (by decide +kernel), List.mem_of_getElem? (i := 950) (by decide +kernel), by decide +kernel, by decide⟩
theorem eX6_mudOf : z_LmV mX6_mudOf 2 := ⟨List.mem_of_getElem? (i := 953) (by decide +kernel), List.mem_of_getElem? (i := 49) (by decide +kernel), List.mem_of_getElem? (i := 72) (by decide +kernel), List.mem_of_getElem? (i := 954) (by decide +kernel), by decide +kernel, by decide⟩
theorem eX6_takes : z_LmV mX6_takes 4 := ⟨List.mem_of_getElem? (i := 958) (by decide +kernel), List.mem_of_getElem? (i := 50) (by decide +kernel), List.mem_of_getElem? (i := 72) (by decide +kernel), List.mem_of_getElem? (i := 959) (by decide +kernel), by decide +kernel, by decide⟩
theorem eX6_layTrips : z_LmV mX6_layTrips 4 := ⟨List.mem_of_getElem? (i := 925) (by decide +kernel), List.mem_of_getElem? (i := 42) (by decide +kernel), List.mem_of_getElem? (i := 72) (by decide +kernel), List.mem_of_getElem? (i := 926) (by decide +kernel), by decide +kernel, by decide⟩
theorem eX6_go : z_LmV mX6_go 0 := ⟨List.mem_of_getElem? (i := 933) (by decide +kernel), List.mem_of_getElem? (i := 44) (by decide +kernel), List.mem_of_getElem? (i := 72) (by decide +kernel), List.mem_of_getElem? (i := 934) (by decide +kernel), by decide +kernel, by decide⟩
theorem eX6_arePairs : z_LmS mX6_arePairs 2 := ⟨List.mem_of_getElem? (i := 921) (by decide +kernel), List.mem_of_getElem? (i := 72) (by decide +kernel), List.mem_of_getElem? (i := 922) (by decide +kernel), by decide +kernel, by decide⟩
theorem eX6_trips : z_LmV mX6_trips 5 := ⟨List.mem_of_getElem? (i := 917) (by decide +kernel), List.mem_of_getElem? (i := 918) (by decide +kernel), List.mem_of_getElem? (i := 72) (by decide +kernel), List.mem_of_getElem? (i := 919) (by decide +kernel), by decide +kernel, by decide⟩
theorem eX6_spotAt : z_LmV mX6_spotAt 2 := ⟨List.mem_of_getElem? (i := 969) (by decide +kernel), List.mem_of_getElem? (i := 51) (by decide +kernel), List.mem_of_getElem? (i := 72) (by decide +kernel), List.mem_of_getElem? (i := 970) (by decide +kernel), by decide +kernel, by decide⟩
theorem eX6_at : z_LmV mX6_at 6 := ⟨List.mem_of_getElem? (i := 964) (by decide +kernel), List.mem_of_getElem? (i := 965) (by decide +kernel), List.mem_of_getElem? (i := 72) (by decide +kernel), List.mem_of_getElem? (i := 966) (by decide +kernel), by decide +kernel, by decide⟩
theorem eX6_inLeastTerms : z_LmS mX6_inLeastTerms 3 := ⟨List.mem_of_getElem? (i := 977) (by decide +kernel), List.mem_of_getElem? (i := 72) (by decide +kernel), List.mem_of_getElem? (i := 978) (by decide +kernel), by decide +kernel, by decide⟩
theorem eX6_dry : z_LmV mX6_dry 5 := ⟨List.mem_of_getElem? (i := 972) (by decide +kernel), List.mem_of_getElem? (i := 973) (by decide +kernel), List.mem_of_getElem? (i := 72) (by decide +kernel), List.mem_of_getElem? (i := 974) (by decide +kernel), by decide +kernel, by decide⟩
theorem eX6_end : z_LmV mX6_end 0 := ⟨List.mem_of_getElem? (i := 997) (by decide +kernel), List.mem_of_getElem? (i := 55) (by decide +kernel), List.mem_of_getElem? (i := 72) (by decide +kernel), List.mem_of_getElem? (i := 998) (by decide +kernel), by decide +kernel, by decide⟩
theorem eX6_relax : z_LmV mX6_relax 3 := ⟨List.mem_of_getElem? (i := 993) (by decide +kernel), List.mem_of_getElem? (i := 54) (by decide +kernel), List.mem_of_getElem? (i := 72) (by decide +kernel), List.mem_of_getElem? (i := 994) (by decide +kernel), by decide +kernel, by decide⟩
theorem eX6_laySoonest : z_LmV mX6_laySoonest 0 := ⟨List.mem_of_getElem? (i := 989) (by decide +kernel), List.mem_of_getElem? (i := 53) (by decide +kernel), List.mem_of_getElem? (i := 72) (by decide +kernel), List.mem_of_getElem? (i := 990) (by decide +kernel), by decide +kernel, by decide⟩
theorem eX6_soonestNow : z_LmV mX6_soonestNow 0 := ⟨List.mem_of_getElem? (i := 985) (by decide +kernel), List.mem_of_getElem? (i := 52) (by decide +kernel), List.mem_of_getElem? (i := 72) (by decide +kernel), List.mem_of_getElem? (i := 986) (by decide +kernel), by decide +kernel, by decide⟩
theorem eX6_soonest : z_LmV mX6_soonest 0 := ⟨List.mem_of_getElem? (i := 980) (by decide +kernel), List.mem_of_getElem? (i := 981) (by decide +kernel), List.mem_of_getElem? (i := 72) (by decide +kernel), List.mem_of_getElem? (i := 982) (by decide +kernel), by decide +kernel, by decide⟩
theorem eX6_isTight : z_LmV mX6_isTight 3 := ⟨List.mem_of_getElem? (i := 1013) (by decide +kernel), List.mem_of_getElem? (i := 58) (by decide +kernel), List.mem_of_getElem? (i := 72) (by decide +kernel), List.mem_of_getElem? (i := 1014) (by decide +kernel), by decide +kernel, by decide⟩
theorem eX6_shorten : z_LmV mX6_shorten 3 := ⟨List.mem_of_getElem? (i := 1009) (by decide +kernel), List.mem_of_getElem? (i := 57) (by decide +kernel), List.mem_of_getElem? (i := 72) (by decide +kernel), List.mem_of_getElem? (i := 1010) (by decide +kernel), by decide +kernel, by decide⟩
theorem eX6_layLeft : z_LmV mX6_layLeft 0 := ⟨List.mem_of_getElem? (i := 1005) (by decide +kernel), List.mem_of_getElem? (i := 56) (by decide +kernel), List.mem_of_getElem? (i := 72) (by decide +kernel), List.mem_of_getElem? (i := 1006) (by decide +kernel), by decide +kernel, by decide⟩
theorem eX6_isNext : z_LmV mX6_isNext 3 := ⟨List.mem_of_getElem? (i := 1021) (by decide +kernel), List.mem_of_getElem? (i := 60) (by decide +kernel), List.mem_of_getElem? (i := 72) (by decide +kernel), List.mem_of_getElem? (i := 1022) (by decide +kernel), by decide +kernel, by decide⟩
theorem eX6_findNext : z_LmV mX6_findNext 1 := ⟨List.mem_of_getElem? (i := 1017) (by decide +kernel), List.mem_of_getElem? (i := 59) (by decide +kernel), List.mem_of_getElem? (i := 72) (by decide +kernel), List.mem_of_getElem? (i := 1018) (by decide +kernel), by decide +kernel, by decide⟩
theorem eX6_trip : z_LmV mX6_trip 2 := ⟨List.mem_of_getElem? (i := 1000) (by decide +kernel), List.mem_of_getElem? (i := 1001) (by decide +kernel), List.mem_of_getElem? (i := 72) (by decide +kernel), List.mem_of_getElem? (i := 1002) (by decide +kernel), by decide +kernel, by decide⟩
theorem eX6_spread : z_LmV mX6_spread 3 := ⟨List.mem_of_getElem? (i := 1029) (by decide +kernel), List.mem_of_getElem? (i := 61) (by decide +kernel), List.mem_of_getElem? (i := 72) (by decide +kernel), List.mem_of_getElem? (i := 1030) (by decide +kernel), by decide +kernel, by decide⟩
theorem eX6_fewest : z_LmV mX6_fewest 0 := ⟨List.mem_of_getElem? (i := 1024) (by decide +kernel), List.mem_of_getElem? (i := 1025) (by decide +kernel), List.mem_of_getElem? (i := 72) (by decide +kernel), List.mem_of_getElem? (i := 1026) (by decide +kernel), by decide +kernel, by decide⟩
theorem eX6_cost : z_LmV mX6_cost 1 := ⟨List.mem_of_getElem? (i := 1032) (by decide +kernel), List.mem_of_getElem? (i := 1033) (by decide +kernel), List.mem_of_getElem? (i := 72) (by decide +kernel), List.mem_of_getElem? (i := 1034) (by decide +kernel), by decide +kernel, by decide⟩
theorem eX6_help : z_LmV mX6_help 1 := ⟨List.mem_of_getElem? (i := 1036) (by decide +kernel), List.mem_of_getElem? (i := 1037) (by decide +kernel), List.mem_of_getElem? (i := 72) (by decide +kernel), List.mem_of_getElem? (i := 1038) (by decide +kernel), by decide +kernel, by decide⟩
theorem eX6_reading : z_LmV mX6_reading 3 := ⟨List.mem_of_getElem? (i := 1040) (by decide +kernel), List.mem_of_getElem? (i := 1041) (by decide +kernel), List.mem_of_getElem? (i := 72) (by decide +kernel), List.mem_of_getElem? (i := 1042) (by decide +kernel), by decide +kernel, by decide⟩
theorem eX6_back : z_LmV mX6_back 1 := ⟨List.mem_of_getElem? (i := 1044) (by decide +kernel), List.mem_of_getElem? (i := 1045) (by decide +kernel), List.mem_of_getElem? (i := 72) (by decide +kernel), List.mem_of_getElem? (i := 1046) (by decide +kernel), by decide +kernel, by decide⟩
theorem eX6_areSo : z_LmV mX6_areSo 0 := ⟨List.mem_of_getElem? (i := 1053) (by decide +kernel), List.mem_of_getElem? (i := 62) (by decide +kernel), List.mem_of_getElem? (i := 72) (by decide +kernel), List.mem_of_getElem? (i := 1054) (by decide +kernel), by decide +kernel, by decide⟩
theorem eX6_since : z_LmV mX6_since 4 := ⟨List.mem_of_getElem? (i := 1048) (by decide +kernel), List.mem_of_getElem? (i := 1049) (by decide +kernel), List.mem_of_getElem? (i := 72) (by decide +kernel), List.mem_of_getElem? (i := 1050) (by decide +kernel), by decide +kernel, by decide⟩
theorem eX6_kinds : z_LmV mX6_kinds 5 := ⟨List.mem_of_getElem? (i := 1056) (by decide +kernel), List.mem_of_getElem? (i := 1057) (by decide +kernel), List.mem_of_getElem? (i := 72) (by decide +kernel), List.mem_of_getElem? (i := 1058) (by decide +kernel), by decide +kernel, by decide⟩
theorem eX6_sheet : z_LmV mX6_sheet 3 := ⟨List.mem_of_getElem? (i := 1060) (by decide +kernel), List.mem_of_getElem? (i := 1061) (by decide +kernel), List.mem_of_getElem? (i := 72) (by decide +kernel), List.mem_of_getElem? (i := 1062) (by decide +kernel), by decide +kernel, by decide⟩
theorem eX6_lose : z_LmV mX6_lose 1 := ⟨List.mem_of_getElem? (i := 1064) (by decide +kernel), List.mem_of_getElem? (i := 1065) (by decide +kernel), List.mem_of_getElem? (i := 72) (by decide +kernel), List.mem_of_getElem? (i := 1066) (by decide +kernel), by decide +kernel, by decide⟩
theorem eX6_put : z_LmV mX6_put 3 := ⟨List.mem_of_getElem? (i := 1068) (by decide +kernel), List.mem_of_getElem? (i := 1069) (by decide +kernel), List.mem_of_getElem? (i := 72) (by decide +kernel), List.mem_of_getElem? (i := 1070) (by decide +kernel), by decide +kernel, by decide⟩
theorem eX6_cell : z_LmV mX6_cell 3 := ⟨List.mem_of_getElem? (i := 1072) (by decide +kernel), List.mem_of_getElem? (i := 1073) (by decide +kernel), List.mem_of_getElem? (i := 72) (by decide +kernel), List.mem_of_getElem? (i := 1074) (by decide +kernel), by decide +kernel, by decide⟩
theorem eX6_copy : z_LmV mX6_copy 5 := ⟨List.mem_of_getElem? (i := 1080) (by decide +kernel), List.mem_of_getElem? (i := 1081) (by decide +kernel), List.mem_of_getElem? (i := 72) (by decide +kernel), List.mem_of_getElem? (i := 1082) (by decide +kernel), by decide +kernel, by decide⟩
theorem eX6_begins : z_LmV mX6_begins 1 := ⟨List.mem_of_getElem? (i := 1089) (by decide +kernel), List.mem_of_getElem? (i := 64) (by decide +kernel), List.mem_of_getElem? (i := 72) (by decide +kernel), List.mem_of_getElem? (i := 1090) (by decide +kernel), by decide +kernel, by decide⟩
theorem eX6_tell : z_LmV mX6_tell 1 := ⟨List.mem_of_getElem? (i := 1084) (by decide +kernel), List.mem_of_getElem? (i := 1085) (by decide +kernel), List.mem_of_getElem? (i := 72) (by decide +kernel), List.mem_of_getElem? (i := 1086) (by decide +kernel), by decide +kernel, by decide⟩
theorem eX6_hail : z_LmV mX6_hail 1 := ⟨List.mem_of_getElem? (i := 1092) (by decide +kernel), List.mem_of_getElem? (i := 1093) (by decide +kernel), List.mem_of_getElem? (i := 72) (by decide +kernel), List.mem_of_getElem? (i := 1094) (by decide +kernel), by decide +kernel, by decide⟩
theorem eX6_as : z_LmV mX6_as 2 := ⟨List.mem_of_getElem? (i := 1096) (by decide +kernel), List.mem_of_getElem? (i := 1097) (by decide +kernel), List.mem_of_getElem? (i := 72) (by decide +kernel), List.mem_of_getElem? (i := 1098) (by decide +kernel), by decide +kernel, by decide⟩
theorem eX6_trace : z_LmV mX6_trace 0 := ⟨List.mem_of_getElem? (i := 1100) (by decide +kernel), List.mem_of_getElem? (i := 1101) (by decide +kernel), List.mem_of_getElem? (i := 72) (by decide +kernel), List.mem_of_getElem? (i := 1102) (by decide +kernel), by decide +kernel, by decide⟩
theorem eX6_fault : z_LmV mX6_fault 0 := ⟨List.mem_of_getElem? (i := 1104) (by decide +kernel), List.mem_of_getElem? (i := 1105) (by decide +kernel), List.mem_of_getElem? (i := 72) (by decide +kernel), List.mem_of_getElem? (i := 1106) (by decide +kernel), by decide +kernel, by decide⟩
theorem eX6_many : z_LmV mX6_many 1 := ⟨List.mem_of_getElem? (i := 1108) (by decide +kernel), List.mem_of_getElem? (i := 1109) (by decide +kernel), List.mem_of_getElem? (i := 72) (by decide +kernel), List.mem_of_getElem? (i := 1110) (by decide +kernel), by decide +kernel, by decide⟩
theorem eJ9_abs_0f7a4 : z_LmS mJ9_abs_0f7a4 1 := ⟨List.mem_of_getElem? (i := 456) (by decide +kernel), List.mem_of_getElem? (i := 74) (by decide +kernel), List.mem_of_getElem? (i := 457) (by decide +kernel), by decide +kernel, by decide⟩
theorem eJ9_min_7cf53 : z_LmS mJ9_min_7cf53 2 := ⟨List.mem_of_getElem? (i := 468) (by decide +kernel), List.mem_of_getElem? (i := 74) (by decide +kernel), List.mem_of_getElem? (i := 469) (by decide +kernel), by decide +kernel, by decide⟩
theorem eJ7_fill_53178 : z_LmS mJ7_fill_53178 2 := ⟨List.mem_of_getElem? (i := 449) (by decide +kernel), List.mem_of_getElem? (i := 73) (by decide +kernel), List.mem_of_getElem? (i := 450) (by decide +kernel), by decide +kernel, by decide⟩
theorem kL_9 : Cond.methodLink RL 9 yX5_init ∈ lw_tbl := List.mem_of_getElem? (i := 78) (by decide +kernel)
theorem kL_13 : Cond.methodLink RL 13 yX5_portage ∈ lw_tbl := List.mem_of_getElem? (i := 312) (by decide +kernel)
theorem kX5_57 : Cond.methodLink RX5 57 yX5_isSheet ∈ lw_tbl := List.mem_of_getElem? (i := 316) (by decide +kernel)
theorem kX5_61 : Cond.methodLink RX5 61 yX5_isLane ∈ lw_tbl := List.mem_of_getElem? (i := 319) (by decide +kernel)
theorem kX5_64 : Cond.methodLink RX5 64 yX3_faultAs ∈ lw_tbl := List.mem_of_getElem? (i := 322) (by decide +kernel)
theorem kX3_28 : Cond.methodLink RX3 28 yX3_isNothing ∈ lw_tbl := List.mem_of_getElem? (i := 326) (by decide +kernel)
theorem kX5_68 : Cond.methodLink RX5 68 yX5_faulted ∈ lw_tbl := List.mem_of_getElem? (i := 330) (by decide +kernel)
theorem kX5_71 : Cond.methodLink RX5 71 yX3_hasCells ∈ lw_tbl := List.mem_of_getElem? (i := 334) (by decide +kernel)
theorem kX5_75 : Cond.methodLink RX5 75 yX0_readText ∈ lw_tbl := List.mem_of_getElem? (i := 338) (by decide +kernel)
theorem kX0_45 : Cond.methodLink RX0 45 yX0_clear ∈ lw_tbl := List.mem_of_getElem? (i := 342) (by decide +kernel)
theorem kX0_53 : Cond.methodLink RX0 53 yX0_readCode ∈ lw_tbl := List.mem_of_getElem? (i := 346) (by decide +kernel)
theorem kX0_57 : Cond.methodLink RX0 57 yX0_startPart ∈ lw_tbl := List.mem_of_getElem? (i := 350) (by decide +kernel)
theorem kX0_61 : Cond.methodLink RX0 61 yX0_readKind ∈ lw_tbl := List.mem_of_getElem? (i := 354) (by decide +kernel)
theorem kX0_67 : Cond.methodLink RX0 67 yX0_kindOfLetter ∈ lw_tbl := List.mem_of_getElem? (i := 358) (by decide +kernel)
theorem kX0_64 : Cond.methodLink RX0 64 yX0_readDigit ∈ lw_tbl := List.mem_of_getElem? (i := 361) (by decide +kernel)
theorem kX5_79 : Cond.methodLink RX5 79 yX0_become ∈ lw_tbl := List.mem_of_getElem? (i := 365) (by decide +kernel)
theorem kX5_86 : Cond.methodLink RX5 86 yX5_forgetSearches ∈ lw_tbl := List.mem_of_getElem? (i := 369) (by decide +kernel)
theorem kL_18 : Cond.methodLink RL 18 yX5_ofStage ∈ lw_tbl := List.mem_of_getElem? (i := 373) (by decide +kernel)
theorem kX5_92 : Cond.methodLink RX5 92 yX0_hasStage ∈ lw_tbl := List.mem_of_getElem? (i := 377) (by decide +kernel)
theorem kL_23 : Cond.methodLink RL 23 yX5_ofThing ∈ lw_tbl := List.mem_of_getElem? (i := 381) (by decide +kernel)
theorem kX5_105 : Cond.methodLink RX5 105 yX0_hasThing ∈ lw_tbl := List.mem_of_getElem? (i := 385) (by decide +kernel)
theorem kL_27 : Cond.methodLink RL 27 yX5_bears ∈ lw_tbl := List.mem_of_getElem? (i := 389) (by decide +kernel)
theorem kX5_114 : Cond.methodLink RX5 114 yX0_isThere ∈ lw_tbl := List.mem_of_getElem? (i := 393) (by decide +kernel)
theorem kL_32 : Cond.methodLink RL 32 yX5_rain ∈ lw_tbl := List.mem_of_getElem? (i := 397) (by decide +kernel)
theorem kL_36 : Cond.methodLink RL 36 yX5_boards ∈ lw_tbl := List.mem_of_getElem? (i := 401) (by decide +kernel)
theorem kL_41 : Cond.methodLink RL 41 yX5_well ∈ lw_tbl := List.mem_of_getElem? (i := 405) (by decide +kernel)
theorem kX5_124 : Cond.methodLink RX5 124 yX0_hasAllOf ∈ lw_tbl := List.mem_of_getElem? (i := 409) (by decide +kernel)
theorem kX5_127 : Cond.methodLink RX5 127 yX0_wellOnes ∈ lw_tbl := List.mem_of_getElem? (i := 413) (by decide +kernel)
theorem kX0_70 : Cond.methodLink RX0 70 yX0_foodOnes ∈ lw_tbl := List.mem_of_getElem? (i := 417) (by decide +kernel)
theorem kX0_74 : Cond.methodLink RX0 74 yX0_isIn ∈ lw_tbl := List.mem_of_getElem? (i := 421) (by decide +kernel)
theorem kX0_78 : Cond.methodLink RX0 78 yX0_isWell ∈ lw_tbl := List.mem_of_getElem? (i := 424) (by decide +kernel)
theorem kL_45 : Cond.methodLink RL 45 yX5_trips ∈ lw_tbl := List.mem_of_getElem? (i := 427) (by decide +kernel)
theorem kX5_130 : Cond.methodLink RX5 130 yX5_takeTrips ∈ lw_tbl := List.mem_of_getElem? (i := 431) (by decide +kernel)
theorem kX5_147 : Cond.methodLink RX5 147 yX0_hasSpot ∈ lw_tbl := List.mem_of_getElem? (i := 435) (by decide +kernel)
theorem kX0_35 : Cond.methodLink RX0 35 yX0_isThere ∈ lw_tbl := List.mem_of_getElem? (i := 439) (by decide +kernel)
theorem kX5_170 : Cond.methodLink RX5 170 yX4_add ∈ lw_tbl := List.mem_of_getElem? (i := 440) (by decide +kernel)
theorem kX5_134 : Cond.methodLink RX5 134 yX4_go ∈ lw_tbl := List.mem_of_getElem? (i := 444) (by decide +kernel)
theorem kX4_41 : Cond.methodLink RX4 41 yJ7_fill_53178 ∈ lw_tbl := List.mem_of_getElem? (i := 448) (by decide +kernel)
theorem kX4_52 : Cond.methodLink RX4 52 yX4_canGo ∈ lw_tbl := List.mem_of_getElem? (i := 451) (by decide +kernel)
theorem kX4_63 : Cond.methodLink RX4 63 yJ9_abs_0f7a4 ∈ lw_tbl := List.mem_of_getElem? (i := 455) (by decide +kernel)
theorem kX4_69 : Cond.methodLink RX4 69 yX0_load ∈ lw_tbl := List.mem_of_getElem? (i := 458) (by decide +kernel)
theorem kX4_75 : Cond.methodLink RX4 75 yX0_wellOnes ∈ lw_tbl := List.mem_of_getElem? (i := 462) (by decide +kernel)
theorem kX4_56 : Cond.methodLink RX4 56 yX4_goOne ∈ lw_tbl := List.mem_of_getElem? (i := 463) (by decide +kernel)
theorem kX4_78 : Cond.methodLink RX4 78 yJ9_min_7cf53 ∈ lw_tbl := List.mem_of_getElem? (i := 467) (by decide +kernel)
theorem kX4_82 : Cond.methodLink RX4 82 yX0_rainsIn ∈ lw_tbl := List.mem_of_getElem? (i := 470) (by decide +kernel)
theorem kX4_86 : Cond.methodLink RX4 86 yX0_minutesOver ∈ lw_tbl := List.mem_of_getElem? (i := 474) (by decide +kernel)
theorem kX0_82 : Cond.methodLink RX0 82 yX0_mudUnder ∈ lw_tbl := List.mem_of_getElem? (i := 478) (by decide +kernel)
theorem kX4_90 : Cond.methodLink RX4 90 yX0_mudUnder ∈ lw_tbl := List.mem_of_getElem? (i := 482) (by decide +kernel)
theorem kX4_60 : Cond.methodLink RX4 60 yX4_cutShare ∈ lw_tbl := List.mem_of_getElem? (i := 484) (by decide +kernel)
theorem kX5_140 : Cond.methodLink RX5 140 yX4_minutes ∈ lw_tbl := List.mem_of_getElem? (i := 488) (by decide +kernel)
theorem kX5_150 : Cond.methodLink RX5 150 yX4_thingsAt ∈ lw_tbl := List.mem_of_getElem? (i := 492) (by decide +kernel)
theorem kL_50 : Cond.methodLink RL 50 yX5_at ∈ lw_tbl := List.mem_of_getElem? (i := 496) (by decide +kernel)
theorem kX5_153 : Cond.methodLink RX5 153 yX4_spotOf ∈ lw_tbl := List.mem_of_getElem? (i := 500) (by decide +kernel)
theorem kX4_96 : Cond.methodLink RX4 96 yX0_isIn ∈ lw_tbl := List.mem_of_getElem? (i := 504) (by decide +kernel)
theorem kL_55 : Cond.methodLink RL 55 yX5_dry ∈ lw_tbl := List.mem_of_getElem? (i := 505) (by decide +kernel)
theorem kL_60 : Cond.methodLink RL 60 yX5_soonest ∈ lw_tbl := List.mem_of_getElem? (i := 510) (by decide +kernel)
theorem kX5_174 : Cond.methodLink RX5 174 yX5_makePlan ∈ lw_tbl := List.mem_of_getElem? (i := 514) (by decide +kernel)
theorem kX5_187 : Cond.methodLink RX5 187 yX2_least ∈ lw_tbl := List.mem_of_getElem? (i := 518) (by decide +kernel)
theorem kX2_43 : Cond.methodLink RX2 43 yX2_prepare ∈ lw_tbl := List.mem_of_getElem? (i := 522) (by decide +kernel)
theorem kX2_82 : Cond.methodLink RX2 82 yX2_prepareSet ∈ lw_tbl := List.mem_of_getElem? (i := 527) (by decide +kernel)
theorem kX2_95 : Cond.methodLink RX2 95 yX0_load ∈ lw_tbl := List.mem_of_getElem? (i := 531) (by decide +kernel)
theorem kX2_102 : Cond.methodLink RX2 102 yX0_wellOnes ∈ lw_tbl := List.mem_of_getElem? (i := 532) (by decide +kernel)
theorem kX2_105 : Cond.methodLink RX2 105 yX0_isIn ∈ lw_tbl := List.mem_of_getElem? (i := 533) (by decide +kernel)
theorem kX2_109 : Cond.methodLink RX2 109 yX0_minutesOver ∈ lw_tbl := List.mem_of_getElem? (i := 534) (by decide +kernel)
theorem kX2_89 : Cond.methodLink RX2 89 yJ7_fill_53178 ∈ lw_tbl := List.mem_of_getElem? (i := 535) (by decide +kernel)
theorem kX2_47 : Cond.methodLink RX2 47 yX2_offer ∈ lw_tbl := List.mem_of_getElem? (i := 536) (by decide +kernel)
theorem kX2_130 : Cond.methodLink RX2 130 yX2_takeOut ∈ lw_tbl := List.mem_of_getElem? (i := 540) (by decide +kernel)
theorem kX2_56 : Cond.methodLink RX2 56 yX2_settleAll ∈ lw_tbl := List.mem_of_getElem? (i := 545) (by decide +kernel)
theorem kX2_113 : Cond.methodLink RX2 113 yX2_spread ∈ lw_tbl := List.mem_of_getElem? (i := 549) (by decide +kernel)
theorem kX2_116 : Cond.methodLink RX2 116 yX2_thingsHere ∈ lw_tbl := List.mem_of_getElem? (i := 553) (by decide +kernel)
theorem kX2_119 : Cond.methodLink RX2 119 yX2_stateBehind ∈ lw_tbl := List.mem_of_getElem? (i := 557) (by decide +kernel)
theorem kX2_126 : Cond.methodLink RX2 126 yX2_spotBehind ∈ lw_tbl := List.mem_of_getElem? (i := 561) (by decide +kernel)
theorem kX2_123 : Cond.methodLink RX2 123 yX2_minutesOf ∈ lw_tbl := List.mem_of_getElem? (i := 564) (by decide +kernel)
theorem kX5_201 : Cond.methodLink RX5 201 yX2_layRow ∈ lw_tbl := List.mem_of_getElem? (i := 568) (by decide +kernel)
theorem kX2_133 : Cond.methodLink RX2 133 yX2_countTripsLeft ∈ lw_tbl := List.mem_of_getElem? (i := 572) (by decide +kernel)
theorem kX2_136 : Cond.methodLink RX2 136 yX2_bestMove ∈ lw_tbl := List.mem_of_getElem? (i := 576) (by decide +kernel)
theorem kX2_139 : Cond.methodLink RX2 139 yX2_isInTime ∈ lw_tbl := List.mem_of_getElem? (i := 580) (by decide +kernel)
theorem kL_65 : Cond.methodLink RL 65 yX5_trip ∈ lw_tbl := List.mem_of_getElem? (i := 584) (by decide +kernel)
theorem kL_69 : Cond.methodLink RL 69 yX5_fewest ∈ lw_tbl := List.mem_of_getElem? (i := 588) (by decide +kernel)
theorem kL_73 : Cond.methodLink RL 73 yX5_cost ∈ lw_tbl := List.mem_of_getElem? (i := 592) (by decide +kernel)
theorem kX5_194 : Cond.methodLink RX5 194 yX0_dropThing ∈ lw_tbl := List.mem_of_getElem? (i := 596) (by decide +kernel)
theorem kL_77 : Cond.methodLink RL 77 yX5_help ∈ lw_tbl := List.mem_of_getElem? (i := 600) (by decide +kernel)
theorem kL_81 : Cond.methodLink RL 81 yX5_reading ∈ lw_tbl := List.mem_of_getElem? (i := 604) (by decide +kernel)
theorem kX5_205 : Cond.methodLink RX5 205 yX1_add ∈ lw_tbl := List.mem_of_getElem? (i := 608) (by decide +kernel)
theorem kL_86 : Cond.methodLink RL 86 yX5_back ∈ lw_tbl := List.mem_of_getElem? (i := 612) (by decide +kernel)
theorem kL_90 : Cond.methodLink RL 90 yX5_since ∈ lw_tbl := List.mem_of_getElem? (i := 616) (by decide +kernel)
theorem kX5_208 : Cond.methodLink RX5 208 yX5_draftIsAsRead ∈ lw_tbl := List.mem_of_getElem? (i := 620) (by decide +kernel)
theorem kX5_211 : Cond.methodLink RX5 211 yX1_areSoBy ∈ lw_tbl := List.mem_of_getElem? (i := 624) (by decide +kernel)
theorem kX1_25 : Cond.methodLink RX1 25 yX4_spotOf ∈ lw_tbl := List.mem_of_getElem? (i := 628) (by decide +kernel)
theorem kL_94 : Cond.methodLink RL 94 yX5_kinds ∈ lw_tbl := List.mem_of_getElem? (i := 629) (by decide +kernel)
theorem kL_98 : Cond.methodLink RL 98 yX5_sheet ∈ lw_tbl := List.mem_of_getElem? (i := 633) (by decide +kernel)
theorem kX5_215 : Cond.methodLink RX5 215 yX3_renew ∈ lw_tbl := List.mem_of_getElem? (i := 637) (by decide +kernel)
theorem kX3_22 : Cond.methodLink RX3 22 yJ7_fill_53178 ∈ lw_tbl := List.mem_of_getElem? (i := 641) (by decide +kernel)
theorem kL_102 : Cond.methodLink RL 102 yX5_lose ∈ lw_tbl := List.mem_of_getElem? (i := 642) (by decide +kernel)
theorem kX5_218 : Cond.methodLink RX5 218 yX3_isNothing ∈ lw_tbl := List.mem_of_getElem? (i := 646) (by decide +kernel)
theorem kL_106 : Cond.methodLink RL 106 yX5_put ∈ lw_tbl := List.mem_of_getElem? (i := 647) (by decide +kernel)
theorem kX5_221 : Cond.methodLink RX5 221 yX3_hasCell ∈ lw_tbl := List.mem_of_getElem? (i := 651) (by decide +kernel)
theorem kX5_224 : Cond.methodLink RX5 224 yX3_write ∈ lw_tbl := List.mem_of_getElem? (i := 655) (by decide +kernel)
theorem kL_110 : Cond.methodLink RL 110 yX5_cell ∈ lw_tbl := List.mem_of_getElem? (i := 659) (by decide +kernel)
theorem kL_115 : Cond.methodLink RL 115 yX5_copy ∈ lw_tbl := List.mem_of_getElem? (i := 663) (by decide +kernel)
theorem kL_119 : Cond.methodLink RL 119 yX5_tell ∈ lw_tbl := List.mem_of_getElem? (i := 670) (by decide +kernel)
theorem kX5_236 : Cond.methodLink RX5 236 yX5_tellAsChild ∈ lw_tbl := List.mem_of_getElem? (i := 674) (by decide +kernel)
theorem kX5_245 : Cond.methodLink RX5 245 yX5_leave ∈ lw_tbl := List.mem_of_getElem? (i := 678) (by decide +kernel)
theorem kX5_239 : Cond.methodLink RX5 239 yX5_tellAsFood ∈ lw_tbl := List.mem_of_getElem? (i := 682) (by decide +kernel)
theorem kX5_242 : Cond.methodLink RX5 242 yX5_tellAsThing ∈ lw_tbl := List.mem_of_getElem? (i := 686) (by decide +kernel)
theorem kL_123 : Cond.methodLink RL 123 yX5_hail ∈ lw_tbl := List.mem_of_getElem? (i := 690) (by decide +kernel)
theorem kL_127 : Cond.methodLink RL 127 yX5_as ∈ lw_tbl := List.mem_of_getElem? (i := 694) (by decide +kernel)
theorem kL_131 : Cond.methodLink RL 131 yX5_trace ∈ lw_tbl := List.mem_of_getElem? (i := 698) (by decide +kernel)
theorem kL_135 : Cond.methodLink RL 135 yX5_fault ∈ lw_tbl := List.mem_of_getElem? (i := 702) (by decide +kernel)
theorem kL_139 : Cond.methodLink RL 139 yX5_many ∈ lw_tbl := List.mem_of_getElem? (i := 706) (by decide +kernel)
theorem kL_12 : Cond.methodLink RL 12 yX6_init ∈ lw_tbl := List.mem_of_getElem? (i := 712) (by decide +kernel)
theorem kL_17 : Cond.methodLink RL 17 yX6_portage ∈ lw_tbl := List.mem_of_getElem? (i := 831) (by decide +kernel)
theorem kX6_93 : Cond.methodLink RX6 93 yX6_isSheet ∈ lw_tbl := List.mem_of_getElem? (i := 835) (by decide +kernel)
theorem kX6_80 : Cond.methodLink RX6 80 yX6_within ∈ lw_tbl := List.mem_of_getElem? (i := 838) (by decide +kernel)
theorem kX6_97 : Cond.methodLink RX6 97 yX6_isSort ∈ lw_tbl := List.mem_of_getElem? (i := 841) (by decide +kernel)
theorem kX6_100 : Cond.methodLink RX6 100 yX6_against ∈ lw_tbl := List.mem_of_getElem? (i := 844) (by decide +kernel)
theorem kX6_104 : Cond.methodLink RX6 104 yX6_fails ∈ lw_tbl := List.mem_of_getElem? (i := 848) (by decide +kernel)
theorem kX6_108 : Cond.methodLink RX6 108 yX6_readAll ∈ lw_tbl := List.mem_of_getElem? (i := 852) (by decide +kernel)
theorem kX6_126 : Cond.methodLink RX6 126 yX6_isSign ∈ lw_tbl := List.mem_of_getElem? (i := 856) (by decide +kernel)
theorem kX6_130 : Cond.methodLink RX6 130 yX6_digit ∈ lw_tbl := List.mem_of_getElem? (i := 860) (by decide +kernel)
theorem kX6_134 : Cond.methodLink RX6 134 yX6_readOneStage ∈ lw_tbl := List.mem_of_getElem? (i := 864) (by decide +kernel)
theorem kX6_137 : Cond.methodLink RX6 137 yX6_readOneThing ∈ lw_tbl := List.mem_of_getElem? (i := 868) (by decide +kernel)
theorem kL_22 : Cond.methodLink RL 22 yX6_ofStage ∈ lw_tbl := List.mem_of_getElem? (i := 872) (by decide +kernel)
theorem kX6_140 : Cond.methodLink RX6 140 yX6_isStage ∈ lw_tbl := List.mem_of_getElem? (i := 876) (by decide +kernel)
theorem kL_26 : Cond.methodLink RL 26 yX6_ofThing ∈ lw_tbl := List.mem_of_getElem? (i := 880) (by decide +kernel)
theorem kX6_143 : Cond.methodLink RX6 143 yX6_isThing ∈ lw_tbl := List.mem_of_getElem? (i := 884) (by decide +kernel)
theorem kL_31 : Cond.methodLink RL 31 yX6_bears ∈ lw_tbl := List.mem_of_getElem? (i := 888) (by decide +kernel)
theorem kL_35 : Cond.methodLink RL 35 yX6_rain ∈ lw_tbl := List.mem_of_getElem? (i := 892) (by decide +kernel)
theorem kL_40 : Cond.methodLink RL 40 yX6_boards ∈ lw_tbl := List.mem_of_getElem? (i := 896) (by decide +kernel)
theorem kL_44 : Cond.methodLink RL 44 yX6_well ∈ lw_tbl := List.mem_of_getElem? (i := 900) (by decide +kernel)
theorem kX6_149 : Cond.methodLink RX6 149 yX6_allThings ∈ lw_tbl := List.mem_of_getElem? (i := 904) (by decide +kernel)
theorem kX6_153 : Cond.methodLink RX6 153 yX6_wellOf ∈ lw_tbl := List.mem_of_getElem? (i := 908) (by decide +kernel)
theorem kX6_146 : Cond.methodLink RX6 146 yX6_isWell ∈ lw_tbl := List.mem_of_getElem? (i := 912) (by decide +kernel)
theorem kL_49 : Cond.methodLink RL 49 yX6_trips ∈ lw_tbl := List.mem_of_getElem? (i := 916) (by decide +kernel)
theorem kX6_199 : Cond.methodLink RX6 199 yX6_arePairs ∈ lw_tbl := List.mem_of_getElem? (i := 920) (by decide +kernel)
theorem kX6_202 : Cond.methodLink RX6 202 yX6_layTrips ∈ lw_tbl := List.mem_of_getElem? (i := 923) (by decide +kernel)
theorem kX6_160 : Cond.methodLink RX6 160 yX6_isSpot ∈ lw_tbl := List.mem_of_getElem? (i := 927) (by decide +kernel)
theorem kX6_205 : Cond.methodLink RX6 205 yX6_go ∈ lw_tbl := List.mem_of_getElem? (i := 931) (by decide +kernel)
theorem kX6_188 : Cond.methodLink RX6 188 yX6_mayGo ∈ lw_tbl := List.mem_of_getElem? (i := 935) (by decide +kernel)
theorem kX6_156 : Cond.methodLink RX6 156 yX6_thingsAt ∈ lw_tbl := List.mem_of_getElem? (i := 939) (by decide +kernel)
theorem kX6_163 : Cond.methodLink RX6 163 yX6_poundsOf ∈ lw_tbl := List.mem_of_getElem? (i := 943) (by decide +kernel)
theorem kX6_166 : Cond.methodLink RX6 166 yX6_stageOf ∈ lw_tbl := List.mem_of_getElem? (i := 947) (by decide +kernel)
theorem kX6_169 : Cond.methodLink RX6 169 yX6_mudOf ∈ lw_tbl := List.mem_of_getElem? (i := 951) (by decide +kernel)
theorem kX6_193 : Cond.methodLink RX6 193 yX6_takes ∈ lw_tbl := List.mem_of_getElem? (i := 956) (by decide +kernel)
theorem kX6_196 : Cond.methodLink RX6 196 yX6_gone ∈ lw_tbl := List.mem_of_getElem? (i := 960) (by decide +kernel)
theorem kL_54 : Cond.methodLink RL 54 yX6_at ∈ lw_tbl := List.mem_of_getElem? (i := 963) (by decide +kernel)
theorem kX6_208 : Cond.methodLink RX6 208 yX6_spotAt ∈ lw_tbl := List.mem_of_getElem? (i := 967) (by decide +kernel)
theorem kL_59 : Cond.methodLink RL 59 yX6_dry ∈ lw_tbl := List.mem_of_getElem? (i := 971) (by decide +kernel)
theorem kX6_211 : Cond.methodLink RX6 211 yX6_inLeastTerms ∈ lw_tbl := List.mem_of_getElem? (i := 976) (by decide +kernel)
theorem kL_64 : Cond.methodLink RL 64 yX6_soonest ∈ lw_tbl := List.mem_of_getElem? (i := 979) (by decide +kernel)
theorem kX6_224 : Cond.methodLink RX6 224 yX6_soonestNow ∈ lw_tbl := List.mem_of_getElem? (i := 983) (by decide +kernel)
theorem kX6_218 : Cond.methodLink RX6 218 yX6_laySoonest ∈ lw_tbl := List.mem_of_getElem? (i := 987) (by decide +kernel)
theorem kX6_215 : Cond.methodLink RX6 215 yX6_relax ∈ lw_tbl := List.mem_of_getElem? (i := 991) (by decide +kernel)
theorem kX6_221 : Cond.methodLink RX6 221 yX6_end ∈ lw_tbl := List.mem_of_getElem? (i := 995) (by decide +kernel)
theorem kL_68 : Cond.methodLink RL 68 yX6_trip ∈ lw_tbl := List.mem_of_getElem? (i := 999) (by decide +kernel)
theorem kX6_242 : Cond.methodLink RX6 242 yX6_layLeft ∈ lw_tbl := List.mem_of_getElem? (i := 1003) (by decide +kernel)
theorem kX6_230 : Cond.methodLink RX6 230 yX6_shorten ∈ lw_tbl := List.mem_of_getElem? (i := 1007) (by decide +kernel)
theorem kX6_227 : Cond.methodLink RX6 227 yX6_isTight ∈ lw_tbl := List.mem_of_getElem? (i := 1011) (by decide +kernel)
theorem kX6_245 : Cond.methodLink RX6 245 yX6_findNext ∈ lw_tbl := List.mem_of_getElem? (i := 1015) (by decide +kernel)
theorem kX6_233 : Cond.methodLink RX6 233 yX6_isNext ∈ lw_tbl := List.mem_of_getElem? (i := 1019) (by decide +kernel)
theorem kL_72 : Cond.methodLink RL 72 yX6_fewest ∈ lw_tbl := List.mem_of_getElem? (i := 1023) (by decide +kernel)
theorem kX6_249 : Cond.methodLink RX6 249 yX6_spread ∈ lw_tbl := List.mem_of_getElem? (i := 1027) (by decide +kernel)
theorem kL_76 : Cond.methodLink RL 76 yX6_cost ∈ lw_tbl := List.mem_of_getElem? (i := 1031) (by decide +kernel)
theorem kL_80 : Cond.methodLink RL 80 yX6_help ∈ lw_tbl := List.mem_of_getElem? (i := 1035) (by decide +kernel)
theorem kL_85 : Cond.methodLink RL 85 yX6_reading ∈ lw_tbl := List.mem_of_getElem? (i := 1039) (by decide +kernel)
theorem kL_89 : Cond.methodLink RL 89 yX6_back ∈ lw_tbl := List.mem_of_getElem? (i := 1043) (by decide +kernel)
theorem kL_93 : Cond.methodLink RL 93 yX6_since ∈ lw_tbl := List.mem_of_getElem? (i := 1047) (by decide +kernel)
theorem kX6_252 : Cond.methodLink RX6 252 yX6_areSo ∈ lw_tbl := List.mem_of_getElem? (i := 1051) (by decide +kernel)
theorem kL_97 : Cond.methodLink RL 97 yX6_kinds ∈ lw_tbl := List.mem_of_getElem? (i := 1055) (by decide +kernel)
theorem kL_101 : Cond.methodLink RL 101 yX6_sheet ∈ lw_tbl := List.mem_of_getElem? (i := 1059) (by decide +kernel)
theorem kL_105 : Cond.methodLink RL 105 yX6_lose ∈ lw_tbl := List.mem_of_getElem? (i := 1063) (by decide +kernel)
theorem kL_109 : Cond.methodLink RL 109 yX6_put ∈ lw_tbl := List.mem_of_getElem? (i := 1067) (by decide +kernel)
theorem kL_114 : Cond.methodLink RL 114 yX6_cell ∈ lw_tbl := List.mem_of_getElem? (i := 1071) (by decide +kernel)
theorem kX6_256 : Cond.methodLink RX6 256 yX6_lost ∈ lw_tbl := List.mem_of_getElem? (i := 1075) (by decide +kernel)
theorem kL_118 : Cond.methodLink RL 118 yX6_copy ∈ lw_tbl := List.mem_of_getElem? (i := 1079) (by decide +kernel)
theorem kL_122 : Cond.methodLink RL 122 yX6_tell ∈ lw_tbl := List.mem_of_getElem? (i := 1083) (by decide +kernel)
theorem kX6_263 : Cond.methodLink RX6 263 yX6_begins ∈ lw_tbl := List.mem_of_getElem? (i := 1087) (by decide +kernel)
theorem kL_126 : Cond.methodLink RL 126 yX6_hail ∈ lw_tbl := List.mem_of_getElem? (i := 1091) (by decide +kernel)
theorem kL_130 : Cond.methodLink RL 130 yX6_as ∈ lw_tbl := List.mem_of_getElem? (i := 1095) (by decide +kernel)
theorem kL_134 : Cond.methodLink RL 134 yX6_trace ∈ lw_tbl := List.mem_of_getElem? (i := 1099) (by decide +kernel)
theorem kL_138 : Cond.methodLink RL 138 yX6_fault ∈ lw_tbl := List.mem_of_getElem? (i := 1103) (by decide +kernel)
theorem kL_142 : Cond.methodLink RL 142 yX6_many ∈ lw_tbl := List.mem_of_getElem? (i := 1107) (by decide +kernel)
theorem fX2_99 : z_Lf RX2 99 0 0 := ⟨RX0, TX0, 9, rfl, iX0, by decide, rfl, Or.inr ⟨"PortageTrips", List.mem_of_getElem? (i := 90) (by decide +kernel)⟩⟩
theorem pX2_99 : z_Lp RX2 99 0 0 .int := ⟨RX0, TX0, 9, tyX0, rfl, iX0, by decide, rfl, Or.inr ⟨"PortageTrips", List.mem_of_getElem? (i := 90) (by decide +kernel)⟩, tyX0_ok, nmX0, rfl, by decide +kernel⟩
theorem fX4_72 : z_Lf RX4 72 0 0 := ⟨RX0, TX0, 9, rfl, iX0, by decide, rfl, Or.inr ⟨"PortageTrips", List.mem_of_getElem? (i := 91) (by decide +kernel)⟩⟩
theorem pX4_72 : z_Lp RX4 72 0 0 .int := ⟨RX0, TX0, 9, tyX0, rfl, iX0, by decide, rfl, Or.inr ⟨"PortageTrips", List.mem_of_getElem? (i := 91) (by decide +kernel)⟩, tyX0_ok, nmX0, rfl, by decide +kernel⟩
theorem fX5_118 : z_Lf RX5 118 0 0 := ⟨RX0, TX0, 9, rfl, iX0, by decide, rfl, Or.inr ⟨"PortageTrips", List.mem_of_getElem? (i := 92) (by decide +kernel)⟩⟩
theorem pX5_118 : z_Lp RX5 118 0 0 .int := ⟨RX0, TX0, 9, tyX0, rfl, iX0, by decide, rfl, Or.inr ⟨"PortageTrips", List.mem_of_getElem? (i := 92) (by decide +kernel)⟩, tyX0_ok, nmX0, rfl, by decide +kernel⟩
theorem fX0_42 : z_Lf RX0 42 0 0 := ⟨RX0, TX0, 9, rfl, iX0, by decide, rfl, Or.inl (List.mem_of_getElem? (i := 93) (by decide +kernel))⟩
theorem pX0_42 : z_Lp RX0 42 0 0 .int := ⟨RX0, TX0, 9, tyX0, rfl, iX0, by decide, rfl, Or.inl (List.mem_of_getElem? (i := 93) (by decide +kernel)), tyX0_ok, nmX0, rfl, by decide +kernel⟩
theorem fX0_9 : z_Lf RX0 9 0 1 := ⟨RX0, TX0, 9, rfl, iX0, by decide, rfl, Or.inl (List.mem_of_getElem? (i := 94) (by decide +kernel))⟩
theorem pX0_9 : z_Lp RX0 9 0 1 .int := ⟨RX0, TX0, 9, tyX0, rfl, iX0, by decide, rfl, Or.inl (List.mem_of_getElem? (i := 94) (by decide +kernel)), tyX0_ok, nmX0, rfl, by decide +kernel⟩
theorem fX2_75 : z_Lf RX2 75 0 1 := ⟨RX0, TX0, 9, rfl, iX0, by decide, rfl, Or.inr ⟨"PortageTrips", List.mem_of_getElem? (i := 95) (by decide +kernel)⟩⟩
theorem pX2_75 : z_Lp RX2 75 0 1 .int := ⟨RX0, TX0, 9, tyX0, rfl, iX0, by decide, rfl, Or.inr ⟨"PortageTrips", List.mem_of_getElem? (i := 95) (by decide +kernel)⟩, tyX0_ok, nmX0, rfl, by decide +kernel⟩
theorem fX5_121 : z_Lf RX5 121 0 1 := ⟨RX0, TX0, 9, rfl, iX0, by decide, rfl, Or.inr ⟨"PortageTrips", List.mem_of_getElem? (i := 96) (by decide +kernel)⟩⟩
theorem pX5_121 : z_Lp RX5 121 0 1 .int := ⟨RX0, TX0, 9, tyX0, rfl, iX0, by decide, rfl, Or.inr ⟨"PortageTrips", List.mem_of_getElem? (i := 96) (by decide +kernel)⟩, tyX0_ok, nmX0, rfl, by decide +kernel⟩
theorem fX0_32 : z_Lf RX0 32 0 2 := ⟨RX0, TX0, 9, rfl, iX0, by decide, rfl, Or.inl (List.mem_of_getElem? (i := 97) (by decide +kernel))⟩
theorem pX0_32 : z_Lp RX0 32 0 2 .int := ⟨RX0, TX0, 9, tyX0, rfl, iX0, by decide, rfl, Or.inl (List.mem_of_getElem? (i := 97) (by decide +kernel)), tyX0_ok, nmX0, rfl, by decide +kernel⟩
theorem fX2_69 : z_Lf RX2 69 0 2 := ⟨RX0, TX0, 9, rfl, iX0, by decide, rfl, Or.inr ⟨"PortageTrips", List.mem_of_getElem? (i := 98) (by decide +kernel)⟩⟩
theorem pX2_69 : z_Lp RX2 69 0 2 .int := ⟨RX0, TX0, 9, tyX0, rfl, iX0, by decide, rfl, Or.inr ⟨"PortageTrips", List.mem_of_getElem? (i := 98) (by decide +kernel)⟩, tyX0_ok, nmX0, rfl, by decide +kernel⟩
theorem fX5_251 : z_Lf RX5 251 0 2 := ⟨RX0, TX0, 9, rfl, iX0, by decide, rfl, Or.inr ⟨"PortageTrips", List.mem_of_getElem? (i := 99) (by decide +kernel)⟩⟩
theorem pX5_251 : z_Lp RX5 251 0 2 .int := ⟨RX0, TX0, 9, tyX0, rfl, iX0, by decide, rfl, Or.inr ⟨"PortageTrips", List.mem_of_getElem? (i := 99) (by decide +kernel)⟩, tyX0_ok, nmX0, rfl, by decide +kernel⟩
theorem fX0_15 : z_Lf RX0 15 0 3 := ⟨RX0, TX0, 9, rfl, iX0, by decide, rfl, Or.inl (List.mem_of_getElem? (i := 100) (by decide +kernel))⟩
theorem fX5_95 : z_Lf RX5 95 0 3 := ⟨RX0, TX0, 9, rfl, iX0, by decide, rfl, Or.inr ⟨"PortageTrips", List.mem_of_getElem? (i := 101) (by decide +kernel)⟩⟩
theorem fX0_19 : z_Lf RX0 19 0 4 := ⟨RX0, TX0, 9, rfl, iX0, by decide, rfl, Or.inl (List.mem_of_getElem? (i := 102) (by decide +kernel))⟩
theorem fX5_98 : z_Lf RX5 98 0 4 := ⟨RX0, TX0, 9, rfl, iX0, by decide, rfl, Or.inr ⟨"PortageTrips", List.mem_of_getElem? (i := 103) (by decide +kernel)⟩⟩
theorem fX0_22 : z_Lf RX0 22 0 5 := ⟨RX0, TX0, 9, rfl, iX0, by decide, rfl, Or.inl (List.mem_of_getElem? (i := 104) (by decide +kernel))⟩
theorem fX5_101 : z_Lf RX5 101 0 5 := ⟨RX0, TX0, 9, rfl, iX0, by decide, rfl, Or.inr ⟨"PortageTrips", List.mem_of_getElem? (i := 105) (by decide +kernel)⟩⟩
theorem fX5_89 : z_Lf RX5 89 0 6 := ⟨RX0, TX0, 9, rfl, iX0, by decide, rfl, Or.inr ⟨"PortageTrips", List.mem_of_getElem? (i := 106) (by decide +kernel)⟩⟩
theorem pX5_89 : z_Lp RX5 89 0 6 .int := ⟨RX0, TX0, 9, tyX0, rfl, iX0, by decide, rfl, Or.inr ⟨"PortageTrips", List.mem_of_getElem? (i := 106) (by decide +kernel)⟩, tyX0_ok, nmX0, rfl, by decide +kernel⟩
theorem fX2_63 : z_Lf RX2 63 0 6 := ⟨RX0, TX0, 9, rfl, iX0, by decide, rfl, Or.inr ⟨"PortageTrips", List.mem_of_getElem? (i := 107) (by decide +kernel)⟩⟩
theorem pX2_63 : z_Lp RX2 63 0 6 .int := ⟨RX0, TX0, 9, tyX0, rfl, iX0, by decide, rfl, Or.inr ⟨"PortageTrips", List.mem_of_getElem? (i := 107) (by decide +kernel)⟩, tyX0_ok, nmX0, rfl, by decide +kernel⟩
theorem fX4_47 : z_Lf RX4 47 0 6 := ⟨RX0, TX0, 9, rfl, iX0, by decide, rfl, Or.inr ⟨"PortageTrips", List.mem_of_getElem? (i := 108) (by decide +kernel)⟩⟩
theorem pX4_47 : z_Lp RX4 47 0 6 .int := ⟨RX0, TX0, 9, tyX0, rfl, iX0, by decide, rfl, Or.inr ⟨"PortageTrips", List.mem_of_getElem? (i := 108) (by decide +kernel)⟩, tyX0_ok, nmX0, rfl, by decide +kernel⟩
theorem fX0_39 : z_Lf RX0 39 0 6 := ⟨RX0, TX0, 9, rfl, iX0, by decide, rfl, Or.inl (List.mem_of_getElem? (i := 109) (by decide +kernel))⟩
theorem pX0_39 : z_Lp RX0 39 0 6 .int := ⟨RX0, TX0, 9, tyX0, rfl, iX0, by decide, rfl, Or.inl (List.mem_of_getElem? (i := 109) (by decide +kernel)), tyX0_ok, nmX0, rfl, by decide +kernel⟩
theorem fX0_26 : z_Lf RX0 26 0 7 := ⟨RX0, TX0, 9, rfl, iX0, by decide, rfl, Or.inl (List.mem_of_getElem? (i := 110) (by decide +kernel))⟩
theorem fX5_108 : z_Lf RX5 108 0 7 := ⟨RX0, TX0, 9, rfl, iX0, by decide, rfl, Or.inr ⟨"PortageTrips", List.mem_of_getElem? (i := 111) (by decide +kernel)⟩⟩
theorem fX0_29 : z_Lf RX0 29 0 8 := ⟨RX0, TX0, 9, rfl, iX0, by decide, rfl, Or.inl (List.mem_of_getElem? (i := 112) (by decide +kernel))⟩
theorem fX5_111 : z_Lf RX5 111 0 8 := ⟨RX0, TX0, 9, rfl, iX0, by decide, rfl, Or.inr ⟨"PortageTrips", List.mem_of_getElem? (i := 113) (by decide +kernel)⟩⟩
theorem fX1_21 : z_Lf RX1 21 1 0 := ⟨RX1, TX1, 4, rfl, iX1, by decide, rfl, Or.inl (List.mem_of_getElem? (i := 143) (by decide +kernel))⟩
theorem pX1_21 : z_Lp RX1 21 1 0 .int := ⟨RX1, TX1, 4, tyX1, rfl, iX1, by decide, rfl, Or.inl (List.mem_of_getElem? (i := 143) (by decide +kernel)), tyX1_ok, nmX1, rfl, by decide +kernel⟩
theorem fX5_83 : z_Lf RX5 83 1 0 := ⟨RX1, TX1, 4, rfl, iX1, by decide, rfl, Or.inr ⟨"PortageTrips", List.mem_of_getElem? (i := 144) (by decide +kernel)⟩⟩
theorem pX5_83 : z_Lp RX5 83 1 0 .int := ⟨RX1, TX1, 4, tyX1, rfl, iX1, by decide, rfl, Or.inr ⟨"PortageTrips", List.mem_of_getElem? (i := 144) (by decide +kernel)⟩, tyX1_ok, nmX1, rfl, by decide +kernel⟩
theorem fX1_9 : z_Lf RX1 9 1 1 := ⟨RX1, TX1, 4, rfl, iX1, by decide, rfl, Or.inl (List.mem_of_getElem? (i := 145) (by decide +kernel))⟩
theorem fX1_15 : z_Lf RX1 15 1 2 := ⟨RX1, TX1, 4, rfl, iX1, by decide, rfl, Or.inl (List.mem_of_getElem? (i := 146) (by decide +kernel))⟩
theorem fX1_18 : z_Lf RX1 18 1 3 := ⟨RX1, TX1, 4, rfl, iX1, by decide, rfl, Or.inl (List.mem_of_getElem? (i := 147) (by decide +kernel))⟩
theorem fX4_35 : z_Lf RX4 35 4 0 := ⟨RX4, TX4, 9, rfl, iX4, by decide, rfl, Or.inl (List.mem_of_getElem? (i := 163) (by decide +kernel))⟩
theorem pX4_35 : z_Lp RX4 35 4 0 .int := ⟨RX4, TX4, 9, tyX4, rfl, iX4, by decide, rfl, Or.inl (List.mem_of_getElem? (i := 163) (by decide +kernel)), tyX4_ok, nmX4, rfl, by decide +kernel⟩
theorem fX5_166 : z_Lf RX5 166 4 0 := ⟨RX4, TX4, 9, rfl, iX4, by decide, rfl, Or.inr ⟨"PortageTrips", List.mem_of_getElem? (i := 164) (by decide +kernel)⟩⟩
theorem pX5_166 : z_Lp RX5 166 4 0 .int := ⟨RX4, TX4, 9, tyX4, rfl, iX4, by decide, rfl, Or.inr ⟨"PortageTrips", List.mem_of_getElem? (i := 164) (by decide +kernel)⟩, tyX4_ok, nmX4, rfl, by decide +kernel⟩
theorem fX4_9 : z_Lf RX4 9 4 1 := ⟨RX4, TX4, 9, rfl, iX4, by decide, rfl, Or.inl (List.mem_of_getElem? (i := 165) (by decide +kernel))⟩
theorem fX4_15 : z_Lf RX4 15 4 2 := ⟨RX4, TX4, 9, rfl, iX4, by decide, rfl, Or.inl (List.mem_of_getElem? (i := 166) (by decide +kernel))⟩
theorem fX4_18 : z_Lf RX4 18 4 3 := ⟨RX4, TX4, 9, rfl, iX4, by decide, rfl, Or.inl (List.mem_of_getElem? (i := 167) (by decide +kernel))⟩
theorem fX4_21 : z_Lf RX4 21 4 4 := ⟨RX4, TX4, 9, rfl, iX4, by decide, rfl, Or.inl (List.mem_of_getElem? (i := 168) (by decide +kernel))⟩
theorem fX4_38 : z_Lf RX4 38 4 5 := ⟨RX4, TX4, 9, rfl, iX4, by decide, rfl, Or.inl (List.mem_of_getElem? (i := 169) (by decide +kernel))⟩
theorem pX4_38 : z_Lp RX4 38 4 5 .int := ⟨RX4, TX4, 9, tyX4, rfl, iX4, by decide, rfl, Or.inl (List.mem_of_getElem? (i := 169) (by decide +kernel)), tyX4_ok, nmX4, rfl, by decide +kernel⟩
theorem fX5_144 : z_Lf RX5 144 4 5 := ⟨RX4, TX4, 9, rfl, iX4, by decide, rfl, Or.inr ⟨"PortageTrips", List.mem_of_getElem? (i := 170) (by decide +kernel)⟩⟩
theorem pX5_144 : z_Lp RX5 144 4 5 .int := ⟨RX4, TX4, 9, tyX4, rfl, iX4, by decide, rfl, Or.inr ⟨"PortageTrips", List.mem_of_getElem? (i := 170) (by decide +kernel)⟩, tyX4_ok, nmX4, rfl, by decide +kernel⟩
theorem fX4_24 : z_Lf RX4 24 4 6 := ⟨RX4, TX4, 9, rfl, iX4, by decide, rfl, Or.inl (List.mem_of_getElem? (i := 171) (by decide +kernel))⟩
theorem pX4_24 : z_Lp RX4 24 4 6 .int := ⟨RX4, TX4, 9, tyX4, rfl, iX4, by decide, rfl, Or.inl (List.mem_of_getElem? (i := 171) (by decide +kernel)), tyX4_ok, nmX4, rfl, by decide +kernel⟩
theorem fX5_137 : z_Lf RX5 137 4 6 := ⟨RX4, TX4, 9, rfl, iX4, by decide, rfl, Or.inr ⟨"PortageTrips", List.mem_of_getElem? (i := 172) (by decide +kernel)⟩⟩
theorem pX5_137 : z_Lp RX5 137 4 6 .int := ⟨RX4, TX4, 9, tyX4, rfl, iX4, by decide, rfl, Or.inr ⟨"PortageTrips", List.mem_of_getElem? (i := 172) (by decide +kernel)⟩, tyX4_ok, nmX4, rfl, by decide +kernel⟩
theorem fX4_28 : z_Lf RX4 28 4 7 := ⟨RX4, TX4, 9, rfl, iX4, by decide, rfl, Or.inl (List.mem_of_getElem? (i := 173) (by decide +kernel))⟩
theorem pX4_28 : z_Lp RX4 28 4 7 .long := ⟨RX4, TX4, 9, tyX4, rfl, iX4, by decide, rfl, Or.inl (List.mem_of_getElem? (i := 173) (by decide +kernel)), tyX4_ok, nmX4, rfl, by decide +kernel⟩
theorem fX5_159 : z_Lf RX5 159 4 7 := ⟨RX4, TX4, 9, rfl, iX4, by decide, rfl, Or.inr ⟨"PortageTrips", List.mem_of_getElem? (i := 174) (by decide +kernel)⟩⟩
theorem pX5_159 : z_Lp RX5 159 4 7 .long := ⟨RX4, TX4, 9, tyX4, rfl, iX4, by decide, rfl, Or.inr ⟨"PortageTrips", List.mem_of_getElem? (i := 174) (by decide +kernel)⟩, tyX4_ok, nmX4, rfl, by decide +kernel⟩
theorem fX4_32 : z_Lf RX4 32 4 8 := ⟨RX4, TX4, 9, rfl, iX4, by decide, rfl, Or.inl (List.mem_of_getElem? (i := 175) (by decide +kernel))⟩
theorem pX4_32 : z_Lp RX4 32 4 8 .long := ⟨RX4, TX4, 9, tyX4, rfl, iX4, by decide, rfl, Or.inl (List.mem_of_getElem? (i := 175) (by decide +kernel)), tyX4_ok, nmX4, rfl, by decide +kernel⟩
theorem fX5_163 : z_Lf RX5 163 4 8 := ⟨RX4, TX4, 9, rfl, iX4, by decide, rfl, Or.inr ⟨"PortageTrips", List.mem_of_getElem? (i := 176) (by decide +kernel)⟩⟩
theorem pX5_163 : z_Lp RX5 163 4 8 .long := ⟨RX4, TX4, 9, tyX4, rfl, iX4, by decide, rfl, Or.inr ⟨"PortageTrips", List.mem_of_getElem? (i := 176) (by decide +kernel)⟩, tyX4_ok, nmX4, rfl, by decide +kernel⟩
theorem fX2_68 : z_Lf RX2 68 2 0 := ⟨RX2, TX2, 16, rfl, iX2, by decide, rfl, Or.inl (List.mem_of_getElem? (i := 202) (by decide +kernel))⟩
theorem pX2_68 : z_Lp RX2 68 2 0 .int := ⟨RX2, TX2, 16, tyX2, rfl, iX2, by decide, rfl, Or.inl (List.mem_of_getElem? (i := 202) (by decide +kernel)), tyX2_ok, nmX2, rfl, by decide +kernel⟩
theorem fX2_72 : z_Lf RX2 72 2 1 := ⟨RX2, TX2, 16, rfl, iX2, by decide, rfl, Or.inl (List.mem_of_getElem? (i := 203) (by decide +kernel))⟩
theorem pX2_72 : z_Lp RX2 72 2 1 .int := ⟨RX2, TX2, 16, tyX2, rfl, iX2, by decide, rfl, Or.inl (List.mem_of_getElem? (i := 203) (by decide +kernel)), tyX2_ok, nmX2, rfl, by decide +kernel⟩
theorem fX2_60 : z_Lf RX2 60 2 2 := ⟨RX2, TX2, 16, rfl, iX2, by decide, rfl, Or.inl (List.mem_of_getElem? (i := 204) (by decide +kernel))⟩
theorem pX2_60 : z_Lp RX2 60 2 2 .int := ⟨RX2, TX2, 16, tyX2, rfl, iX2, by decide, rfl, Or.inl (List.mem_of_getElem? (i := 204) (by decide +kernel)), tyX2_ok, nmX2, rfl, by decide +kernel⟩
theorem fX2_79 : z_Lf RX2 79 2 3 := ⟨RX2, TX2, 16, rfl, iX2, by decide, rfl, Or.inl (List.mem_of_getElem? (i := 205) (by decide +kernel))⟩
theorem pX2_79 : z_Lp RX2 79 2 3 .int := ⟨RX2, TX2, 16, tyX2, rfl, iX2, by decide, rfl, Or.inl (List.mem_of_getElem? (i := 205) (by decide +kernel)), tyX2_ok, nmX2, rfl, by decide +kernel⟩
theorem fX2_11 : z_Lf RX2 11 2 4 := ⟨RX2, TX2, 16, rfl, iX2, by decide, rfl, Or.inl (List.mem_of_getElem? (i := 206) (by decide +kernel))⟩
theorem fX2_15 : z_Lf RX2 15 2 5 := ⟨RX2, TX2, 16, rfl, iX2, by decide, rfl, Or.inl (List.mem_of_getElem? (i := 207) (by decide +kernel))⟩
theorem fX2_18 : z_Lf RX2 18 2 6 := ⟨RX2, TX2, 16, rfl, iX2, by decide, rfl, Or.inl (List.mem_of_getElem? (i := 208) (by decide +kernel))⟩
theorem fX2_22 : z_Lf RX2 22 2 7 := ⟨RX2, TX2, 16, rfl, iX2, by decide, rfl, Or.inl (List.mem_of_getElem? (i := 209) (by decide +kernel))⟩
theorem fX2_25 : z_Lf RX2 25 2 8 := ⟨RX2, TX2, 16, rfl, iX2, by decide, rfl, Or.inl (List.mem_of_getElem? (i := 210) (by decide +kernel))⟩
theorem fX2_28 : z_Lf RX2 28 2 9 := ⟨RX2, TX2, 16, rfl, iX2, by decide, rfl, Or.inl (List.mem_of_getElem? (i := 211) (by decide +kernel))⟩
theorem fX2_86 : z_Lf RX2 86 2 10 := ⟨RX2, TX2, 16, rfl, iX2, by decide, rfl, Or.inl (List.mem_of_getElem? (i := 212) (by decide +kernel))⟩
theorem pX2_86 : z_Lp RX2 86 2 10 .int := ⟨RX2, TX2, 16, tyX2, rfl, iX2, by decide, rfl, Or.inl (List.mem_of_getElem? (i := 212) (by decide +kernel)), tyX2_ok, nmX2, rfl, by decide +kernel⟩
theorem fX2_52 : z_Lf RX2 52 2 11 := ⟨RX2, TX2, 16, rfl, iX2, by decide, rfl, Or.inl (List.mem_of_getElem? (i := 213) (by decide +kernel))⟩
theorem pX2_52 : z_Lp RX2 52 2 11 .int := ⟨RX2, TX2, 16, tyX2, rfl, iX2, by decide, rfl, Or.inl (List.mem_of_getElem? (i := 213) (by decide +kernel)), tyX2_ok, nmX2, rfl, by decide +kernel⟩
theorem fX2_31 : z_Lf RX2 31 2 12 := ⟨RX2, TX2, 16, rfl, iX2, by decide, rfl, Or.inl (List.mem_of_getElem? (i := 214) (by decide +kernel))⟩
theorem fX2_34 : z_Lf RX2 34 2 13 := ⟨RX2, TX2, 16, rfl, iX2, by decide, rfl, Or.inl (List.mem_of_getElem? (i := 215) (by decide +kernel))⟩
theorem fX2_37 : z_Lf RX2 37 2 14 := ⟨RX2, TX2, 16, rfl, iX2, by decide, rfl, Or.inl (List.mem_of_getElem? (i := 216) (by decide +kernel))⟩
theorem fX2_40 : z_Lf RX2 40 2 15 := ⟨RX2, TX2, 16, rfl, iX2, by decide, rfl, Or.inl (List.mem_of_getElem? (i := 217) (by decide +kernel))⟩
theorem fX3_9 : z_Lf RX3 9 3 0 := ⟨RX3, TX3, 3, rfl, iX3, by decide, rfl, Or.inl (List.mem_of_getElem? (i := 256) (by decide +kernel))⟩
theorem pX3_9 : z_Lp RX3 9 3 0 .int := ⟨RX3, TX3, 3, tyX3, rfl, iX3, by decide, rfl, Or.inl (List.mem_of_getElem? (i := 256) (by decide +kernel)), tyX3_ok, nmX3, rfl, by decide +kernel⟩
theorem fX5_227 : z_Lf RX5 227 3 0 := ⟨RX3, TX3, 3, rfl, iX3, by decide, rfl, Or.inr ⟨"PortageTrips", List.mem_of_getElem? (i := 257) (by decide +kernel)⟩⟩
theorem pX5_227 : z_Lp RX5 227 3 0 .int := ⟨RX3, TX3, 3, tyX3, rfl, iX3, by decide, rfl, Or.inr ⟨"PortageTrips", List.mem_of_getElem? (i := 257) (by decide +kernel)⟩, tyX3_ok, nmX3, rfl, by decide +kernel⟩
theorem fX3_19 : z_Lf RX3 19 3 1 := ⟨RX3, TX3, 3, rfl, iX3, by decide, rfl, Or.inl (List.mem_of_getElem? (i := 258) (by decide +kernel))⟩
theorem pX3_19 : z_Lp RX3 19 3 1 .int := ⟨RX3, TX3, 3, tyX3, rfl, iX3, by decide, rfl, Or.inl (List.mem_of_getElem? (i := 258) (by decide +kernel)), tyX3_ok, nmX3, rfl, by decide +kernel⟩
theorem fX3_15 : z_Lf RX3 15 3 2 := ⟨RX3, TX3, 3, rfl, iX3, by decide, rfl, Or.inl (List.mem_of_getElem? (i := 259) (by decide +kernel))⟩
theorem fX0_48 : z_Lf RX0 48 3 2 := ⟨RX3, TX3, 3, rfl, iX3, by decide, rfl, Or.inr ⟨"PortageTrips", List.mem_of_getElem? (i := 260) (by decide +kernel)⟩⟩
theorem fX5_167 : z_Lf RX5 167 3 2 := ⟨RX3, TX3, 3, rfl, iX3, by decide, rfl, Or.inr ⟨"PortageTrips", List.mem_of_getElem? (i := 261) (by decide +kernel)⟩⟩
theorem fX5_12 : z_Lf RX5 12 5 0 := ⟨RX5, TX5, 14, rfl, iX5, by decide, rfl, Or.inl (List.mem_of_getElem? (i := 269) (by decide +kernel))⟩
theorem fX5_18 : z_Lf RX5 18 5 1 := ⟨RX5, TX5, 14, rfl, iX5, by decide, rfl, Or.inl (List.mem_of_getElem? (i := 270) (by decide +kernel))⟩
theorem fX5_23 : z_Lf RX5 23 5 2 := ⟨RX5, TX5, 14, rfl, iX5, by decide, rfl, Or.inl (List.mem_of_getElem? (i := 271) (by decide +kernel))⟩
theorem fX5_30 : z_Lf RX5 30 5 3 := ⟨RX5, TX5, 14, rfl, iX5, by decide, rfl, Or.inl (List.mem_of_getElem? (i := 272) (by decide +kernel))⟩
theorem fX5_37 : z_Lf RX5 37 5 4 := ⟨RX5, TX5, 14, rfl, iX5, by decide, rfl, Or.inl (List.mem_of_getElem? (i := 273) (by decide +kernel))⟩
theorem fX5_44 : z_Lf RX5 44 5 5 := ⟨RX5, TX5, 14, rfl, iX5, by decide, rfl, Or.inl (List.mem_of_getElem? (i := 274) (by decide +kernel))⟩
theorem fX5_48 : z_Lf RX5 48 5 6 := ⟨RX5, TX5, 14, rfl, iX5, by decide, rfl, Or.inl (List.mem_of_getElem? (i := 275) (by decide +kernel))⟩
theorem fX5_177 : z_Lf RX5 177 5 7 := ⟨RX5, TX5, 14, rfl, iX5, by decide, rfl, Or.inl (List.mem_of_getElem? (i := 276) (by decide +kernel))⟩
theorem pX5_177 : z_Lp RX5 177 5 7 .int := ⟨RX5, TX5, 14, tyX5, rfl, iX5, by decide, rfl, Or.inl (List.mem_of_getElem? (i := 276) (by decide +kernel)), tyX5_ok, nmX5, rfl, by decide +kernel⟩
theorem fX5_180 : z_Lf RX5 180 5 8 := ⟨RX5, TX5, 14, rfl, iX5, by decide, rfl, Or.inl (List.mem_of_getElem? (i := 277) (by decide +kernel))⟩
theorem pX5_180 : z_Lp RX5 180 5 8 .int := ⟨RX5, TX5, 14, tyX5, rfl, iX5, by decide, rfl, Or.inl (List.mem_of_getElem? (i := 277) (by decide +kernel)), tyX5_ok, nmX5, rfl, by decide +kernel⟩
theorem fX5_198 : z_Lf RX5 198 5 9 := ⟨RX5, TX5, 14, rfl, iX5, by decide, rfl, Or.inl (List.mem_of_getElem? (i := 278) (by decide +kernel))⟩
theorem pX5_198 : z_Lp RX5 198 5 9 .boolean := ⟨RX5, TX5, 14, tyX5, rfl, iX5, by decide, rfl, Or.inl (List.mem_of_getElem? (i := 278) (by decide +kernel)), tyX5_ok, nmX5, rfl, by decide +kernel⟩
theorem fX5_191 : z_Lf RX5 191 5 10 := ⟨RX5, TX5, 14, rfl, iX5, by decide, rfl, Or.inl (List.mem_of_getElem? (i := 279) (by decide +kernel))⟩
theorem pX5_191 : z_Lp RX5 191 5 10 .int := ⟨RX5, TX5, 14, tyX5, rfl, iX5, by decide, rfl, Or.inl (List.mem_of_getElem? (i := 279) (by decide +kernel)), tyX5_ok, nmX5, rfl, by decide +kernel⟩
theorem fX5_183 : z_Lf RX5 183 5 11 := ⟨RX5, TX5, 14, rfl, iX5, by decide, rfl, Or.inl (List.mem_of_getElem? (i := 280) (by decide +kernel))⟩
theorem pX5_183 : z_Lp RX5 183 5 11 .boolean := ⟨RX5, TX5, 14, tyX5, rfl, iX5, by decide, rfl, Or.inl (List.mem_of_getElem? (i := 280) (by decide +kernel)), tyX5_ok, nmX5, rfl, by decide +kernel⟩
theorem fX5_248 : z_Lf RX5 248 5 12 := ⟨RX5, TX5, 14, rfl, iX5, by decide, rfl, Or.inl (List.mem_of_getElem? (i := 281) (by decide +kernel))⟩
theorem pX5_248 : z_Lp RX5 248 5 12 .int := ⟨RX5, TX5, 14, tyX5, rfl, iX5, by decide, rfl, Or.inl (List.mem_of_getElem? (i := 281) (by decide +kernel)), tyX5_ok, nmX5, rfl, by decide +kernel⟩
theorem fX5_53 : z_Lf RX5 53 5 13 := ⟨RX5, TX5, 14, rfl, iX5, by decide, rfl, Or.inl (List.mem_of_getElem? (i := 282) (by decide +kernel))⟩
theorem pX5_53 : z_Lp RX5 53 5 13 .int := ⟨RX5, TX5, 14, tyX5, rfl, iX5, by decide, rfl, Or.inl (List.mem_of_getElem? (i := 282) (by decide +kernel)), tyX5_ok, nmX5, rfl, by decide +kernel⟩
theorem fX6_75 : z_Lf RX6 75 6 0 := ⟨RX6, TX6, 38, rfl, iX6, by decide, rfl, Or.inl (List.mem_of_getElem? (i := 716) (by decide +kernel))⟩
theorem pX6_75 : z_Lp RX6 75 6 0 .int := ⟨RX6, TX6, 38, tyX6, rfl, iX6, by decide, rfl, Or.inl (List.mem_of_getElem? (i := 716) (by decide +kernel)), tyX6_ok, nmX6, rfl, by decide +kernel⟩
theorem fX6_260 : z_Lf RX6 260 6 1 := ⟨RX6, TX6, 38, rfl, iX6, by decide, rfl, Or.inl (List.mem_of_getElem? (i := 717) (by decide +kernel))⟩
theorem pX6_260 : z_Lp RX6 260 6 1 .int := ⟨RX6, TX6, 38, tyX6, rfl, iX6, by decide, rfl, Or.inl (List.mem_of_getElem? (i := 717) (by decide +kernel)), tyX6_ok, nmX6, rfl, by decide +kernel⟩
theorem fX6_9 : z_Lf RX6 9 6 2 := ⟨RX6, TX6, 38, rfl, iX6, by decide, rfl, Or.inl (List.mem_of_getElem? (i := 718) (by decide +kernel))⟩
theorem fX6_13 : z_Lf RX6 13 6 3 := ⟨RX6, TX6, 38, rfl, iX6, by decide, rfl, Or.inl (List.mem_of_getElem? (i := 719) (by decide +kernel))⟩
theorem fX6_16 : z_Lf RX6 16 6 4 := ⟨RX6, TX6, 38, rfl, iX6, by decide, rfl, Or.inl (List.mem_of_getElem? (i := 720) (by decide +kernel))⟩
theorem fX6_114 : z_Lf RX6 114 6 5 := ⟨RX6, TX6, 38, rfl, iX6, by decide, rfl, Or.inl (List.mem_of_getElem? (i := 721) (by decide +kernel))⟩
theorem pX6_114 : z_Lp RX6 114 6 5 .int := ⟨RX6, TX6, 38, tyX6, rfl, iX6, by decide, rfl, Or.inl (List.mem_of_getElem? (i := 721) (by decide +kernel)), tyX6_ok, nmX6, rfl, by decide +kernel⟩
theorem fX6_84 : z_Lf RX6 84 6 6 := ⟨RX6, TX6, 38, rfl, iX6, by decide, rfl, Or.inl (List.mem_of_getElem? (i := 722) (by decide +kernel))⟩
theorem pX6_84 : z_Lp RX6 84 6 6 .int := ⟨RX6, TX6, 38, tyX6, rfl, iX6, by decide, rfl, Or.inl (List.mem_of_getElem? (i := 722) (by decide +kernel)), tyX6_ok, nmX6, rfl, by decide +kernel⟩
theorem fX6_87 : z_Lf RX6 87 6 7 := ⟨RX6, TX6, 38, rfl, iX6, by decide, rfl, Or.inl (List.mem_of_getElem? (i := 723) (by decide +kernel))⟩
theorem pX6_87 : z_Lp RX6 87 6 7 .int := ⟨RX6, TX6, 38, tyX6, rfl, iX6, by decide, rfl, Or.inl (List.mem_of_getElem? (i := 723) (by decide +kernel)), tyX6_ok, nmX6, rfl, by decide +kernel⟩
theorem fX6_19 : z_Lf RX6 19 6 8 := ⟨RX6, TX6, 38, rfl, iX6, by decide, rfl, Or.inl (List.mem_of_getElem? (i := 724) (by decide +kernel))⟩
theorem pX6_19 : z_Lp RX6 19 6 8 .int := ⟨RX6, TX6, 38, tyX6, rfl, iX6, by decide, rfl, Or.inl (List.mem_of_getElem? (i := 724) (by decide +kernel)), tyX6_ok, nmX6, rfl, by decide +kernel⟩
theorem fX6_23 : z_Lf RX6 23 6 9 := ⟨RX6, TX6, 38, rfl, iX6, by decide, rfl, Or.inl (List.mem_of_getElem? (i := 725) (by decide +kernel))⟩
theorem fX6_26 : z_Lf RX6 26 6 10 := ⟨RX6, TX6, 38, rfl, iX6, by decide, rfl, Or.inl (List.mem_of_getElem? (i := 726) (by decide +kernel))⟩
theorem fX6_29 : z_Lf RX6 29 6 11 := ⟨RX6, TX6, 38, rfl, iX6, by decide, rfl, Or.inl (List.mem_of_getElem? (i := 727) (by decide +kernel))⟩
theorem fX6_33 : z_Lf RX6 33 6 12 := ⟨RX6, TX6, 38, rfl, iX6, by decide, rfl, Or.inl (List.mem_of_getElem? (i := 728) (by decide +kernel))⟩
theorem fX6_36 : z_Lf RX6 36 6 13 := ⟨RX6, TX6, 38, rfl, iX6, by decide, rfl, Or.inl (List.mem_of_getElem? (i := 729) (by decide +kernel))⟩
theorem fX6_39 : z_Lf RX6 39 6 14 := ⟨RX6, TX6, 38, rfl, iX6, by decide, rfl, Or.inl (List.mem_of_getElem? (i := 730) (by decide +kernel))⟩
theorem pX6_39 : z_Lp RX6 39 6 14 .int := ⟨RX6, TX6, 38, tyX6, rfl, iX6, by decide, rfl, Or.inl (List.mem_of_getElem? (i := 730) (by decide +kernel)), tyX6_ok, nmX6, rfl, by decide +kernel⟩
theorem fX6_90 : z_Lf RX6 90 6 15 := ⟨RX6, TX6, 38, rfl, iX6, by decide, rfl, Or.inl (List.mem_of_getElem? (i := 731) (by decide +kernel))⟩
theorem pX6_90 : z_Lp RX6 90 6 15 .int := ⟨RX6, TX6, 38, tyX6, rfl, iX6, by decide, rfl, Or.inl (List.mem_of_getElem? (i := 731) (by decide +kernel)), tyX6_ok, nmX6, rfl, by decide +kernel⟩
theorem fX6_111 : z_Lf RX6 111 6 16 := ⟨RX6, TX6, 38, rfl, iX6, by decide, rfl, Or.inl (List.mem_of_getElem? (i := 732) (by decide +kernel))⟩
theorem pX6_111 : z_Lp RX6 111 6 16 .int := ⟨RX6, TX6, 38, tyX6, rfl, iX6, by decide, rfl, Or.inl (List.mem_of_getElem? (i := 732) (by decide +kernel)), tyX6_ok, nmX6, rfl, by decide +kernel⟩
theorem fX6_117 : z_Lf RX6 117 6 17 := ⟨RX6, TX6, 38, rfl, iX6, by decide, rfl, Or.inl (List.mem_of_getElem? (i := 733) (by decide +kernel))⟩
theorem pX6_117 : z_Lp RX6 117 6 17 .int := ⟨RX6, TX6, 38, tyX6, rfl, iX6, by decide, rfl, Or.inl (List.mem_of_getElem? (i := 733) (by decide +kernel)), tyX6_ok, nmX6, rfl, by decide +kernel⟩
theorem fX6_120 : z_Lf RX6 120 6 18 := ⟨RX6, TX6, 38, rfl, iX6, by decide, rfl, Or.inl (List.mem_of_getElem? (i := 734) (by decide +kernel))⟩
theorem pX6_120 : z_Lp RX6 120 6 18 .int := ⟨RX6, TX6, 38, tyX6, rfl, iX6, by decide, rfl, Or.inl (List.mem_of_getElem? (i := 734) (by decide +kernel)), tyX6_ok, nmX6, rfl, by decide +kernel⟩
theorem fX6_42 : z_Lf RX6 42 6 19 := ⟨RX6, TX6, 38, rfl, iX6, by decide, rfl, Or.inl (List.mem_of_getElem? (i := 735) (by decide +kernel))⟩
theorem fX6_45 : z_Lf RX6 45 6 20 := ⟨RX6, TX6, 38, rfl, iX6, by decide, rfl, Or.inl (List.mem_of_getElem? (i := 736) (by decide +kernel))⟩
theorem fX6_172 : z_Lf RX6 172 6 21 := ⟨RX6, TX6, 38, rfl, iX6, by decide, rfl, Or.inl (List.mem_of_getElem? (i := 737) (by decide +kernel))⟩
theorem pX6_172 : z_Lp RX6 172 6 21 .int := ⟨RX6, TX6, 38, tyX6, rfl, iX6, by decide, rfl, Or.inl (List.mem_of_getElem? (i := 737) (by decide +kernel)), tyX6_ok, nmX6, rfl, by decide +kernel⟩
theorem fX6_48 : z_Lf RX6 48 6 22 := ⟨RX6, TX6, 38, rfl, iX6, by decide, rfl, Or.inl (List.mem_of_getElem? (i := 738) (by decide +kernel))⟩
theorem fX6_51 : z_Lf RX6 51 6 23 := ⟨RX6, TX6, 38, rfl, iX6, by decide, rfl, Or.inl (List.mem_of_getElem? (i := 739) (by decide +kernel))⟩
theorem fX6_54 : z_Lf RX6 54 6 24 := ⟨RX6, TX6, 38, rfl, iX6, by decide, rfl, Or.inl (List.mem_of_getElem? (i := 740) (by decide +kernel))⟩
theorem fX6_57 : z_Lf RX6 57 6 25 := ⟨RX6, TX6, 38, rfl, iX6, by decide, rfl, Or.inl (List.mem_of_getElem? (i := 741) (by decide +kernel))⟩
theorem fX6_175 : z_Lf RX6 175 6 26 := ⟨RX6, TX6, 38, rfl, iX6, by decide, rfl, Or.inl (List.mem_of_getElem? (i := 742) (by decide +kernel))⟩
theorem pX6_175 : z_Lp RX6 175 6 26 .int := ⟨RX6, TX6, 38, tyX6, rfl, iX6, by decide, rfl, Or.inl (List.mem_of_getElem? (i := 742) (by decide +kernel)), tyX6_ok, nmX6, rfl, by decide +kernel⟩
theorem fX6_178 : z_Lf RX6 178 6 27 := ⟨RX6, TX6, 38, rfl, iX6, by decide, rfl, Or.inl (List.mem_of_getElem? (i := 743) (by decide +kernel))⟩
theorem pX6_178 : z_Lp RX6 178 6 27 .int := ⟨RX6, TX6, 38, tyX6, rfl, iX6, by decide, rfl, Or.inl (List.mem_of_getElem? (i := 743) (by decide +kernel)), tyX6_ok, nmX6, rfl, by decide +kernel⟩
theorem fX6_181 : z_Lf RX6 181 6 28 := ⟨RX6, TX6, 38, rfl, iX6, by decide, rfl, Or.inl (List.mem_of_getElem? (i := 744) (by decide +kernel))⟩
theorem pX6_181 : z_Lp RX6 181 6 28 .long := ⟨RX6, TX6, 38, tyX6, rfl, iX6, by decide, rfl, Or.inl (List.mem_of_getElem? (i := 744) (by decide +kernel)), tyX6_ok, nmX6, rfl, by decide +kernel⟩
theorem fX6_185 : z_Lf RX6 185 6 29 := ⟨RX6, TX6, 38, rfl, iX6, by decide, rfl, Or.inl (List.mem_of_getElem? (i := 745) (by decide +kernel))⟩
theorem pX6_185 : z_Lp RX6 185 6 29 .long := ⟨RX6, TX6, 38, tyX6, rfl, iX6, by decide, rfl, Or.inl (List.mem_of_getElem? (i := 745) (by decide +kernel)), tyX6_ok, nmX6, rfl, by decide +kernel⟩
theorem fX6_60 : z_Lf RX6 60 6 30 := ⟨RX6, TX6, 38, rfl, iX6, by decide, rfl, Or.inl (List.mem_of_getElem? (i := 746) (by decide +kernel))⟩
theorem fX6_63 : z_Lf RX6 63 6 31 := ⟨RX6, TX6, 38, rfl, iX6, by decide, rfl, Or.inl (List.mem_of_getElem? (i := 747) (by decide +kernel))⟩
theorem fX6_236 : z_Lf RX6 236 6 32 := ⟨RX6, TX6, 38, rfl, iX6, by decide, rfl, Or.inl (List.mem_of_getElem? (i := 748) (by decide +kernel))⟩
theorem pX6_236 : z_Lp RX6 236 6 32 .int := ⟨RX6, TX6, 38, tyX6, rfl, iX6, by decide, rfl, Or.inl (List.mem_of_getElem? (i := 748) (by decide +kernel)), tyX6_ok, nmX6, rfl, by decide +kernel⟩
theorem fX6_239 : z_Lf RX6 239 6 33 := ⟨RX6, TX6, 38, rfl, iX6, by decide, rfl, Or.inl (List.mem_of_getElem? (i := 749) (by decide +kernel))⟩
theorem pX6_239 : z_Lp RX6 239 6 33 .int := ⟨RX6, TX6, 38, tyX6, rfl, iX6, by decide, rfl, Or.inl (List.mem_of_getElem? (i := 749) (by decide +kernel)), tyX6_ok, nmX6, rfl, by decide +kernel⟩
theorem fX6_123 : z_Lf RX6 123 6 34 := ⟨RX6, TX6, 38, rfl, iX6, by decide, rfl, Or.inl (List.mem_of_getElem? (i := 750) (by decide +kernel))⟩
theorem pX6_123 : z_Lp RX6 123 6 34 .int := ⟨RX6, TX6, 38, tyX6, rfl, iX6, by decide, rfl, Or.inl (List.mem_of_getElem? (i := 750) (by decide +kernel)), tyX6_ok, nmX6, rfl, by decide +kernel⟩
theorem fX6_66 : z_Lf RX6 66 6 35 := ⟨RX6, TX6, 38, rfl, iX6, by decide, rfl, Or.inl (List.mem_of_getElem? (i := 751) (by decide +kernel))⟩
theorem fX6_69 : z_Lf RX6 69 6 36 := ⟨RX6, TX6, 38, rfl, iX6, by decide, rfl, Or.inl (List.mem_of_getElem? (i := 752) (by decide +kernel))⟩
theorem fX6_72 : z_Lf RX6 72 6 37 := ⟨RX6, TX6, 38, rfl, iX6, by decide, rfl, Or.inl (List.mem_of_getElem? (i := 753) (by decide +kernel))⟩
