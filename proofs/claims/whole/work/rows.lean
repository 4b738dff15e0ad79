section
-- ===== PART A: goes FIRST, ahead of the names: the tables' words, and 'selects' of the private methods out of them =====
/-- a private method of a class that the tables say can be made, by its rows of tables_1 -/
def lw_okq (q : MethodName × Nat) : Prop := (q.1.cls ≠ "java/lang/invoke/MethodHandle" ∧ q.1.cls ≠ "java/lang/invoke/VarHandle") ∧ Cond.instantiable q.1.cls q.2 ∈ tables_1 ∧ Cond.privateMethod q.1 ∈ tables_1 ∧ Cond.instanceMethod q.1 ∈ tables_1
theorem lw_p0 : lw_okq (⟨"PortageTrips", "faulted", "(I)I"⟩, 14) := ⟨⟨by decide +kernel, by decide +kernel⟩, List.mem_of_getElem? (i := 12) (by decide +kernel), List.mem_of_getElem? (i := 266) (by decide +kernel), List.mem_of_getElem? (i := 267) (by decide +kernel)⟩
theorem lw_p1 : lw_okq (⟨"PortageTrips$Portage", "clear", "()V"⟩, 9) := ⟨⟨by decide +kernel, by decide +kernel⟩, List.mem_of_getElem? (i := 20) (by decide +kernel), List.mem_of_getElem? (i := 278) (by decide +kernel), List.mem_of_getElem? (i := 279) (by decide +kernel)⟩
theorem lw_p2 : lw_okq (⟨"PortageTrips$Portage", "readCode", "(II)I"⟩, 9) := ⟨⟨by decide +kernel, by decide +kernel⟩, List.mem_of_getElem? (i := 20) (by decide +kernel), List.mem_of_getElem? (i := 282) (by decide +kernel), List.mem_of_getElem? (i := 283) (by decide +kernel)⟩
theorem lw_p3 : lw_okq (⟨"PortageTrips$Portage", "startPart", "(I)I"⟩, 9) := ⟨⟨by decide +kernel, by decide +kernel⟩, List.mem_of_getElem? (i := 20) (by decide +kernel), List.mem_of_getElem? (i := 286) (by decide +kernel), List.mem_of_getElem? (i := 287) (by decide +kernel)⟩
theorem lw_p4 : lw_okq (⟨"PortageTrips$Portage", "readKind", "(I)I"⟩, 9) := ⟨⟨by decide +kernel, by decide +kernel⟩, List.mem_of_getElem? (i := 20) (by decide +kernel), List.mem_of_getElem? (i := 290) (by decide +kernel), List.mem_of_getElem? (i := 291) (by decide +kernel)⟩
theorem lw_p5 : lw_okq (⟨"PortageTrips$Portage", "readDigit", "(II)I"⟩, 9) := ⟨⟨by decide +kernel, by decide +kernel⟩, List.mem_of_getElem? (i := 20) (by decide +kernel), List.mem_of_getElem? (i := 297) (by decide +kernel), List.mem_of_getElem? (i := 298) (by decide +kernel)⟩
theorem lw_p6 : lw_okq (⟨"PortageTrips", "forgetSearches", "()V"⟩, 14) := ⟨⟨by decide +kernel, by decide +kernel⟩, List.mem_of_getElem? (i := 12) (by decide +kernel), List.mem_of_getElem? (i := 305) (by decide +kernel), List.mem_of_getElem? (i := 306) (by decide +kernel)⟩
theorem lw_p7 : lw_okq (⟨"PortageTrips$Portage", "foodOnes", "()I"⟩, 9) := ⟨⟨by decide +kernel, by decide +kernel⟩, List.mem_of_getElem? (i := 20) (by decide +kernel), List.mem_of_getElem? (i := 353) (by decide +kernel), List.mem_of_getElem? (i := 354) (by decide +kernel)⟩
theorem lw_p8 : lw_okq (⟨"PortageTrips", "takeTrips", "(IIIIZ)I"⟩, 14) := ⟨⟨by decide +kernel, by decide +kernel⟩, List.mem_of_getElem? (i := 12) (by decide +kernel), List.mem_of_getElem? (i := 367) (by decide +kernel), List.mem_of_getElem? (i := 368) (by decide +kernel)⟩
theorem lw_p9 : lw_okq (⟨"PortageTrips$Walk", "canGo", "(LPortageTrips$Portage;I)Z"⟩, 9) := ⟨⟨by decide +kernel, by decide +kernel⟩, List.mem_of_getElem? (i := 93) (by decide +kernel), List.mem_of_getElem? (i := 387) (by decide +kernel), List.mem_of_getElem? (i := 388) (by decide +kernel)⟩
theorem lw_p10 : lw_okq (⟨"PortageTrips$Walk", "goOne", "(LPortageTrips$Portage;I)V"⟩, 9) := ⟨⟨by decide +kernel, by decide +kernel⟩, List.mem_of_getElem? (i := 93) (by decide +kernel), List.mem_of_getElem? (i := 399) (by decide +kernel), List.mem_of_getElem? (i := 400) (by decide +kernel)⟩
theorem lw_p11 : lw_okq (⟨"PortageTrips$Walk", "cutShare", "()V"⟩, 9) := ⟨⟨by decide +kernel, by decide +kernel⟩, List.mem_of_getElem? (i := 93) (by decide +kernel), List.mem_of_getElem? (i := 420) (by decide +kernel), List.mem_of_getElem? (i := 421) (by decide +kernel)⟩
theorem lw_p12 : lw_okq (⟨"PortageTrips", "makePlan", "()V"⟩, 14) := ⟨⟨by decide +kernel, by decide +kernel⟩, List.mem_of_getElem? (i := 12) (by decide +kernel), List.mem_of_getElem? (i := 450) (by decide +kernel), List.mem_of_getElem? (i := 451) (by decide +kernel)⟩
theorem lw_p13 : lw_okq (⟨"PortageTrips$Search", "prepare", "(LPortageTrips$Portage;Z)V"⟩, 16) := ⟨⟨by decide +kernel, by decide +kernel⟩, List.mem_of_getElem? (i := 132) (by decide +kernel), List.mem_of_getElem? (i := 458) (by decide +kernel), List.mem_of_getElem? (i := 459) (by decide +kernel)⟩
theorem lw_p14 : lw_okq (⟨"PortageTrips$Search", "prepareSet", "(LPortageTrips$Portage;IZ)V"⟩, 16) := ⟨⟨by decide +kernel, by decide +kernel⟩, List.mem_of_getElem? (i := 132) (by decide +kernel), List.mem_of_getElem? (i := 463) (by decide +kernel), List.mem_of_getElem? (i := 464) (by decide +kernel)⟩
theorem lw_p15 : lw_okq (⟨"PortageTrips$Search", "offer", "(II)V"⟩, 16) := ⟨⟨by decide +kernel, by decide +kernel⟩, List.mem_of_getElem? (i := 132) (by decide +kernel), List.mem_of_getElem? (i := 472) (by decide +kernel), List.mem_of_getElem? (i := 473) (by decide +kernel)⟩
def lw_privs_1 : List (MethodName × Nat) := [(⟨"PortageTrips", "faulted", "(I)I"⟩, 14), (⟨"PortageTrips$Portage", "clear", "()V"⟩, 9), (⟨"PortageTrips$Portage", "readCode", "(II)I"⟩, 9), (⟨"PortageTrips$Portage", "startPart", "(I)I"⟩, 9), (⟨"PortageTrips$Portage", "readKind", "(I)I"⟩, 9), (⟨"PortageTrips$Portage", "readDigit", "(II)I"⟩, 9), (⟨"PortageTrips", "forgetSearches", "()V"⟩, 14), (⟨"PortageTrips$Portage", "foodOnes", "()I"⟩, 9), (⟨"PortageTrips", "takeTrips", "(IIIIZ)I"⟩, 14), (⟨"PortageTrips$Walk", "canGo", "(LPortageTrips$Portage;I)Z"⟩, 9), (⟨"PortageTrips$Walk", "goOne", "(LPortageTrips$Portage;I)V"⟩, 9), (⟨"PortageTrips$Walk", "cutShare", "()V"⟩, 9), (⟨"PortageTrips", "makePlan", "()V"⟩, 14), (⟨"PortageTrips$Search", "prepare", "(LPortageTrips$Portage;Z)V"⟩, 16), (⟨"PortageTrips$Search", "prepareSet", "(LPortageTrips$Portage;IZ)V"⟩, 16), (⟨"PortageTrips$Search", "offer", "(II)V"⟩, 16)]
theorem lw_r1 : ∀ q ∈ lw_privs_1, lw_okq q := List.forall_mem_cons.mpr ⟨lw_p0, List.forall_mem_cons.mpr ⟨lw_p1, List.forall_mem_cons.mpr ⟨lw_p2, List.forall_mem_cons.mpr ⟨lw_p3, List.forall_mem_cons.mpr ⟨lw_p4, List.forall_mem_cons.mpr ⟨lw_p5, List.forall_mem_cons.mpr ⟨lw_p6, List.forall_mem_cons.mpr ⟨lw_p7, List.forall_mem_cons.mpr ⟨lw_p8, List.forall_mem_cons.mpr ⟨lw_p9, List.forall_mem_cons.mpr ⟨lw_p10, List.forall_mem_cons.mpr ⟨lw_p11, List.forall_mem_cons.mpr ⟨lw_p12, List.forall_mem_cons.mpr ⟨lw_p13, List.forall_mem_cons.mpr ⟨lw_p14, List.forall_mem_cons.mpr ⟨lw_p15, fun _ h => absurd h List.not_mem_nil⟩⟩⟩⟩⟩⟩⟩⟩⟩⟩⟩⟩⟩⟩⟩⟩
theorem lw_p16 : lw_okq (⟨"PortageTrips$Search", "takeOut", "(I)V"⟩, 16) := ⟨⟨by decide +kernel, by decide +kernel⟩, List.mem_of_getElem? (i := 132) (by decide +kernel), List.mem_of_getElem? (i := 476) (by decide +kernel), List.mem_of_getElem? (i := 477) (by decide +kernel)⟩
theorem lw_p17 : lw_okq (⟨"PortageTrips$Search", "settleAll", "(I)V"⟩, 16) := ⟨⟨by decide +kernel, by decide +kernel⟩, List.mem_of_getElem? (i := 132) (by decide +kernel), List.mem_of_getElem? (i := 481) (by decide +kernel), List.mem_of_getElem? (i := 482) (by decide +kernel)⟩
theorem lw_p18 : lw_okq (⟨"PortageTrips$Search", "spread", "(II)V"⟩, 16) := ⟨⟨by decide +kernel, by decide +kernel⟩, List.mem_of_getElem? (i := 132) (by decide +kernel), List.mem_of_getElem? (i := 485) (by decide +kernel), List.mem_of_getElem? (i := 486) (by decide +kernel)⟩
theorem lw_p19 : lw_okq (⟨"PortageTrips$Search", "thingsHere", "(I)I"⟩, 16) := ⟨⟨by decide +kernel, by decide +kernel⟩, List.mem_of_getElem? (i := 132) (by decide +kernel), List.mem_of_getElem? (i := 489) (by decide +kernel), List.mem_of_getElem? (i := 490) (by decide +kernel)⟩
theorem lw_p20 : lw_okq (⟨"PortageTrips$Search", "stateBehind", "(III)I"⟩, 16) := ⟨⟨by decide +kernel, by decide +kernel⟩, List.mem_of_getElem? (i := 132) (by decide +kernel), List.mem_of_getElem? (i := 493) (by decide +kernel), List.mem_of_getElem? (i := 494) (by decide +kernel)⟩
theorem lw_p21 : lw_okq (⟨"PortageTrips$Search", "minutesOf", "(III)I"⟩, 16) := ⟨⟨by decide +kernel, by decide +kernel⟩, List.mem_of_getElem? (i := 132) (by decide +kernel), List.mem_of_getElem? (i := 500) (by decide +kernel), List.mem_of_getElem? (i := 501) (by decide +kernel)⟩
theorem lw_p22 : lw_okq (⟨"PortageTrips$Search", "countTripsLeft", "()V"⟩, 16) := ⟨⟨by decide +kernel, by decide +kernel⟩, List.mem_of_getElem? (i := 132) (by decide +kernel), List.mem_of_getElem? (i := 509) (by decide +kernel), List.mem_of_getElem? (i := 510) (by decide +kernel)⟩
theorem lw_p23 : lw_okq (⟨"PortageTrips$Search", "bestMove", "(I)I"⟩, 16) := ⟨⟨by decide +kernel, by decide +kernel⟩, List.mem_of_getElem? (i := 132) (by decide +kernel), List.mem_of_getElem? (i := 513) (by decide +kernel), List.mem_of_getElem? (i := 514) (by decide +kernel)⟩
theorem lw_p24 : lw_okq (⟨"PortageTrips$Search", "isInTime", "(III)Z"⟩, 16) := ⟨⟨by decide +kernel, by decide +kernel⟩, List.mem_of_getElem? (i := 132) (by decide +kernel), List.mem_of_getElem? (i := 517) (by decide +kernel), List.mem_of_getElem? (i := 518) (by decide +kernel)⟩
theorem lw_p25 : lw_okq (⟨"PortageTrips", "draftIsAsRead", "()Z"⟩, 14) := ⟨⟨by decide +kernel, by decide +kernel⟩, List.mem_of_getElem? (i := 12) (by decide +kernel), List.mem_of_getElem? (i := 557) (by decide +kernel), List.mem_of_getElem? (i := 558) (by decide +kernel)⟩
theorem lw_p26 : lw_okq (⟨"PortageTrips", "tellAsChild", "(I)I"⟩, 14) := ⟨⟨by decide +kernel, by decide +kernel⟩, List.mem_of_getElem? (i := 12) (by decide +kernel), List.mem_of_getElem? (i := 611) (by decide +kernel), List.mem_of_getElem? (i := 612) (by decide +kernel)⟩
theorem lw_p27 : lw_okq (⟨"PortageTrips", "leave", "(I)V"⟩, 14) := ⟨⟨by decide +kernel, by decide +kernel⟩, List.mem_of_getElem? (i := 12) (by decide +kernel), List.mem_of_getElem? (i := 615) (by decide +kernel), List.mem_of_getElem? (i := 616) (by decide +kernel)⟩
theorem lw_p28 : lw_okq (⟨"PortageTrips", "tellAsFood", "(I)I"⟩, 14) := ⟨⟨by decide +kernel, by decide +kernel⟩, List.mem_of_getElem? (i := 12) (by decide +kernel), List.mem_of_getElem? (i := 619) (by decide +kernel), List.mem_of_getElem? (i := 620) (by decide +kernel)⟩
theorem lw_p29 : lw_okq (⟨"PortageTrips", "tellAsThing", "(I)I"⟩, 14) := ⟨⟨by decide +kernel, by decide +kernel⟩, List.mem_of_getElem? (i := 12) (by decide +kernel), List.mem_of_getElem? (i := 623) (by decide +kernel), List.mem_of_getElem? (i := 624) (by decide +kernel)⟩
theorem lw_p30 : lw_okq (⟨"PortageTripsModel", "against", "(IIII)I"⟩, 38) := ⟨⟨by decide +kernel, by decide +kernel⟩, List.mem_of_getElem? (i := 647) (by decide +kernel), List.mem_of_getElem? (i := 781) (by decide +kernel), List.mem_of_getElem? (i := 782) (by decide +kernel)⟩
theorem lw_p31 : lw_okq (⟨"PortageTripsModel", "fails", "(I)I"⟩, 38) := ⟨⟨by decide +kernel, by decide +kernel⟩, List.mem_of_getElem? (i := 647) (by decide +kernel), List.mem_of_getElem? (i := 785) (by decide +kernel), List.mem_of_getElem? (i := 786) (by decide +kernel)⟩
def lw_privs_2 : List (MethodName × Nat) := [(⟨"PortageTrips$Search", "takeOut", "(I)V"⟩, 16), (⟨"PortageTrips$Search", "settleAll", "(I)V"⟩, 16), (⟨"PortageTrips$Search", "spread", "(II)V"⟩, 16), (⟨"PortageTrips$Search", "thingsHere", "(I)I"⟩, 16), (⟨"PortageTrips$Search", "stateBehind", "(III)I"⟩, 16), (⟨"PortageTrips$Search", "minutesOf", "(III)I"⟩, 16), (⟨"PortageTrips$Search", "countTripsLeft", "()V"⟩, 16), (⟨"PortageTrips$Search", "bestMove", "(I)I"⟩, 16), (⟨"PortageTrips$Search", "isInTime", "(III)Z"⟩, 16), (⟨"PortageTrips", "draftIsAsRead", "()Z"⟩, 14), (⟨"PortageTrips", "tellAsChild", "(I)I"⟩, 14), (⟨"PortageTrips", "leave", "(I)V"⟩, 14), (⟨"PortageTrips", "tellAsFood", "(I)I"⟩, 14), (⟨"PortageTrips", "tellAsThing", "(I)I"⟩, 14), (⟨"PortageTripsModel", "against", "(IIII)I"⟩, 38), (⟨"PortageTripsModel", "fails", "(I)I"⟩, 38)]
theorem lw_r2 : ∀ q ∈ lw_privs_2, lw_okq q := List.forall_mem_cons.mpr ⟨lw_p16, List.forall_mem_cons.mpr ⟨lw_p17, List.forall_mem_cons.mpr ⟨lw_p18, List.forall_mem_cons.mpr ⟨lw_p19, List.forall_mem_cons.mpr ⟨lw_p20, List.forall_mem_cons.mpr ⟨lw_p21, List.forall_mem_cons.mpr ⟨lw_p22, List.forall_mem_cons.mpr ⟨lw_p23, List.forall_mem_cons.mpr ⟨lw_p24, List.forall_mem_cons.mpr ⟨lw_p25, List.forall_mem_cons.mpr ⟨lw_p26, List.forall_mem_cons.mpr ⟨lw_p27, List.forall_mem_cons.mpr ⟨lw_p28, List.forall_mem_cons.mpr ⟨lw_p29, List.forall_mem_cons.mpr ⟨lw_p30, List.forall_mem_cons.mpr ⟨lw_p31, fun _ h => absurd h List.not_mem_nil⟩⟩⟩⟩⟩⟩⟩⟩⟩⟩⟩⟩⟩⟩⟩⟩
theorem lw_p32 : lw_okq (⟨"PortageTripsModel", "readAll", "(I)Z"⟩, 38) := ⟨⟨by decide +kernel, by decide +kernel⟩, List.mem_of_getElem? (i := 647) (by decide +kernel), List.mem_of_getElem? (i := 789) (by decide +kernel), List.mem_of_getElem? (i := 790) (by decide +kernel)⟩
theorem lw_p33 : lw_okq (⟨"PortageTripsModel", "isSign", "(II)Z"⟩, 38) := ⟨⟨by decide +kernel, by decide +kernel⟩, List.mem_of_getElem? (i := 647) (by decide +kernel), List.mem_of_getElem? (i := 793) (by decide +kernel), List.mem_of_getElem? (i := 794) (by decide +kernel)⟩
theorem lw_p34 : lw_okq (⟨"PortageTripsModel", "digit", "(III)I"⟩, 38) := ⟨⟨by decide +kernel, by decide +kernel⟩, List.mem_of_getElem? (i := 647) (by decide +kernel), List.mem_of_getElem? (i := 797) (by decide +kernel), List.mem_of_getElem? (i := 798) (by decide +kernel)⟩
theorem lw_p35 : lw_okq (⟨"PortageTripsModel", "readOneStage", "(I)Z"⟩, 38) := ⟨⟨by decide +kernel, by decide +kernel⟩, List.mem_of_getElem? (i := 647) (by decide +kernel), List.mem_of_getElem? (i := 801) (by decide +kernel), List.mem_of_getElem? (i := 802) (by decide +kernel)⟩
theorem lw_p36 : lw_okq (⟨"PortageTripsModel", "readOneThing", "(I)Z"⟩, 38) := ⟨⟨by decide +kernel, by decide +kernel⟩, List.mem_of_getElem? (i := 647) (by decide +kernel), List.mem_of_getElem? (i := 805) (by decide +kernel), List.mem_of_getElem? (i := 806) (by decide +kernel)⟩
theorem lw_p37 : lw_okq (⟨"PortageTripsModel", "isStage", "(I)Z"⟩, 38) := ⟨⟨by decide +kernel, by decide +kernel⟩, List.mem_of_getElem? (i := 647) (by decide +kernel), List.mem_of_getElem? (i := 813) (by decide +kernel), List.mem_of_getElem? (i := 814) (by decide +kernel)⟩
theorem lw_p38 : lw_okq (⟨"PortageTripsModel", "isThing", "(I)Z"⟩, 38) := ⟨⟨by decide +kernel, by decide +kernel⟩, List.mem_of_getElem? (i := 647) (by decide +kernel), List.mem_of_getElem? (i := 821) (by decide +kernel), List.mem_of_getElem? (i := 822) (by decide +kernel)⟩
theorem lw_p39 : lw_okq (⟨"PortageTripsModel", "allThings", "()I"⟩, 38) := ⟨⟨by decide +kernel, by decide +kernel⟩, List.mem_of_getElem? (i := 647) (by decide +kernel), List.mem_of_getElem? (i := 841) (by decide +kernel), List.mem_of_getElem? (i := 842) (by decide +kernel)⟩
theorem lw_p40 : lw_okq (⟨"PortageTripsModel", "wellOf", "(I)I"⟩, 38) := ⟨⟨by decide +kernel, by decide +kernel⟩, List.mem_of_getElem? (i := 647) (by decide +kernel), List.mem_of_getElem? (i := 845) (by decide +kernel), List.mem_of_getElem? (i := 846) (by decide +kernel)⟩
theorem lw_p41 : lw_okq (⟨"PortageTripsModel", "isWell", "(II)Z"⟩, 38) := ⟨⟨by decide +kernel, by decide +kernel⟩, List.mem_of_getElem? (i := 647) (by decide +kernel), List.mem_of_getElem? (i := 849) (by decide +kernel), List.mem_of_getElem? (i := 850) (by decide +kernel)⟩
theorem lw_p42 : lw_okq (⟨"PortageTripsModel", "layTrips", "(IIII)I"⟩, 38) := ⟨⟨by decide +kernel, by decide +kernel⟩, List.mem_of_getElem? (i := 647) (by decide +kernel), List.mem_of_getElem? (i := 860) (by decide +kernel), List.mem_of_getElem? (i := 861) (by decide +kernel)⟩
theorem lw_p43 : lw_okq (⟨"PortageTripsModel", "isSpot", "(I)Z"⟩, 38) := ⟨⟨by decide +kernel, by decide +kernel⟩, List.mem_of_getElem? (i := 647) (by decide +kernel), List.mem_of_getElem? (i := 864) (by decide +kernel), List.mem_of_getElem? (i := 865) (by decide +kernel)⟩
theorem lw_p44 : lw_okq (⟨"PortageTripsModel", "go", "()I"⟩, 38) := ⟨⟨by decide +kernel, by decide +kernel⟩, List.mem_of_getElem? (i := 647) (by decide +kernel), List.mem_of_getElem? (i := 868) (by decide +kernel), List.mem_of_getElem? (i := 869) (by decide +kernel)⟩
theorem lw_p45 : lw_okq (⟨"PortageTripsModel", "mayGo", "(III)Z"⟩, 38) := ⟨⟨by decide +kernel, by decide +kernel⟩, List.mem_of_getElem? (i := 647) (by decide +kernel), List.mem_of_getElem? (i := 872) (by decide +kernel), List.mem_of_getElem? (i := 873) (by decide +kernel)⟩
theorem lw_p46 : lw_okq (⟨"PortageTripsModel", "thingsAt", "(II)I"⟩, 38) := ⟨⟨by decide +kernel, by decide +kernel⟩, List.mem_of_getElem? (i := 647) (by decide +kernel), List.mem_of_getElem? (i := 876) (by decide +kernel), List.mem_of_getElem? (i := 877) (by decide +kernel)⟩
theorem lw_p47 : lw_okq (⟨"PortageTripsModel", "poundsOf", "(I)I"⟩, 38) := ⟨⟨by decide +kernel, by decide +kernel⟩, List.mem_of_getElem? (i := 647) (by decide +kernel), List.mem_of_getElem? (i := 880) (by decide +kernel), List.mem_of_getElem? (i := 881) (by decide +kernel)⟩
def lw_privs_3 : List (MethodName × Nat) := [(⟨"PortageTripsModel", "readAll", "(I)Z"⟩, 38), (⟨"PortageTripsModel", "isSign", "(II)Z"⟩, 38), (⟨"PortageTripsModel", "digit", "(III)I"⟩, 38), (⟨"PortageTripsModel", "readOneStage", "(I)Z"⟩, 38), (⟨"PortageTripsModel", "readOneThing", "(I)Z"⟩, 38), (⟨"PortageTripsModel", "isStage", "(I)Z"⟩, 38), (⟨"PortageTripsModel", "isThing", "(I)Z"⟩, 38), (⟨"PortageTripsModel", "allThings", "()I"⟩, 38), (⟨"PortageTripsModel", "wellOf", "(I)I"⟩, 38), (⟨"PortageTripsModel", "isWell", "(II)Z"⟩, 38), (⟨"PortageTripsModel", "layTrips", "(IIII)I"⟩, 38), (⟨"PortageTripsModel", "isSpot", "(I)Z"⟩, 38), (⟨"PortageTripsModel", "go", "()I"⟩, 38), (⟨"PortageTripsModel", "mayGo", "(III)Z"⟩, 38), (⟨"PortageTripsModel", "thingsAt", "(II)I"⟩, 38), (⟨"PortageTripsModel", "poundsOf", "(I)I"⟩, 38)]
theorem lw_r3 : ∀ q ∈ lw_privs_3, lw_okq q := List.forall_mem_cons.mpr ⟨lw_p32, List.forall_mem_cons.mpr ⟨lw_p33, List.forall_mem_cons.mpr ⟨lw_p34, List.forall_mem_cons.mpr ⟨lw_p35, List.forall_mem_cons.mpr ⟨lw_p36, List.forall_mem_cons.mpr ⟨lw_p37, List.forall_mem_cons.mpr ⟨lw_p38, List.forall_mem_cons.mpr ⟨lw_p39, List.forall_mem_cons.mpr ⟨lw_p40, List.forall_mem_cons.mpr ⟨lw_p41, List.forall_mem_cons.mpr ⟨lw_p42, List.forall_mem_cons.mpr ⟨lw_p43, List.forall_mem_cons.mpr ⟨lw_p44, List.forall_mem_cons.mpr ⟨lw_p45, List.forall_mem_cons.mpr ⟨lw_p46, List.forall_mem_cons.mpr ⟨lw_p47, fun _ h => absurd h List.not_mem_nil⟩⟩⟩⟩⟩⟩⟩⟩⟩⟩⟩⟩⟩⟩⟩⟩
theorem lw_p48 : lw_okq (⟨"PortageTripsModel", "stageOf", "(II)I"⟩, 38) := ⟨⟨by decide +kernel, by decide +kernel⟩, List.mem_of_getElem? (i := 647) (by decide +kernel), List.mem_of_getElem? (i := 884) (by decide +kernel), List.mem_of_getElem? (i := 885) (by decide +kernel)⟩
theorem lw_p49 : lw_okq (⟨"PortageTripsModel", "mudOf", "(II)I"⟩, 38) := ⟨⟨by decide +kernel, by decide +kernel⟩, List.mem_of_getElem? (i := 647) (by decide +kernel), List.mem_of_getElem? (i := 888) (by decide +kernel), List.mem_of_getElem? (i := 889) (by decide +kernel)⟩
theorem lw_p50 : lw_okq (⟨"PortageTripsModel", "takes", "(IIII)I"⟩, 38) := ⟨⟨by decide +kernel, by decide +kernel⟩, List.mem_of_getElem? (i := 647) (by decide +kernel), List.mem_of_getElem? (i := 893) (by decide +kernel), List.mem_of_getElem? (i := 894) (by decide +kernel)⟩
theorem lw_p51 : lw_okq (⟨"PortageTripsModel", "spotAt", "(II)I"⟩, 38) := ⟨⟨by decide +kernel, by decide +kernel⟩, List.mem_of_getElem? (i := 647) (by decide +kernel), List.mem_of_getElem? (i := 904) (by decide +kernel), List.mem_of_getElem? (i := 905) (by decide +kernel)⟩
theorem lw_p52 : lw_okq (⟨"PortageTripsModel", "soonestNow", "()I"⟩, 38) := ⟨⟨by decide +kernel, by decide +kernel⟩, List.mem_of_getElem? (i := 647) (by decide +kernel), List.mem_of_getElem? (i := 920) (by decide +kernel), List.mem_of_getElem? (i := 921) (by decide +kernel)⟩
theorem lw_p53 : lw_okq (⟨"PortageTripsModel", "laySoonest", "()V"⟩, 38) := ⟨⟨by decide +kernel, by decide +kernel⟩, List.mem_of_getElem? (i := 647) (by decide +kernel), List.mem_of_getElem? (i := 924) (by decide +kernel), List.mem_of_getElem? (i := 925) (by decide +kernel)⟩
theorem lw_p54 : lw_okq (⟨"PortageTripsModel", "relax", "(III)Z"⟩, 38) := ⟨⟨by decide +kernel, by decide +kernel⟩, List.mem_of_getElem? (i := 647) (by decide +kernel), List.mem_of_getElem? (i := 928) (by decide +kernel), List.mem_of_getElem? (i := 929) (by decide +kernel)⟩
theorem lw_p55 : lw_okq (⟨"PortageTripsModel", "end", "()I"⟩, 38) := ⟨⟨by decide +kernel, by decide +kernel⟩, List.mem_of_getElem? (i := 647) (by decide +kernel), List.mem_of_getElem? (i := 932) (by decide +kernel), List.mem_of_getElem? (i := 933) (by decide +kernel)⟩
theorem lw_p56 : lw_okq (⟨"PortageTripsModel", "layLeft", "()V"⟩, 38) := ⟨⟨by decide +kernel, by decide +kernel⟩, List.mem_of_getElem? (i := 647) (by decide +kernel), List.mem_of_getElem? (i := 940) (by decide +kernel), List.mem_of_getElem? (i := 941) (by decide +kernel)⟩
theorem lw_p57 : lw_okq (⟨"PortageTripsModel", "shorten", "(III)Z"⟩, 38) := ⟨⟨by decide +kernel, by decide +kernel⟩, List.mem_of_getElem? (i := 647) (by decide +kernel), List.mem_of_getElem? (i := 944) (by decide +kernel), List.mem_of_getElem? (i := 945) (by decide +kernel)⟩
theorem lw_p58 : lw_okq (⟨"PortageTripsModel", "isTight", "(III)Z"⟩, 38) := ⟨⟨by decide +kernel, by decide +kernel⟩, List.mem_of_getElem? (i := 647) (by decide +kernel), List.mem_of_getElem? (i := 948) (by decide +kernel), List.mem_of_getElem? (i := 949) (by decide +kernel)⟩
theorem lw_p59 : lw_okq (⟨"PortageTripsModel", "findNext", "(I)V"⟩, 38) := ⟨⟨by decide +kernel, by decide +kernel⟩, List.mem_of_getElem? (i := 647) (by decide +kernel), List.mem_of_getElem? (i := 952) (by decide +kernel), List.mem_of_getElem? (i := 953) (by decide +kernel)⟩
theorem lw_p60 : lw_okq (⟨"PortageTripsModel", "isNext", "(III)Z"⟩, 38) := ⟨⟨by decide +kernel, by decide +kernel⟩, List.mem_of_getElem? (i := 647) (by decide +kernel), List.mem_of_getElem? (i := 956) (by decide +kernel), List.mem_of_getElem? (i := 957) (by decide +kernel)⟩
theorem lw_p61 : lw_okq (⟨"PortageTripsModel", "spread", "(III)Z"⟩, 38) := ⟨⟨by decide +kernel, by decide +kernel⟩, List.mem_of_getElem? (i := 647) (by decide +kernel), List.mem_of_getElem? (i := 964) (by decide +kernel), List.mem_of_getElem? (i := 965) (by decide +kernel)⟩
theorem lw_p62 : lw_okq (⟨"PortageTripsModel", "areSo", "()Z"⟩, 38) := ⟨⟨by decide +kernel, by decide +kernel⟩, List.mem_of_getElem? (i := 647) (by decide +kernel), List.mem_of_getElem? (i := 988) (by decide +kernel), List.mem_of_getElem? (i := 989) (by decide +kernel)⟩
theorem lw_p63 : lw_okq (⟨"PortageTripsModel", "lost", "(I)J"⟩, 38) := ⟨⟨by decide +kernel, by decide +kernel⟩, List.mem_of_getElem? (i := 647) (by decide +kernel), List.mem_of_getElem? (i := 1012) (by decide +kernel), List.mem_of_getElem? (i := 1013) (by decide +kernel)⟩
def lw_privs_4 : List (MethodName × Nat) := [(⟨"PortageTripsModel", "stageOf", "(II)I"⟩, 38), (⟨"PortageTripsModel", "mudOf", "(II)I"⟩, 38), (⟨"PortageTripsModel", "takes", "(IIII)I"⟩, 38), (⟨"PortageTripsModel", "spotAt", "(II)I"⟩, 38), (⟨"PortageTripsModel", "soonestNow", "()I"⟩, 38), (⟨"PortageTripsModel", "laySoonest", "()V"⟩, 38), (⟨"PortageTripsModel", "relax", "(III)Z"⟩, 38), (⟨"PortageTripsModel", "end", "()I"⟩, 38), (⟨"PortageTripsModel", "layLeft", "()V"⟩, 38), (⟨"PortageTripsModel", "shorten", "(III)Z"⟩, 38), (⟨"PortageTripsModel", "isTight", "(III)Z"⟩, 38), (⟨"PortageTripsModel", "findNext", "(I)V"⟩, 38), (⟨"PortageTripsModel", "isNext", "(III)Z"⟩, 38), (⟨"PortageTripsModel", "spread", "(III)Z"⟩, 38), (⟨"PortageTripsModel", "areSo", "()Z"⟩, 38), (⟨"PortageTripsModel", "lost", "(I)J"⟩, 38)]
theorem lw_r4 : ∀ q ∈ lw_privs_4, lw_okq q := List.forall_mem_cons.mpr ⟨lw_p48, List.forall_mem_cons.mpr ⟨lw_p49, List.forall_mem_cons.mpr ⟨lw_p50, List.forall_mem_cons.mpr ⟨lw_p51, List.forall_mem_cons.mpr ⟨lw_p52, List.forall_mem_cons.mpr ⟨lw_p53, List.forall_mem_cons.mpr ⟨lw_p54, List.forall_mem_cons.mpr ⟨lw_p55, List.forall_mem_cons.mpr ⟨lw_p56, List.forall_mem_cons.mpr ⟨lw_p57, List.forall_mem_cons.mpr ⟨lw_p58, List.forall_mem_cons.mpr ⟨lw_p59, List.forall_mem_cons.mpr ⟨lw_p60, List.forall_mem_cons.mpr ⟨lw_p61, List.forall_mem_cons.mpr ⟨lw_p62, List.forall_mem_cons.mpr ⟨lw_p63, fun _ h => absurd h List.not_mem_nil⟩⟩⟩⟩⟩⟩⟩⟩⟩⟩⟩⟩⟩⟩⟩⟩
theorem lw_p64 : lw_okq (⟨"PortageTripsModel", "begins", "(I)V"⟩, 38) := ⟨⟨by decide +kernel, by decide +kernel⟩, List.mem_of_getElem? (i := 647) (by decide +kernel), List.mem_of_getElem? (i := 1024) (by decide +kernel), List.mem_of_getElem? (i := 1025) (by decide +kernel)⟩
def lw_privs_5 : List (MethodName × Nat) := [(⟨"PortageTripsModel", "begins", "(I)V"⟩, 38)]
theorem lw_r5 : ∀ q ∈ lw_privs_5, lw_okq q := List.forall_mem_cons.mpr ⟨lw_p64, fun _ h => absurd h List.not_mem_nil⟩
def lw_privs : List (MethodName × Nat) := lw_privs_1 ++ (lw_privs_2 ++ (lw_privs_3 ++ (lw_privs_4 ++ (lw_privs_5))))
def lw_tbl : List Cond := k2_sels lw_privs ++ tables_1
theorem lw_privs_ok : ∀ q ∈ lw_privs, lw_okq q := by
  show ∀ q ∈ lw_privs_1 ++ (lw_privs_2 ++ (lw_privs_3 ++ (lw_privs_4 ++ (lw_privs_5)))), lw_okq q
  exact List.forall_mem_append.mpr ⟨lw_r1, List.forall_mem_append.mpr ⟨lw_r2, List.forall_mem_append.mpr ⟨lw_r3, List.forall_mem_append.mpr ⟨lw_r4, lw_r5⟩⟩⟩⟩
end
section
def RX0 : String := "PortageTrips$Portage"
def TX0 : u_T := fun k => match k with
  | 0 => ("PortageTrips$Portage", "strength", "I", false)
  | 1 => ("PortageTrips$Portage", "rainFrom", "I", false)
  | 2 => ("PortageTrips$Portage", "stages", "I", false)
  | 3 => ("PortageTrips$Portage", "lengths", "[I", true)
  | 4 => ("PortageTrips$Portage", "muds", "[I", true)
  | 5 => ("PortageTrips$Portage", "boarded", "[Z", true)
  | 6 => ("PortageTrips$Portage", "things", "I", false)
  | 7 => ("PortageTrips$Portage", "kindRow", "[I", true)
  | _ => ("PortageTrips$Portage", "poundRow", "[I", true)
def tyX0 : Nat → FieldType := fun k => match k with
  | 0 => .int
  | 1 => .int
  | 2 => .int
  | 3 => .array .int
  | 4 => .array .int
  | 5 => .array .boolean
  | 6 => .int
  | 7 => .array .int
  | _ => .array .int
abbrev wsX00 : List Cond := u_ws RX0 TX0 9
theorem nmX0 : ∀ a, a < 9 → ∀ b, b < 9 → a ≠ b → (TX0 a).2.1 ≠ (TX0 b).2.1 := by decide +kernel
theorem tyX0_ok : ∀ k, k < 9 → parseFieldDescriptor (TX0 k).2.2.1 = some (tyX0 k) := by decide +kernel
abbrev cX0_init : ByteArray := prog_2_method_1_code
def yX0_init : MethodName := ⟨RX0, "<init>", "()V"⟩
abbrev cX0_isThere : ByteArray := prog_2_method_2_code
def yX0_isThere : MethodName := ⟨RX0, "isThere", "()Z"⟩
abbrev cX0_hasStage : ByteArray := prog_2_method_3_code
def yX0_hasStage : MethodName := ⟨RX0, "hasStage", "(I)Z"⟩
abbrev cX0_hasSpot : ByteArray := prog_2_method_4_code
def yX0_hasSpot : MethodName := ⟨RX0, "hasSpot", "(I)Z"⟩
abbrev cX0_hasThing : ByteArray := prog_2_method_5_code
def yX0_hasThing : MethodName := ⟨RX0, "hasThing", "(I)Z"⟩
abbrev cX0_hasAllOf : ByteArray := prog_2_method_6_code
def yX0_hasAllOf : MethodName := ⟨RX0, "hasAllOf", "(I)Z"⟩
abbrev cX0_become : ByteArray := prog_2_method_7_code
def yX0_become : MethodName := ⟨RX0, "become", "(LPortageTrips$Portage;)V"⟩
abbrev cX0_dropThing : ByteArray := prog_2_method_8_code
def yX0_dropThing : MethodName := ⟨RX0, "dropThing", "(I)V"⟩
abbrev cX0_readText : ByteArray := prog_2_method_9_code
def yX0_readText : MethodName := ⟨RX0, "readText", "(LPortageTrips$Sheet;II)I"⟩
abbrev cX0_clear : ByteArray := prog_2_method_10_code
def yX0_clear : MethodName := ⟨RX0, "clear", "()V"⟩
abbrev cX0_readCode : ByteArray := prog_2_method_11_code
def yX0_readCode : MethodName := ⟨RX0, "readCode", "(II)I"⟩
abbrev cX0_startPart : ByteArray := prog_2_method_12_code
def yX0_startPart : MethodName := ⟨RX0, "startPart", "(I)I"⟩
abbrev cX0_readKind : ByteArray := prog_2_method_13_code
def yX0_readKind : MethodName := ⟨RX0, "readKind", "(I)I"⟩
abbrev cX0_readDigit : ByteArray := prog_2_method_14_code
def yX0_readDigit : MethodName := ⟨RX0, "readDigit", "(II)I"⟩
abbrev cX0_kindOfLetter : ByteArray := prog_2_method_15_code
def yX0_kindOfLetter : MethodName := ⟨RX0, "kindOfLetter", "(I)I"⟩
abbrev cX0_wellOnes : ByteArray := prog_2_method_16_code
def yX0_wellOnes : MethodName := ⟨RX0, "wellOnes", "(I)I"⟩
abbrev cX0_isWell : ByteArray := prog_2_method_17_code
def yX0_isWell : MethodName := ⟨RX0, "isWell", "(III)Z"⟩
abbrev cX0_foodOnes : ByteArray := prog_2_method_18_code
def yX0_foodOnes : MethodName := ⟨RX0, "foodOnes", "()I"⟩
abbrev cX0_load : ByteArray := prog_2_method_19_code
def yX0_load : MethodName := ⟨RX0, "load", "(I)I"⟩
abbrev cX0_rainsIn : ByteArray := prog_2_method_20_code
def yX0_rainsIn : MethodName := ⟨RX0, "rainsIn", "(I)Z"⟩
abbrev cX0_mudUnder : ByteArray := prog_2_method_21_code
def yX0_mudUnder : MethodName := ⟨RX0, "mudUnder", "(IZ)I"⟩
abbrev cX0_minutesOver : ByteArray := prog_2_method_22_code
def yX0_minutesOver : MethodName := ⟨RX0, "minutesOver", "(IIZ)I"⟩
abbrev cX0_isIn : ByteArray := prog_2_method_23_code
def yX0_isIn : MethodName := ⟨RX0, "isIn", "(II)Z"⟩
def RX1 : String := "PortageTrips$Readings"
def TX1 : u_T := fun k => match k with
  | 0 => ("PortageTrips$Readings", "count", "I", false)
  | 1 => ("PortageTrips$Readings", "seen", "[I", true)
  | 2 => ("PortageTrips$Readings", "spots", "[I", true)
  | _ => ("PortageTrips$Readings", "minutes", "[I", true)
def tyX1 : Nat → FieldType := fun k => match k with
  | 0 => .int
  | 1 => .array .int
  | 2 => .array .int
  | _ => .array .int
abbrev wsX10 : List Cond := u_ws RX1 TX1 4
theorem nmX1 : ∀ a, a < 4 → ∀ b, b < 4 → a ≠ b → (TX1 a).2.1 ≠ (TX1 b).2.1 := by decide +kernel
theorem tyX1_ok : ∀ k, k < 4 → parseFieldDescriptor (TX1 k).2.2.1 = some (tyX1 k) := by decide +kernel
abbrev cX1_init : ByteArray := prog_3_method_1_code
def yX1_init : MethodName := ⟨RX1, "<init>", "()V"⟩
abbrev cX1_add : ByteArray := prog_3_method_2_code
def yX1_add : MethodName := ⟨RX1, "add", "(III)I"⟩
abbrev cX1_areSoBy : ByteArray := prog_3_method_3_code
def yX1_areSoBy : MethodName := ⟨RX1, "areSoBy", "(LPortageTrips$Walk;)Z"⟩
def RX2 : String := "PortageTrips$Search"
def TX2 : u_T := fun k => match k with
  | 0 => ("PortageTrips$Search", "things", "I", false)
  | 1 => ("PortageTrips$Search", "last", "I", false)
  | 2 => ("PortageTrips$Search", "goal", "I", false)
  | 3 => ("PortageTrips$Search", "wetFrom", "I", false)
  | 4 => ("PortageTrips$Search", "mayGo", "[Z", true)
  | 5 => ("PortageTrips$Search", "mayStay", "[Z", true)
  | 6 => ("PortageTrips$Search", "strides", "[I", true)
  | 7 => ("PortageTrips$Search", "takes", "[I", true)
  | 8 => ("PortageTrips$Search", "reach", "[I", true)
  | 9 => ("PortageTrips$Search", "order", "[I", true)
  | 10 => ("PortageTrips$Search", "settled", "I", false)
  | 11 => ("PortageTrips$Search", "waiting", "I", false)
  | 12 => ("PortageTrips$Search", "firsts", "[I", true)
  | 13 => ("PortageTrips$Search", "nexts", "[I", true)
  | 14 => ("PortageTrips$Search", "formers", "[I", true)
  | _ => ("PortageTrips$Search", "tripsLeft", "[I", true)
def tyX2 : Nat → FieldType := fun k => match k with
  | 0 => .int
  | 1 => .int
  | 2 => .int
  | 3 => .int
  | 4 => .array .boolean
  | 5 => .array .boolean
  | 6 => .array .int
  | 7 => .array .int
  | 8 => .array .int
  | 9 => .array .int
  | 10 => .int
  | 11 => .int
  | 12 => .array .int
  | 13 => .array .int
  | 14 => .array .int
  | _ => .array .int
abbrev wsX20 : List Cond := u_ws RX2 TX2 16
theorem nmX2 : ∀ a, a < 16 → ∀ b, b < 16 → a ≠ b → (TX2 a).2.1 ≠ (TX2 b).2.1 := by decide +kernel
theorem tyX2_ok : ∀ k, k < 16 → parseFieldDescriptor (TX2 k).2.2.1 = some (tyX2 k) := by decide +kernel
abbrev cX2_init : ByteArray := prog_4_method_1_code
def yX2_init : MethodName := ⟨RX2, "<init>", "()V"⟩
abbrev cX2_least : ByteArray := prog_4_method_2_code
def yX2_least : MethodName := ⟨RX2, "least", "(LPortageTrips$Portage;Z)I"⟩
abbrev cX2_prepare : ByteArray := prog_4_method_3_code
def yX2_prepare : MethodName := ⟨RX2, "prepare", "(LPortageTrips$Portage;Z)V"⟩
abbrev cX2_prepareSet : ByteArray := prog_4_method_4_code
def yX2_prepareSet : MethodName := ⟨RX2, "prepareSet", "(LPortageTrips$Portage;IZ)V"⟩
abbrev cX2_settleAll : ByteArray := prog_4_method_5_code
def yX2_settleAll : MethodName := ⟨RX2, "settleAll", "(I)V"⟩
abbrev cX2_spread : ByteArray := prog_4_method_6_code
def yX2_spread : MethodName := ⟨RX2, "spread", "(II)V"⟩
abbrev cX2_thingsHere : ByteArray := prog_4_method_7_code
def yX2_thingsHere : MethodName := ⟨RX2, "thingsHere", "(I)I"⟩
abbrev cX2_spotBehind : ByteArray := prog_4_method_8_code
def yX2_spotBehind : MethodName := ⟨RX2, "spotBehind", "(II)I"⟩
abbrev cX2_stateBehind : ByteArray := prog_4_method_9_code
def yX2_stateBehind : MethodName := ⟨RX2, "stateBehind", "(III)I"⟩
abbrev cX2_minutesOf : ByteArray := prog_4_method_10_code
def yX2_minutesOf : MethodName := ⟨RX2, "minutesOf", "(III)I"⟩
abbrev cX2_offer : ByteArray := prog_4_method_11_code
def yX2_offer : MethodName := ⟨RX2, "offer", "(II)V"⟩
abbrev cX2_takeOut : ByteArray := prog_4_method_12_code
def yX2_takeOut : MethodName := ⟨RX2, "takeOut", "(I)V"⟩
abbrev cX2_layRow : ByteArray := prog_4_method_13_code
def yX2_layRow : MethodName := ⟨RX2, "layRow", "([I)I"⟩
abbrev cX2_countTripsLeft : ByteArray := prog_4_method_14_code
def yX2_countTripsLeft : MethodName := ⟨RX2, "countTripsLeft", "()V"⟩
abbrev cX2_bestMove : ByteArray := prog_4_method_15_code
def yX2_bestMove : MethodName := ⟨RX2, "bestMove", "(I)I"⟩
abbrev cX2_isInTime : ByteArray := prog_4_method_16_code
def yX2_isInTime : MethodName := ⟨RX2, "isInTime", "(III)Z"⟩
def RX3 : String := "PortageTrips$Sheet"
def TX3 : u_T := fun k => match k with
  | 0 => ("PortageTrips$Sheet", "lane", "I", false)
  | 1 => ("PortageTrips$Sheet", "size", "I", false)
  | _ => ("PortageTrips$Sheet", "cells", "[I", true)
def tyX3 : Nat → FieldType := fun k => match k with
  | 0 => .int
  | 1 => .int
  | _ => .array .int
abbrev wsX30 : List Cond := u_ws RX3 TX3 3
theorem nmX3 : ∀ a, a < 3 → ∀ b, b < 3 → a ≠ b → (TX3 a).2.1 ≠ (TX3 b).2.1 := by decide +kernel
theorem tyX3_ok : ∀ k, k < 3 → parseFieldDescriptor (TX3 k).2.2.1 = some (tyX3 k) := by decide +kernel
abbrev cX3_init : ByteArray := prog_5_method_1_code
def yX3_init : MethodName := ⟨RX3, "<init>", "()V"⟩
abbrev cX3_renew : ByteArray := prog_5_method_2_code
def yX3_renew : MethodName := ⟨RX3, "renew", "(II)V"⟩
abbrev cX3_isNothing : ByteArray := prog_5_method_3_code
def yX3_isNothing : MethodName := ⟨RX3, "isNothing", "()Z"⟩
abbrev cX3_faultAs : ByteArray := prog_5_method_4_code
def yX3_faultAs : MethodName := ⟨RX3, "faultAs", "(I)I"⟩
abbrev cX3_hasCell : ByteArray := prog_5_method_5_code
def yX3_hasCell : MethodName := ⟨RX3, "hasCell", "(I)Z"⟩
abbrev cX3_hasCells : ByteArray := prog_5_method_6_code
def yX3_hasCells : MethodName := ⟨RX3, "hasCells", "(II)Z"⟩
abbrev cX3_write : ByteArray := prog_5_method_7_code
def yX3_write : MethodName := ⟨RX3, "write", "(II)V"⟩
def RX4 : String := "PortageTrips$Walk"
def TX4 : u_T := fun k => match k with
  | 0 => ("PortageTrips$Walk", "count", "I", false)
  | 1 => ("PortageTrips$Walk", "spots", "[I", true)
  | 2 => ("PortageTrips$Walk", "sets", "[I", true)
  | 3 => ("PortageTrips$Walk", "begins", "[I", true)
  | 4 => ("PortageTrips$Walk", "heaps", "[I", true)
  | 5 => ("PortageTrips$Walk", "spot", "I", false)
  | 6 => ("PortageTrips$Walk", "wrong", "I", false)
  | 7 => ("PortageTrips$Walk", "upper", "J", false)
  | _ => ("PortageTrips$Walk", "lower", "J", false)
def tyX4 : Nat → FieldType := fun k => match k with
  | 0 => .int
  | 1 => .array .int
  | 2 => .array .int
  | 3 => .array .int
  | 4 => .array .int
  | 5 => .int
  | 6 => .int
  | 7 => .long
  | _ => .long
abbrev wsX40 : List Cond := u_ws RX4 TX4 9
theorem nmX4 : ∀ a, a < 9 → ∀ b, b < 9 → a ≠ b → (TX4 a).2.1 ≠ (TX4 b).2.1 := by decide +kernel
theorem tyX4_ok : ∀ k, k < 9 → parseFieldDescriptor (TX4 k).2.2.1 = some (tyX4 k) := by decide +kernel
abbrev cX4_init : ByteArray := prog_6_method_1_code
def yX4_init : MethodName := ⟨RX4, "<init>", "()V"⟩
abbrev cX4_add : ByteArray := prog_6_method_2_code
def yX4_add : MethodName := ⟨RX4, "add", "(II)V"⟩
abbrev cX4_go : ByteArray := prog_6_method_3_code
def yX4_go : MethodName := ⟨RX4, "go", "(LPortageTrips$Portage;)V"⟩
abbrev cX4_canGo : ByteArray := prog_6_method_4_code
def yX4_canGo : MethodName := ⟨RX4, "canGo", "(LPortageTrips$Portage;I)Z"⟩
abbrev cX4_goOne : ByteArray := prog_6_method_5_code
def yX4_goOne : MethodName := ⟨RX4, "goOne", "(LPortageTrips$Portage;I)V"⟩
abbrev cX4_cutShare : ByteArray := prog_6_method_6_code
def yX4_cutShare : MethodName := ⟨RX4, "cutShare", "()V"⟩
abbrev cX4_minutes : ByteArray := prog_6_method_7_code
def yX4_minutes : MethodName := ⟨RX4, "minutes", "()I"⟩
abbrev cX4_thingsAt : ByteArray := prog_6_method_8_code
def yX4_thingsAt : MethodName := ⟨RX4, "thingsAt", "(I)I"⟩
abbrev cX4_spotOf : ByteArray := prog_6_method_9_code
def yX4_spotOf : MethodName := ⟨RX4, "spotOf", "(II)I"⟩
def RX5 : String := "PortageTrips"
def TX5 : u_T := fun k => match k with
  | 0 => ("PortageTrips", "portage", "LPortageTrips$Portage;", true)
  | 1 => ("PortageTrips", "draft", "LPortageTrips$Portage;", true)
  | 2 => ("PortageTrips", "sheets", "[LPortageTrips$Sheet;", true)
  | 3 => ("PortageTrips", "readings", "LPortageTrips$Readings;", true)
  | 4 => ("PortageTrips", "walk", "LPortageTrips$Walk;", true)
  | 5 => ("PortageTrips", "search", "LPortageTrips$Search;", true)
  | 6 => ("PortageTrips", "plan", "[I", true)
  | 7 => ("PortageTrips", "planMinutes", "I", false)
  | 8 => ("PortageTrips", "planTrips", "I", false)
  | 9 => ("PortageTrips", "planIsKnown", "Z", false)
  | 10 => ("PortageTrips", "fewestTrips", "I", false)
  | 11 => ("PortageTrips", "fewestIsKnown", "Z", false)
  | 12 => ("PortageTrips", "traceNow", "I", false)
  | _ => ("PortageTrips", "faultNow", "I", false)
def tyX5 : Nat → FieldType := fun k => match k with
  | 0 => .object "PortageTrips$Portage"
  | 1 => .object "PortageTrips$Portage"
  | 2 => .array (.object "PortageTrips$Sheet")
  | 3 => .object "PortageTrips$Readings"
  | 4 => .object "PortageTrips$Walk"
  | 5 => .object "PortageTrips$Search"
  | 6 => .array .int
  | 7 => .int
  | 8 => .int
  | 9 => .boolean
  | 10 => .int
  | 11 => .boolean
  | 12 => .int
  | _ => .int
abbrev wsX50 : List Cond := u_ws RX5 TX5 14
theorem nmX5 : ∀ a, a < 14 → ∀ b, b < 14 → a ≠ b → (TX5 a).2.1 ≠ (TX5 b).2.1 := by decide +kernel
theorem tyX5_ok : ∀ k, k < 14 → parseFieldDescriptor (TX5 k).2.2.1 = some (tyX5 k) := by decide +kernel
abbrev cX5_init : ByteArray := prog_1_method_1_code
def yX5_init : MethodName := ⟨RX5, "<init>", "()V"⟩
abbrev cX5_portage : ByteArray := prog_1_method_2_code
def yX5_portage : MethodName := ⟨RX5, "portage", "(IIII)I"⟩
abbrev cX5_ofStage : ByteArray := prog_1_method_3_code
def yX5_ofStage : MethodName := ⟨RX5, "ofStage", "(II)I"⟩
abbrev cX5_ofThing : ByteArray := prog_1_method_4_code
def yX5_ofThing : MethodName := ⟨RX5, "ofThing", "(II)I"⟩
abbrev cX5_bears : ByteArray := prog_1_method_5_code
def yX5_bears : MethodName := ⟨RX5, "bears", "(I)I"⟩
abbrev cX5_rain : ByteArray := prog_1_method_6_code
def yX5_rain : MethodName := ⟨RX5, "rain", "(I)I"⟩
abbrev cX5_boards : ByteArray := prog_1_method_7_code
def yX5_boards : MethodName := ⟨RX5, "boards", "(IZ)I"⟩
abbrev cX5_well : ByteArray := prog_1_method_8_code
def yX5_well : MethodName := ⟨RX5, "well", "(I)I"⟩
abbrev cX5_trips : ByteArray := prog_1_method_9_code
def yX5_trips : MethodName := ⟨RX5, "trips", "(IIIII)I"⟩
abbrev cX5_at : ByteArray := prog_1_method_10_code
def yX5_at : MethodName := ⟨RX5, "at", "(IIIIII)I"⟩
abbrev cX5_dry : ByteArray := prog_1_method_11_code
def yX5_dry : MethodName := ⟨RX5, "dry", "(IIIII)J"⟩
abbrev cX5_takeTrips : ByteArray := prog_1_method_12_code
def yX5_takeTrips : MethodName := ⟨RX5, "takeTrips", "(IIIIZ)I"⟩
abbrev cX5_soonest : ByteArray := prog_1_method_13_code
def yX5_soonest : MethodName := ⟨RX5, "soonest", "()I"⟩
abbrev cX5_trip : ByteArray := prog_1_method_14_code
def yX5_trip : MethodName := ⟨RX5, "trip", "(II)I"⟩
abbrev cX5_fewest : ByteArray := prog_1_method_15_code
def yX5_fewest : MethodName := ⟨RX5, "fewest", "()I"⟩
abbrev cX5_cost : ByteArray := prog_1_method_16_code
def yX5_cost : MethodName := ⟨RX5, "cost", "(I)I"⟩
abbrev cX5_help : ByteArray := prog_1_method_17_code
def yX5_help : MethodName := ⟨RX5, "help", "(I)I"⟩
abbrev cX5_makePlan : ByteArray := prog_1_method_18_code
def yX5_makePlan : MethodName := ⟨RX5, "makePlan", "()V"⟩
abbrev cX5_forgetSearches : ByteArray := prog_1_method_19_code
def yX5_forgetSearches : MethodName := ⟨RX5, "forgetSearches", "()V"⟩
abbrev cX5_reading : ByteArray := prog_1_method_20_code
def yX5_reading : MethodName := ⟨RX5, "reading", "(III)I"⟩
abbrev cX5_back : ByteArray := prog_1_method_21_code
def yX5_back : MethodName := ⟨RX5, "back", "(I)I"⟩
abbrev cX5_since : ByteArray := prog_1_method_22_code
def yX5_since : MethodName := ⟨RX5, "since", "(IIII)I"⟩
abbrev cX5_kinds : ByteArray := prog_1_method_23_code
def yX5_kinds : MethodName := ⟨RX5, "kinds", "(IIIII)I"⟩
abbrev cX5_draftIsAsRead : ByteArray := prog_1_method_24_code
def yX5_draftIsAsRead : MethodName := ⟨RX5, "draftIsAsRead", "()Z"⟩
abbrev cX5_sheet : ByteArray := prog_1_method_25_code
def yX5_sheet : MethodName := ⟨RX5, "sheet", "(III)I"⟩
abbrev cX5_lose : ByteArray := prog_1_method_26_code
def yX5_lose : MethodName := ⟨RX5, "lose", "(I)I"⟩
abbrev cX5_put : ByteArray := prog_1_method_27_code
def yX5_put : MethodName := ⟨RX5, "put", "(III)I"⟩
abbrev cX5_cell : ByteArray := prog_1_method_28_code
def yX5_cell : MethodName := ⟨RX5, "cell", "(III)J"⟩
abbrev cX5_copy : ByteArray := prog_1_method_29_code
def yX5_copy : MethodName := ⟨RX5, "copy", "(IIIII)I"⟩
abbrev cX5_tell : ByteArray := prog_1_method_30_code
def yX5_tell : MethodName := ⟨RX5, "tell", "(I)I"⟩
abbrev cX5_hail : ByteArray := prog_1_method_31_code
def yX5_hail : MethodName := ⟨RX5, "hail", "(I)I"⟩
abbrev cX5_as : ByteArray := prog_1_method_32_code
def yX5_as : MethodName := ⟨RX5, "as", "(II)I"⟩
abbrev cX5_trace : ByteArray := prog_1_method_33_code
def yX5_trace : MethodName := ⟨RX5, "trace", "()I"⟩
abbrev cX5_fault : ByteArray := prog_1_method_34_code
def yX5_fault : MethodName := ⟨RX5, "fault", "()I"⟩
abbrev cX5_many : ByteArray := prog_1_method_35_code
def yX5_many : MethodName := ⟨RX5, "many", "(I)I"⟩
abbrev cX5_tellAsThing : ByteArray := prog_1_method_36_code
def yX5_tellAsThing : MethodName := ⟨RX5, "tellAsThing", "(I)I"⟩
abbrev cX5_tellAsFood : ByteArray := prog_1_method_37_code
def yX5_tellAsFood : MethodName := ⟨RX5, "tellAsFood", "(I)I"⟩
abbrev cX5_tellAsChild : ByteArray := prog_1_method_38_code
def yX5_tellAsChild : MethodName := ⟨RX5, "tellAsChild", "(I)I"⟩
abbrev cX5_leave : ByteArray := prog_1_method_39_code
def yX5_leave : MethodName := ⟨RX5, "leave", "(I)V"⟩
abbrev cX5_faulted : ByteArray := prog_1_method_40_code
def yX5_faulted : MethodName := ⟨RX5, "faulted", "(I)I"⟩
abbrev cX5_isSheet : ByteArray := prog_1_method_41_code
def yX5_isSheet : MethodName := ⟨RX5, "isSheet", "(I)Z"⟩
abbrev cX5_isLane : ByteArray := prog_1_method_42_code
def yX5_isLane : MethodName := ⟨RX5, "isLane", "(I)Z"⟩
def RX6 : String := "PortageTripsModel"
def TX6 : u_T := fun k => match k with
  | 0 => ("PortageTripsModel", "fault", "I", false)
  | 1 => ("PortageTripsModel", "trace", "I", false)
  | 2 => ("PortageTripsModel", "sorts", "[I", true)
  | 3 => ("PortageTripsModel", "sheetLong", "[I", true)
  | 4 => ("PortageTripsModel", "cells", "[I", true)
  | 5 => ("PortageTripsModel", "bears", "I", false)
  | 6 => ("PortageTripsModel", "stages", "I", false)
  | 7 => ("PortageTripsModel", "things", "I", false)
  | 8 => ("PortageTripsModel", "rainFrom", "I", false)
  | 9 => ("PortageTripsModel", "far", "[I", true)
  | 10 => ("PortageTripsModel", "mud", "[I", true)
  | 11 => ("PortageTripsModel", "isBoarded", "[Z", true)
  | 12 => ("PortageTripsModel", "kind", "[I", true)
  | 13 => ("PortageTripsModel", "pounds", "[I", true)
  | 14 => ("PortageTripsModel", "missing", "I", false)
  | 15 => ("PortageTripsModel", "at", "I", false)
  | 16 => ("PortageTripsModel", "readBears", "I", false)
  | 17 => ("PortageTripsModel", "readStages", "I", false)
  | 18 => ("PortageTripsModel", "readThings", "I", false)
  | 19 => ("PortageTripsModel", "readStage", "[I", true)
  | 20 => ("PortageTripsModel", "readThing", "[I", true)
  | 21 => ("PortageTripsModel", "trips", "I", false)
  | 22 => ("PortageTripsModel", "tripTo", "[I", true)
  | 23 => ("PortageTripsModel", "tripSet", "[I", true)
  | 24 => ("PortageTripsModel", "tripBegins", "[I", true)
  | 25 => ("PortageTripsModel", "tripEnds", "[I", true)
  | 26 => ("PortageTripsModel", "allNow", "I", false)
  | 27 => ("PortageTripsModel", "minuteNow", "I", false)
  | 28 => ("PortageTripsModel", "dryUp", "J", false)
  | 29 => ("PortageTripsModel", "dryDown", "J", false)
  | 30 => ("PortageTripsModel", "soonestOf", "[I", true)
  | 31 => ("PortageTripsModel", "leftOf", "[I", true)
  | 32 => ("PortageTripsModel", "nextTo", "I", false)
  | 33 => ("PortageTripsModel", "nextSet", "I", false)
  | 34 => ("PortageTripsModel", "readings", "I", false)
  | 35 => ("PortageTripsModel", "readThingOf", "[I", true)
  | 36 => ("PortageTripsModel", "readSpot", "[I", true)
  | _ => ("PortageTripsModel", "readMinute", "[I", true)
def tyX6 : Nat → FieldType := fun k => match k with
  | 0 => .int
  | 1 => .int
  | 2 => .array .int
  | 3 => .array .int
  | 4 => .array .int
  | 5 => .int
  | 6 => .int
  | 7 => .int
  | 8 => .int
  | 9 => .array .int
  | 10 => .array .int
  | 11 => .array .boolean
  | 12 => .array .int
  | 13 => .array .int
  | 14 => .int
  | 15 => .int
  | 16 => .int
  | 17 => .int
  | 18 => .int
  | 19 => .array .int
  | 20 => .array .int
  | 21 => .int
  | 22 => .array .int
  | 23 => .array .int
  | 24 => .array .int
  | 25 => .array .int
  | 26 => .int
  | 27 => .int
  | 28 => .long
  | 29 => .long
  | 30 => .array .int
  | 31 => .array .int
  | 32 => .int
  | 33 => .int
  | 34 => .int
  | 35 => .array .int
  | 36 => .array .int
  | _ => .array .int
abbrev wsX60 : List Cond := u_ws RX6 TX6 38
theorem nmX6 : ∀ a, a < 38 → ∀ b, b < 38 → a ≠ b → (TX6 a).2.1 ≠ (TX6 b).2.1 := by decide +kernel
theorem tyX6_ok : ∀ k, k < 38 → parseFieldDescriptor (TX6 k).2.2.1 = some (tyX6 k) := by decide +kernel
abbrev cX6_init : ByteArray := prog_8_method_1_code
def yX6_init : MethodName := ⟨RX6, "<init>", "()V"⟩
abbrev cX6_fails : ByteArray := prog_8_method_3_code
def yX6_fails : MethodName := ⟨RX6, "fails", "(I)I"⟩
abbrev cX6_lost : ByteArray := prog_8_method_4_code
def yX6_lost : MethodName := ⟨RX6, "lost", "(I)J"⟩
abbrev cX6_within : ByteArray := prog_8_method_5_code
def yX6_within : MethodName := ⟨RX6, "within", "(III)Z"⟩
abbrev cX6_isSheet : ByteArray := prog_8_method_6_code
def yX6_isSheet : MethodName := ⟨RX6, "isSheet", "(I)Z"⟩
abbrev cX6_isSort : ByteArray := prog_8_method_7_code
def yX6_isSort : MethodName := ⟨RX6, "isSort", "(I)Z"⟩
abbrev cX6_against : ByteArray := prog_8_method_8_code
def yX6_against : MethodName := ⟨RX6, "against", "(IIII)I"⟩
abbrev cX6_isStage : ByteArray := prog_8_method_9_code
def yX6_isStage : MethodName := ⟨RX6, "isStage", "(I)Z"⟩
abbrev cX6_isThing : ByteArray := prog_8_method_10_code
def yX6_isThing : MethodName := ⟨RX6, "isThing", "(I)Z"⟩
abbrev cX6_isSpot : ByteArray := prog_8_method_11_code
def yX6_isSpot : MethodName := ⟨RX6, "isSpot", "(I)Z"⟩
abbrev cX6_allThings : ByteArray := prog_8_method_12_code
def yX6_allThings : MethodName := ⟨RX6, "allThings", "()I"⟩
abbrev cX6_digit : ByteArray := prog_8_method_13_code
def yX6_digit : MethodName := ⟨RX6, "digit", "(III)I"⟩
abbrev cX6_isSign : ByteArray := prog_8_method_14_code
def yX6_isSign : MethodName := ⟨RX6, "isSign", "(II)Z"⟩
abbrev cX6_portage : ByteArray := prog_8_method_15_code
def yX6_portage : MethodName := ⟨RX6, "portage", "(IIII)I"⟩
abbrev cX6_readAll : ByteArray := prog_8_method_16_code
def yX6_readAll : MethodName := ⟨RX6, "readAll", "(I)Z"⟩
abbrev cX6_readOneStage : ByteArray := prog_8_method_17_code
def yX6_readOneStage : MethodName := ⟨RX6, "readOneStage", "(I)Z"⟩
abbrev cX6_readOneThing : ByteArray := prog_8_method_18_code
def yX6_readOneThing : MethodName := ⟨RX6, "readOneThing", "(I)Z"⟩
abbrev cX6_ofStage : ByteArray := prog_8_method_19_code
def yX6_ofStage : MethodName := ⟨RX6, "ofStage", "(II)I"⟩
abbrev cX6_ofThing : ByteArray := prog_8_method_20_code
def yX6_ofThing : MethodName := ⟨RX6, "ofThing", "(II)I"⟩
abbrev cX6_bears : ByteArray := prog_8_method_21_code
def yX6_bears : MethodName := ⟨RX6, "bears", "(I)I"⟩
abbrev cX6_rain : ByteArray := prog_8_method_22_code
def yX6_rain : MethodName := ⟨RX6, "rain", "(I)I"⟩
abbrev cX6_boards : ByteArray := prog_8_method_23_code
def yX6_boards : MethodName := ⟨RX6, "boards", "(IZ)I"⟩
abbrev cX6_isWell : ByteArray := prog_8_method_24_code
def yX6_isWell : MethodName := ⟨RX6, "isWell", "(II)Z"⟩
abbrev cX6_wellOf : ByteArray := prog_8_method_25_code
def yX6_wellOf : MethodName := ⟨RX6, "wellOf", "(I)I"⟩
abbrev cX6_well : ByteArray := prog_8_method_26_code
def yX6_well : MethodName := ⟨RX6, "well", "(I)I"⟩
abbrev cX6_thingsAt : ByteArray := prog_8_method_27_code
def yX6_thingsAt : MethodName := ⟨RX6, "thingsAt", "(II)I"⟩
abbrev cX6_poundsOf : ByteArray := prog_8_method_28_code
def yX6_poundsOf : MethodName := ⟨RX6, "poundsOf", "(I)I"⟩
abbrev cX6_mayGo : ByteArray := prog_8_method_29_code
def yX6_mayGo : MethodName := ⟨RX6, "mayGo", "(III)Z"⟩
abbrev cX6_gone : ByteArray := prog_8_method_30_code
def yX6_gone : MethodName := ⟨RX6, "gone", "(III)I"⟩
abbrev cX6_stageOf : ByteArray := prog_8_method_31_code
def yX6_stageOf : MethodName := ⟨RX6, "stageOf", "(II)I"⟩
abbrev cX6_mudOf : ByteArray := prog_8_method_32_code
def yX6_mudOf : MethodName := ⟨RX6, "mudOf", "(II)I"⟩
abbrev cX6_takes : ByteArray := prog_8_method_33_code
def yX6_takes : MethodName := ⟨RX6, "takes", "(IIII)I"⟩
abbrev cX6_layTrips : ByteArray := prog_8_method_34_code
def yX6_layTrips : MethodName := ⟨RX6, "layTrips", "(IIII)I"⟩
abbrev cX6_go : ByteArray := prog_8_method_35_code
def yX6_go : MethodName := ⟨RX6, "go", "()I"⟩
abbrev cX6_arePairs : ByteArray := prog_8_method_36_code
def yX6_arePairs : MethodName := ⟨RX6, "arePairs", "(II)Z"⟩
abbrev cX6_trips : ByteArray := prog_8_method_37_code
def yX6_trips : MethodName := ⟨RX6, "trips", "(IIIII)I"⟩
abbrev cX6_spotAt : ByteArray := prog_8_method_38_code
def yX6_spotAt : MethodName := ⟨RX6, "spotAt", "(II)I"⟩
abbrev cX6_at : ByteArray := prog_8_method_39_code
def yX6_at : MethodName := ⟨RX6, "at", "(IIIIII)I"⟩
abbrev cX6_inLeastTerms : ByteArray := prog_8_method_40_code
def yX6_inLeastTerms : MethodName := ⟨RX6, "inLeastTerms", "(JJI)J"⟩
abbrev cX6_dry : ByteArray := prog_8_method_41_code
def yX6_dry : MethodName := ⟨RX6, "dry", "(IIIII)J"⟩
abbrev cX6_end : ByteArray := prog_8_method_42_code
def yX6_end : MethodName := ⟨RX6, "end", "()I"⟩
abbrev cX6_relax : ByteArray := prog_8_method_43_code
def yX6_relax : MethodName := ⟨RX6, "relax", "(III)Z"⟩
abbrev cX6_laySoonest : ByteArray := prog_8_method_44_code
def yX6_laySoonest : MethodName := ⟨RX6, "laySoonest", "()V"⟩
abbrev cX6_soonestNow : ByteArray := prog_8_method_45_code
def yX6_soonestNow : MethodName := ⟨RX6, "soonestNow", "()I"⟩
abbrev cX6_soonest : ByteArray := prog_8_method_46_code
def yX6_soonest : MethodName := ⟨RX6, "soonest", "()I"⟩
abbrev cX6_isTight : ByteArray := prog_8_method_47_code
def yX6_isTight : MethodName := ⟨RX6, "isTight", "(III)Z"⟩
abbrev cX6_shorten : ByteArray := prog_8_method_48_code
def yX6_shorten : MethodName := ⟨RX6, "shorten", "(III)Z"⟩
abbrev cX6_layLeft : ByteArray := prog_8_method_49_code
def yX6_layLeft : MethodName := ⟨RX6, "layLeft", "()V"⟩
abbrev cX6_isNext : ByteArray := prog_8_method_50_code
def yX6_isNext : MethodName := ⟨RX6, "isNext", "(III)Z"⟩
abbrev cX6_findNext : ByteArray := prog_8_method_51_code
def yX6_findNext : MethodName := ⟨RX6, "findNext", "(I)V"⟩
abbrev cX6_trip : ByteArray := prog_8_method_52_code
def yX6_trip : MethodName := ⟨RX6, "trip", "(II)I"⟩
abbrev cX6_spread : ByteArray := prog_8_method_53_code
def yX6_spread : MethodName := ⟨RX6, "spread", "(III)Z"⟩
abbrev cX6_fewest : ByteArray := prog_8_method_54_code
def yX6_fewest : MethodName := ⟨RX6, "fewest", "()I"⟩
abbrev cX6_cost : ByteArray := prog_8_method_55_code
def yX6_cost : MethodName := ⟨RX6, "cost", "(I)I"⟩
abbrev cX6_help : ByteArray := prog_8_method_56_code
def yX6_help : MethodName := ⟨RX6, "help", "(I)I"⟩
abbrev cX6_reading : ByteArray := prog_8_method_57_code
def yX6_reading : MethodName := ⟨RX6, "reading", "(III)I"⟩
abbrev cX6_back : ByteArray := prog_8_method_58_code
def yX6_back : MethodName := ⟨RX6, "back", "(I)I"⟩
abbrev cX6_areSo : ByteArray := prog_8_method_59_code
def yX6_areSo : MethodName := ⟨RX6, "areSo", "()Z"⟩
abbrev cX6_since : ByteArray := prog_8_method_60_code
def yX6_since : MethodName := ⟨RX6, "since", "(IIII)I"⟩
abbrev cX6_kinds : ByteArray := prog_8_method_61_code
def yX6_kinds : MethodName := ⟨RX6, "kinds", "(IIIII)I"⟩
abbrev cX6_sheet : ByteArray := prog_8_method_62_code
def yX6_sheet : MethodName := ⟨RX6, "sheet", "(III)I"⟩
abbrev cX6_lose : ByteArray := prog_8_method_63_code
def yX6_lose : MethodName := ⟨RX6, "lose", "(I)I"⟩
abbrev cX6_put : ByteArray := prog_8_method_64_code
def yX6_put : MethodName := ⟨RX6, "put", "(III)I"⟩
abbrev cX6_cell : ByteArray := prog_8_method_65_code
def yX6_cell : MethodName := ⟨RX6, "cell", "(III)J"⟩
abbrev cX6_copy : ByteArray := prog_8_method_66_code
def yX6_copy : MethodName := ⟨RX6, "copy", "(IIIII)I"⟩
abbrev cX6_begins : ByteArray := prog_8_method_67_code
def yX6_begins : MethodName := ⟨RX6, "begins", "(I)V"⟩
abbrev cX6_tell : ByteArray := prog_8_method_68_code
def yX6_tell : MethodName := ⟨RX6, "tell", "(I)I"⟩
abbrev cX6_hail : ByteArray := prog_8_method_69_code
def yX6_hail : MethodName := ⟨RX6, "hail", "(I)I"⟩
abbrev cX6_as : ByteArray := prog_8_method_70_code
def yX6_as : MethodName := ⟨RX6, "as", "(II)I"⟩
abbrev cX6_trace : ByteArray := prog_8_method_71_code
def yX6_trace : MethodName := ⟨RX6, "trace", "()I"⟩
abbrev cX6_fault : ByteArray := prog_8_method_72_code
def yX6_fault : MethodName := ⟨RX6, "fault", "()I"⟩
abbrev cX6_many : ByteArray := prog_8_method_73_code
def yX6_many : MethodName := ⟨RX6, "many", "(I)I"⟩
def RJ9 : String := "java/lang/Math"
def TJ9 : u_T := fun k => match k with
  | _ => ("", "", "", false)
def tyJ9 : Nat → FieldType := fun k => match k with
  | _ => .int
abbrev wsJ90 : List Cond := u_ws RJ9 TJ9 0
theorem nmJ9 : ∀ a, a < 0 → ∀ b, b < 0 → a ≠ b → (TJ9 a).2.1 ≠ (TJ9 b).2.1 := by decide +kernel
theorem tyJ9_ok : ∀ k, k < 0 → parseFieldDescriptor (TJ9 k).2.2.1 = some (tyJ9 k) := by decide +kernel
abbrev cJ9_abs_0f7a4 : ByteArray := prog_9_method_59_code
def yJ9_abs_0f7a4 : MethodName := ⟨RJ9, "abs", "(I)I"⟩
abbrev cJ9_min_7cf53 : ByteArray := prog_9_method_69_code
def yJ9_min_7cf53 : MethodName := ⟨RJ9, "min", "(II)I"⟩
def RJ10 : String := "java/lang/System"
def TJ10 : u_T := fun k => match k with
  | _ => ("", "", "", false)
def tyJ10 : Nat → FieldType := fun k => match k with
  | _ => .int
abbrev wsJ100 : List Cond := u_ws RJ10 TJ10 0
theorem nmJ10 : ∀ a, a < 0 → ∀ b, b < 0 → a ≠ b → (TJ10 a).2.1 ≠ (TJ10 b).2.1 := by decide +kernel
theorem tyJ10_ok : ∀ k, k < 0 → parseFieldDescriptor (TJ10 k).2.2.1 = some (tyJ10 k) := by decide +kernel
def RJ7 : String := "java/util/Arrays"
def TJ7 : u_T := fun k => match k with
  | _ => ("", "", "", false)
def tyJ7 : Nat → FieldType := fun k => match k with
  | _ => .int
abbrev wsJ70 : List Cond := u_ws RJ7 TJ7 0
theorem nmJ7 : ∀ a, a < 0 → ∀ b, b < 0 → a ≠ b → (TJ7 a).2.1 ≠ (TJ7 b).2.1 := by decide +kernel
theorem tyJ7_ok : ∀ k, k < 0 → parseFieldDescriptor (TJ7 k).2.2.1 = some (tyJ7 k) := by decide +kernel
abbrev cJ7_fill_53178 : ByteArray := prog_11_method_103_code
def yJ7_fill_53178 : MethodName := ⟨RJ7, "fill", "([II)V"⟩
def RL : String := "PortageTripsLaw"
abbrev cL_law : ByteArray := code
def yL_law : MethodName := ⟨RL, "law", "([I)Z"⟩
abbrev vwCl : List vw_C := [(RX0, TX0, 9), (RX1, TX1, 4), (RX2, TX2, 16), (RX3, TX3, 3), (RX4, TX4, 9), (RX5, TX5, 14), (RX6, TX6, 38)]
abbrev zM : Type := MethodName × ByteArray × Nat × Option FieldType
abbrev mX0_init : zM := (yX0_init, cX0_init, 1, none)
abbrev mX0_isThere : zM := (yX0_isThere, cX0_isThere, 1, (some .boolean))
abbrev mX0_hasStage : zM := (yX0_hasStage, cX0_hasStage, 2, (some .boolean))
abbrev mX0_hasSpot : zM := (yX0_hasSpot, cX0_hasSpot, 2, (some .boolean))
abbrev mX0_hasThing : zM := (yX0_hasThing, cX0_hasThing, 2, (some .boolean))
abbrev mX0_hasAllOf : zM := (yX0_hasAllOf, cX0_hasAllOf, 2, (some .boolean))
abbrev mX0_become : zM := (yX0_become, cX0_become, 3, none)
abbrev mX0_dropThing : zM := (yX0_dropThing, cX0_dropThing, 3, none)
abbrev mX0_clear : zM := (yX0_clear, cX0_clear, 2, none)
abbrev mX0_startPart : zM := (yX0_startPart, cX0_startPart, 2, (some .int))
abbrev mX0_kindOfLetter : zM := (yX0_kindOfLetter, cX0_kindOfLetter, 1, (some .int))
abbrev mX0_readKind : zM := (yX0_readKind, cX0_readKind, 3, (some .int))
abbrev mX0_readDigit : zM := (yX0_readDigit, cX0_readDigit, 4, (some .int))
abbrev mX0_readCode : zM := (yX0_readCode, cX0_readCode, 3, (some .int))
abbrev mX0_readText : zM := (yX0_readText, cX0_readText, 6, (some .int))
abbrev mX0_foodOnes : zM := (yX0_foodOnes, cX0_foodOnes, 3, (some .int))
abbrev mX0_isIn : zM := (yX0_isIn, cX0_isIn, 2, (some .boolean))
abbrev mX0_isWell : zM := (yX0_isWell, cX0_isWell, 3, (some .boolean))
abbrev mX0_wellOnes : zM := (yX0_wellOnes, cX0_wellOnes, 6, (some .int))
abbrev mX0_load : zM := (yX0_load, cX0_load, 4, (some .int))
abbrev mX0_rainsIn : zM := (yX0_rainsIn, cX0_rainsIn, 2, (some .boolean))
abbrev mX0_mudUnder : zM := (yX0_mudUnder, cX0_mudUnder, 3, (some .int))
abbrev mX0_minutesOver : zM := (yX0_minutesOver, cX0_minutesOver, 4, (some .int))
abbrev mX1_init : zM := (yX1_init, cX1_init, 1, none)
abbrev mX1_add : zM := (yX1_add, cX1_add, 4, (some .int))
abbrev mX4_spotOf : zM := (yX4_spotOf, cX4_spotOf, 5, (some .int))
abbrev mX1_areSoBy : zM := (yX1_areSoBy, cX1_areSoBy, 3, (some .boolean))
abbrev mX2_init : zM := (yX2_init, cX2_init, 1, none)
abbrev mX2_prepareSet : zM := (yX2_prepareSet, cX2_prepareSet, 8, none)
abbrev mJ7_fill_53178 : zM := (yJ7_fill_53178, cJ7_fill_53178, 4, none)
abbrev mX2_prepare : zM := (yX2_prepare, cX2_prepare, 4, none)
abbrev mX2_takeOut : zM := (yX2_takeOut, cX2_takeOut, 4, none)
abbrev mX2_offer : zM := (yX2_offer, cX2_offer, 5, none)
abbrev mX2_thingsHere : zM := (yX2_thingsHere, cX2_thingsHere, 5, (some .int))
abbrev mX2_spotBehind : zM := (yX2_spotBehind, cX2_spotBehind, 2, (some .int))
abbrev mX2_stateBehind : zM := (yX2_stateBehind, cX2_stateBehind, 6, (some .int))
abbrev mX2_minutesOf : zM := (yX2_minutesOf, cX2_minutesOf, 6, (some .int))
abbrev mX2_spread : zM := (yX2_spread, cX2_spread, 6, none)
abbrev mX2_settleAll : zM := (yX2_settleAll, cX2_settleAll, 4, none)
abbrev mX2_least : zM := (yX2_least, cX2_least, 4, (some .int))
abbrev mX2_isInTime : zM := (yX2_isInTime, cX2_isInTime, 4, (some .boolean))
abbrev mX2_bestMove : zM := (yX2_bestMove, cX2_bestMove, 7, (some .int))
abbrev mX2_countTripsLeft : zM := (yX2_countTripsLeft, cX2_countTripsLeft, 5, none)
abbrev mX2_layRow : zM := (yX2_layRow, cX2_layRow, 6, (some .int))
abbrev mX3_init : zM := (yX3_init, cX3_init, 1, none)
abbrev mX3_renew : zM := (yX3_renew, cX3_renew, 3, none)
abbrev mX3_isNothing : zM := (yX3_isNothing, cX3_isNothing, 1, (some .boolean))
abbrev mX3_faultAs : zM := (yX3_faultAs, cX3_faultAs, 2, (some .int))
abbrev mX3_hasCell : zM := (yX3_hasCell, cX3_hasCell, 2, (some .boolean))
abbrev mX3_hasCells : zM := (yX3_hasCells, cX3_hasCells, 3, (some .boolean))
abbrev mX3_write : zM := (yX3_write, cX3_write, 3, none)
abbrev mX4_init : zM := (yX4_init, cX4_init, 1, none)
abbrev mX4_add : zM := (yX4_add, cX4_add, 3, none)
abbrev mX4_canGo : zM := (yX4_canGo, cX4_canGo, 5, (some .boolean))
abbrev mX4_goOne : zM := (yX4_goOne, cX4_goOne, 6, none)
abbrev mX4_cutShare : zM := (yX4_cutShare, cX4_cutShare, 8, none)
abbrev mX4_go : zM := (yX4_go, cX4_go, 3, none)
abbrev mX4_minutes : zM := (yX4_minutes, cX4_minutes, 1, (some .int))
abbrev mX4_thingsAt : zM := (yX4_thingsAt, cX4_thingsAt, 2, (some .int))
abbrev mX5_init : zM := (yX5_init, cX5_init, 2, none)
abbrev mX5_isSheet : zM := (yX5_isSheet, cX5_isSheet, 1, (some .boolean))
abbrev mX5_isLane : zM := (yX5_isLane, cX5_isLane, 1, (some .boolean))
abbrev mX5_faulted : zM := (yX5_faulted, cX5_faulted, 2, (some .int))
abbrev mX5_forgetSearches : zM := (yX5_forgetSearches, cX5_forgetSearches, 1, none)
abbrev mX5_portage : zM := (yX5_portage, cX5_portage, 8, (some .int))
abbrev mX5_ofStage : zM := (yX5_ofStage, cX5_ofStage, 3, (some .int))
abbrev mX5_ofThing : zM := (yX5_ofThing, cX5_ofThing, 3, (some .int))
abbrev mX5_bears : zM := (yX5_bears, cX5_bears, 3, (some .int))
abbrev mX5_rain : zM := (yX5_rain, cX5_rain, 3, (some .int))
abbrev mX5_boards : zM := (yX5_boards, cX5_boards, 3, (some .int))
abbrev mX5_well : zM := (yX5_well, cX5_well, 2, (some .int))
abbrev mX5_takeTrips : zM := (yX5_takeTrips, cX5_takeTrips, 11, (some .int))
abbrev mX5_trips : zM := (yX5_trips, cX5_trips, 9, (some .int))
abbrev mX5_at : zM := (yX5_at, cX5_at, 8, (some .int))
abbrev mX5_dry : zM := (yX5_dry, cX5_dry, 6, (some .long))
abbrev mX5_makePlan : zM := (yX5_makePlan, cX5_makePlan, 1, none)
abbrev mX5_soonest : zM := (yX5_soonest, cX5_soonest, 1, (some .int))
abbrev mX5_trip : zM := (yX5_trip, cX5_trip, 3, (some .int))
abbrev mX5_fewest : zM := (yX5_fewest, cX5_fewest, 1, (some .int))
abbrev mX5_cost : zM := (yX5_cost, cX5_cost, 3, (some .int))
abbrev mX5_help : zM := (yX5_help, cX5_help, 3, (some .int))
abbrev mX5_reading : zM := (yX5_reading, cX5_reading, 4, (some .int))
abbrev mX5_back : zM := (yX5_back, cX5_back, 2, (some .int))
abbrev mX5_draftIsAsRead : zM := (yX5_draftIsAsRead, cX5_draftIsAsRead, 1, (some .boolean))
abbrev mX5_since : zM := (yX5_since, cX5_since, 8, (some .int))
abbrev mX5_kinds : zM := (yX5_kinds, cX5_kinds, 9, (some .int))
abbrev mX5_sheet : zM := (yX5_sheet, cX5_sheet, 4, (some .int))
abbrev mX5_lose : zM := (yX5_lose, cX5_lose, 2, (some .int))
abbrev mX5_put : zM := (yX5_put, cX5_put, 5, (some .int))
abbrev mX5_cell : zM := (yX5_cell, cX5_cell, 5, (some .long))
abbrev mX5_copy : zM := (yX5_copy, cX5_copy, 8, (some .int))
abbrev mX5_leave : zM := (yX5_leave, cX5_leave, 2, none)
abbrev mX5_tellAsThing : zM := (yX5_tellAsThing, cX5_tellAsThing, 2, (some .int))
abbrev mX5_tellAsFood : zM := (yX5_tellAsFood, cX5_tellAsFood, 2, (some .int))
abbrev mX5_tellAsChild : zM := (yX5_tellAsChild, cX5_tellAsChild, 3, (some .int))
abbrev mX5_tell : zM := (yX5_tell, cX5_tell, 2, (some .int))
abbrev mX5_hail : zM := (yX5_hail, cX5_hail, 2, (some .int))
abbrev mX5_as : zM := (yX5_as, cX5_as, 3, (some .int))
abbrev mX5_trace : zM := (yX5_trace, cX5_trace, 1, (some .int))
abbrev mX5_fault : zM := (yX5_fault, cX5_fault, 1, (some .int))
abbrev mX5_many : zM := (yX5_many, cX5_many, 2, (some .int))
abbrev mX6_init : zM := (yX6_init, cX6_init, 1, none)
abbrev mX6_fails : zM := (yX6_fails, cX6_fails, 2, (some .int))
abbrev mX6_lost : zM := (yX6_lost, cX6_lost, 2, (some .long))
abbrev mX6_within : zM := (yX6_within, cX6_within, 3, (some .boolean))
abbrev mX6_isSheet : zM := (yX6_isSheet, cX6_isSheet, 1, (some .boolean))
abbrev mX6_isSort : zM := (yX6_isSort, cX6_isSort, 1, (some .boolean))
abbrev mX6_against : zM := (yX6_against, cX6_against, 5, (some .int))
abbrev mX6_isStage : zM := (yX6_isStage, cX6_isStage, 2, (some .boolean))
abbrev mX6_isThing : zM := (yX6_isThing, cX6_isThing, 2, (some .boolean))
abbrev mX6_isSpot : zM := (yX6_isSpot, cX6_isSpot, 2, (some .boolean))
abbrev mX6_allThings : zM := (yX6_allThings, cX6_allThings, 1, (some .int))
abbrev mX6_digit : zM := (yX6_digit, cX6_digit, 4, (some .int))
abbrev mX6_isSign : zM := (yX6_isSign, cX6_isSign, 3, (some .boolean))
abbrev mX6_readOneStage : zM := (yX6_readOneStage, cX6_readOneStage, 3, (some .boolean))
abbrev mX6_readOneThing : zM := (yX6_readOneThing, cX6_readOneThing, 4, (some .boolean))
abbrev mX6_readAll : zM := (yX6_readAll, cX6_readAll, 2, (some .boolean))
abbrev mX6_portage : zM := (yX6_portage, cX6_portage, 8, (some .int))
abbrev mX6_ofStage : zM := (yX6_ofStage, cX6_ofStage, 3, (some .int))
abbrev mX6_ofThing : zM := (yX6_ofThing, cX6_ofThing, 3, (some .int))
abbrev mX6_bears : zM := (yX6_bears, cX6_bears, 3, (some .int))
abbrev mX6_rain : zM := (yX6_rain, cX6_rain, 3, (some .int))
abbrev mX6_boards : zM := (yX6_boards, cX6_boards, 4, (some .int))
abbrev mX6_isWell : zM := (yX6_isWell, cX6_isWell, 5, (some .boolean))
abbrev mX6_wellOf : zM := (yX6_wellOf, cX6_wellOf, 4, (some .int))
abbrev mX6_well : zM := (yX6_well, cX6_well, 2, (some .int))
abbrev mX6_thingsAt : zM := (yX6_thingsAt, cX6_thingsAt, 5, (some .int))
abbrev mX6_poundsOf : zM := (yX6_poundsOf, cX6_poundsOf, 4, (some .int))
abbrev mX6_mayGo : zM := (yX6_mayGo, cX6_mayGo, 8, (some .boolean))
abbrev mX6_gone : zM := (yX6_gone, cX6_gone, 5, (some .int))
abbrev mX6_stageOf : zM := (yX6_stageOf, cX6_stageOf, 3, (some .int))
abbrev mX6_mudOf : zM := (yX6_mudOf, cX6_mudOf, 3, (some .int))
abbrev mX6_takes : zM := (yX6_takes, cX6_takes, 6, (some .int))
abbrev mX6_layTrips : zM := (yX6_layTrips, cX6_layTrips, 8, (some .int))
abbrev mX6_go : zM := (yX6_go, cX6_go, 3, (some .int))
abbrev mX6_arePairs : zM := (yX6_arePairs, cX6_arePairs, 2, (some .boolean))
abbrev mX6_trips : zM := (yX6_trips, cX6_trips, 8, (some .int))
abbrev mX6_spotAt : zM := (yX6_spotAt, cX6_spotAt, 5, (some .int))
abbrev mX6_at : zM := (yX6_at, cX6_at, 9, (some .int))
abbrev mX6_inLeastTerms : zM := (yX6_inLeastTerms, cX6_inLeastTerms, 11, (some .long))
abbrev mX6_dry : zM := (yX6_dry, cX6_dry, 6, (some .long))
abbrev mX6_end : zM := (yX6_end, cX6_end, 3, (some .int))
abbrev mX6_relax : zM := (yX6_relax, cX6_relax, 6, (some .boolean))
abbrev mX6_laySoonest : zM := (yX6_laySoonest, cX6_laySoonest, 4, none)
abbrev mX6_soonestNow : zM := (yX6_soonestNow, cX6_soonestNow, 1, (some .int))
abbrev mX6_soonest : zM := (yX6_soonest, cX6_soonest, 1, (some .int))
abbrev mX6_isTight : zM := (yX6_isTight, cX6_isTight, 5, (some .boolean))
abbrev mX6_shorten : zM := (yX6_shorten, cX6_shorten, 5, (some .boolean))
abbrev mX6_layLeft : zM := (yX6_layLeft, cX6_layLeft, 4, none)
abbrev mX6_isNext : zM := (yX6_isNext, cX6_isNext, 4, (some .boolean))
abbrev mX6_findNext : zM := (yX6_findNext, cX6_findNext, 4, none)
abbrev mX6_trip : zM := (yX6_trip, cX6_trip, 5, (some .int))
abbrev mX6_spread : zM := (yX6_spread, cX6_spread, 5, (some .boolean))
abbrev mX6_fewest : zM := (yX6_fewest, cX6_fewest, 4, (some .int))
abbrev mX6_cost : zM := (yX6_cost, cX6_cost, 4, (some .int))
abbrev mX6_help : zM := (yX6_help, cX6_help, 4, (some .int))
abbrev mX6_reading : zM := (yX6_reading, cX6_reading, 4, (some .int))
abbrev mX6_back : zM := (yX6_back, cX6_back, 2, (some .int))
abbrev mX6_areSo : zM := (yX6_areSo, cX6_areSo, 2, (some .boolean))
abbrev mX6_since : zM := (yX6_since, cX6_since, 9, (some .int))
abbrev mX6_kinds : zM := (yX6_kinds, cX6_kinds, 10, (some .int))
abbrev mX6_sheet : zM := (yX6_sheet, cX6_sheet, 5, (some .int))
abbrev mX6_lose : zM := (yX6_lose, cX6_lose, 3, (some .int))
abbrev mX6_put : zM := (yX6_put, cX6_put, 4, (some .int))
abbrev mX6_cell : zM := (yX6_cell, cX6_cell, 4, (some .long))
abbrev mX6_copy : zM := (yX6_copy, cX6_copy, 10, (some .int))
abbrev mX6_begins : zM := (yX6_begins, cX6_begins, 2, none)
abbrev mX6_tell : zM := (yX6_tell, cX6_tell, 3, (some .int))
abbrev mX6_hail : zM := (yX6_hail, cX6_hail, 2, (some .int))
abbrev mX6_as : zM := (yX6_as, cX6_as, 3, (some .int))
abbrev mX6_trace : zM := (yX6_trace, cX6_trace, 1, (some .int))
abbrev mX6_fault : zM := (yX6_fault, cX6_fault, 1, (some .int))
abbrev mX6_many : zM := (yX6_many, cX6_many, 2, (some .int))
abbrev mJ9_abs_0f7a4 : zM := (yJ9_abs_0f7a4, cJ9_abs_0f7a4, 1, (some .int))
abbrev mJ9_min_7cf53 : zM := (yJ9_min_7cf53, cJ9_min_7cf53, 2, (some .int))
abbrev mL_law : zM := (yL_law, cL_law, 4, some .boolean)
end
section
theorem dX0_init_0 : decode cX0_init 0 = .ok (.aload_n 0, 1) := by decide +kernel
theorem dX0_init_1 : decode cX0_init 1 = .ok (.invokespecial 3, 3) := by decide +kernel
theorem dX0_init_4 : decode cX0_init 4 = .ok (.aload_n 0, 1) := by decide +kernel
theorem dX0_init_5 : decode cX0_init 5 = .ok (.bipush (-9), 2) := by decide +kernel
theorem dX0_init_7 : decode cX0_init 7 = .ok (.putfield 9, 3) := by decide +kernel
theorem dX0_init_10 : decode cX0_init 10 = .ok (.aload_n 0, 1) := by decide +kernel
theorem dX0_init_11 : decode cX0_init 11 = .ok (.iconst 3, 1) := by decide +kernel
theorem dX0_init_12 : decode cX0_init 12 = .ok (.newarray .int, 2) := by decide +kernel
theorem dX0_init_14 : decode cX0_init 14 = .ok (.putfield 15, 3) := by decide +kernel
theorem dX0_init_17 : decode cX0_init 17 = .ok (.aload_n 0, 1) := by decide +kernel
theorem dX0_init_18 : decode cX0_init 18 = .ok (.iconst 3, 1) := by decide +kernel
theorem dX0_init_19 : decode cX0_init 19 = .ok (.newarray .int, 2) := by decide +kernel
theorem dX0_init_21 : decode cX0_init 21 = .ok (.putfield 19, 3) := by decide +kernel
theorem dX0_init_24 : decode cX0_init 24 = .ok (.aload_n 0, 1) := by decide +kernel
theorem dX0_init_25 : decode cX0_init 25 = .ok (.iconst 3, 1) := by decide +kernel
theorem dX0_init_26 : decode cX0_init 26 = .ok (.newarray .boolean, 2) := by decide +kernel
theorem dX0_init_28 : decode cX0_init 28 = .ok (.putfield 22, 3) := by decide +kernel
theorem dX0_init_31 : decode cX0_init 31 = .ok (.aload_n 0, 1) := by decide +kernel
theorem dX0_init_32 : decode cX0_init 32 = .ok (.iconst 4, 1) := by decide +kernel
theorem dX0_init_33 : decode cX0_init 33 = .ok (.newarray .int, 2) := by decide +kernel
theorem dX0_init_35 : decode cX0_init 35 = .ok (.putfield 26, 3) := by decide +kernel
theorem dX0_init_38 : decode cX0_init 38 = .ok (.aload_n 0, 1) := by decide +kernel
theorem dX0_init_39 : decode cX0_init 39 = .ok (.iconst 4, 1) := by decide +kernel
theorem dX0_init_40 : decode cX0_init 40 = .ok (.newarray .int, 2) := by decide +kernel
theorem dX0_init_42 : decode cX0_init 42 = .ok (.putfield 29, 3) := by decide +kernel
theorem dX0_init_45 : decode cX0_init 45 = .ok (.return_, 1) := by decide +kernel
theorem dX0_isThere_0 : decode cX0_isThere 0 = .ok (.aload_n 0, 1) := by decide +kernel
theorem dX0_isThere_1 : decode cX0_isThere 1 = .ok (.getfield 32, 3) := by decide +kernel
theorem dX0_isThere_4 : decode cX0_isThere 4 = .ok (.ifCond .le 7, 3) := by decide +kernel
theorem dX0_isThere_7 : decode cX0_isThere 7 = .ok (.iconst 1, 1) := by decide +kernel
theorem dX0_isThere_8 : decode cX0_isThere 8 = .ok (.goto 4, 3) := by decide +kernel
theorem dX0_isThere_11 : decode cX0_isThere 11 = .ok (.iconst 0, 1) := by decide +kernel
theorem dX0_isThere_12 : decode cX0_isThere 12 = .ok (.ireturn, 1) := by decide +kernel
theorem dX0_hasStage_0 : decode cX0_hasStage 0 = .ok (.iload_n 1, 1) := by decide +kernel
theorem dX0_hasStage_1 : decode cX0_hasStage 1 = .ok (.ifCond .lt 15, 3) := by decide +kernel
theorem dX0_hasStage_4 : decode cX0_hasStage 4 = .ok (.iload_n 1, 1) := by decide +kernel
theorem dX0_hasStage_5 : decode cX0_hasStage 5 = .ok (.aload_n 0, 1) := by decide +kernel
theorem dX0_hasStage_6 : decode cX0_hasStage 6 = .ok (.getfield 32, 3) := by decide +kernel
theorem dX0_hasStage_9 : decode cX0_hasStage 9 = .ok (.if_icmp .ge 7, 3) := by decide +kernel
theorem dX0_hasStage_12 : decode cX0_hasStage 12 = .ok (.iconst 1, 1) := by decide +kernel
theorem dX0_hasStage_13 : decode cX0_hasStage 13 = .ok (.goto 4, 3) := by decide +kernel
theorem dX0_hasStage_16 : decode cX0_hasStage 16 = .ok (.iconst 0, 1) := by decide +kernel
theorem dX0_hasStage_17 : decode cX0_hasStage 17 = .ok (.ireturn, 1) := by decide +kernel
theorem dX0_hasSpot_0 : decode cX0_hasSpot 0 = .ok (.aload_n 0, 1) := by decide +kernel
theorem dX0_hasSpot_1 : decode cX0_hasSpot 1 = .ok (.invokevirtual 35, 3) := by decide +kernel
theorem dX0_hasSpot_4 : decode cX0_hasSpot 4 = .ok (.ifCond .eq 19, 3) := by decide +kernel
theorem dX0_hasSpot_7 : decode cX0_hasSpot 7 = .ok (.iload_n 1, 1) := by decide +kernel
theorem dX0_hasSpot_8 : decode cX0_hasSpot 8 = .ok (.ifCond .lt 15, 3) := by decide +kernel
theorem dX0_hasSpot_11 : decode cX0_hasSpot 11 = .ok (.iload_n 1, 1) := by decide +kernel
theorem dX0_hasSpot_12 : decode cX0_hasSpot 12 = .ok (.aload_n 0, 1) := by decide +kernel
theorem dX0_hasSpot_13 : decode cX0_hasSpot 13 = .ok (.getfield 32, 3) := by decide +kernel
theorem dX0_hasSpot_16 : decode cX0_hasSpot 16 = .ok (.if_icmp .gt 7, 3) := by decide +kernel
theorem dX0_hasSpot_19 : decode cX0_hasSpot 19 = .ok (.iconst 1, 1) := by decide +kernel
theorem dX0_hasSpot_20 : decode cX0_hasSpot 20 = .ok (.goto 4, 3) := by decide +kernel
theorem dX0_hasSpot_23 : decode cX0_hasSpot 23 = .ok (.iconst 0, 1) := by decide +kernel
theorem dX0_hasSpot_24 : decode cX0_hasSpot 24 = .ok (.ireturn, 1) := by decide +kernel
theorem dX0_hasThing_0 : decode cX0_hasThing 0 = .ok (.iload_n 1, 1) := by decide +kernel
theorem dX0_hasThing_1 : decode cX0_hasThing 1 = .ok (.ifCond .lt 15, 3) := by decide +kernel
theorem dX0_hasThing_4 : decode cX0_hasThing 4 = .ok (.iload_n 1, 1) := by decide +kernel
theorem dX0_hasThing_5 : decode cX0_hasThing 5 = .ok (.aload_n 0, 1) := by decide +kernel
theorem dX0_hasThing_6 : decode cX0_hasThing 6 = .ok (.getfield 39, 3) := by decide +kernel
theorem dX0_hasThing_9 : decode cX0_hasThing 9 = .ok (.if_icmp .ge 7, 3) := by decide +kernel
theorem dX0_hasThing_12 : decode cX0_hasThing 12 = .ok (.iconst 1, 1) := by decide +kernel
theorem dX0_hasThing_13 : decode cX0_hasThing 13 = .ok (.goto 4, 3) := by decide +kernel
theorem dX0_hasThing_16 : decode cX0_hasThing 16 = .ok (.iconst 0, 1) := by decide +kernel
theorem dX0_hasThing_17 : decode cX0_hasThing 17 = .ok (.ireturn, 1) := by decide +kernel
theorem dX0_hasAllOf_0 : decode cX0_hasAllOf 0 = .ok (.iload_n 1, 1) := by decide +kernel
theorem dX0_hasAllOf_1 : decode cX0_hasAllOf 1 = .ok (.aload_n 0, 1) := by decide +kernel
theorem dX0_hasAllOf_2 : decode cX0_hasAllOf 2 = .ok (.getfield 39, 3) := by decide +kernel
theorem dX0_hasAllOf_5 : decode cX0_hasAllOf 5 = .ok (.iushr, 1) := by decide +kernel
theorem dX0_hasAllOf_6 : decode cX0_hasAllOf 6 = .ok (.ifCond .ne 7, 3) := by decide +kernel
theorem dX0_hasAllOf_9 : decode cX0_hasAllOf 9 = .ok (.iconst 1, 1) := by decide +kernel
theorem dX0_hasAllOf_10 : decode cX0_hasAllOf 10 = .ok (.goto 4, 3) := by decide +kernel
theorem dX0_hasAllOf_13 : decode cX0_hasAllOf 13 = .ok (.iconst 0, 1) := by decide +kernel
theorem dX0_hasAllOf_14 : decode cX0_hasAllOf 14 = .ok (.ireturn, 1) := by decide +kernel
theorem dX0_become_0 : decode cX0_become 0 = .ok (.aload_n 0, 1) := by decide +kernel
theorem dX0_become_1 : decode cX0_become 1 = .ok (.aload_n 1, 1) := by decide +kernel
theorem dX0_become_2 : decode cX0_become 2 = .ok (.getfield 42, 3) := by decide +kernel
theorem dX0_become_5 : decode cX0_become 5 = .ok (.putfield 42, 3) := by decide +kernel
theorem dX0_become_8 : decode cX0_become 8 = .ok (.aload_n 0, 1) := by decide +kernel
theorem dX0_become_9 : decode cX0_become 9 = .ok (.aload_n 1, 1) := by decide +kernel
theorem dX0_become_10 : decode cX0_become 10 = .ok (.getfield 9, 3) := by decide +kernel
theorem dX0_become_13 : decode cX0_become 13 = .ok (.putfield 9, 3) := by decide +kernel
theorem dX0_become_16 : decode cX0_become 16 = .ok (.aload_n 0, 1) := by decide +kernel
theorem dX0_become_17 : decode cX0_become 17 = .ok (.aload_n 1, 1) := by decide +kernel
theorem dX0_become_18 : decode cX0_become 18 = .ok (.getfield 32, 3) := by decide +kernel
theorem dX0_become_21 : decode cX0_become 21 = .ok (.putfield 32, 3) := by decide +kernel
theorem dX0_become_24 : decode cX0_become 24 = .ok (.aload_n 0, 1) := by decide +kernel
theorem dX0_become_25 : decode cX0_become 25 = .ok (.aload_n 1, 1) := by decide +kernel
theorem dX0_become_26 : decode cX0_become 26 = .ok (.getfield 39, 3) := by decide +kernel
theorem dX0_become_29 : decode cX0_become 29 = .ok (.putfield 39, 3) := by decide +kernel
theorem dX0_become_32 : decode cX0_become 32 = .ok (.iconst 0, 1) := by decide +kernel
theorem dX0_become_33 : decode cX0_become 33 = .ok (.istore_n 2, 1) := by decide +kernel
theorem dX0_become_34 : decode cX0_become 34 = .ok (.iload_n 2, 1) := by decide +kernel
theorem dX0_become_35 : decode cX0_become 35 = .ok (.iconst 3, 1) := by decide +kernel
theorem dX0_become_36 : decode cX0_become 36 = .ok (.if_icmp .ge 45, 3) := by decide +kernel
theorem dX0_become_39 : decode cX0_become 39 = .ok (.aload_n 0, 1) := by decide +kernel
theorem dX0_become_40 : decode cX0_become 40 = .ok (.getfield 15, 3) := by decide +kernel
theorem dX0_become_43 : decode cX0_become 43 = .ok (.iload_n 2, 1) := by decide +kernel
theorem dX0_become_44 : decode cX0_become 44 = .ok (.aload_n 1, 1) := by decide +kernel
theorem dX0_become_45 : decode cX0_become 45 = .ok (.getfield 15, 3) := by decide +kernel
theorem dX0_become_48 : decode cX0_become 48 = .ok (.iload_n 2, 1) := by decide +kernel
theorem dX0_become_49 : decode cX0_become 49 = .ok (.iaload, 1) := by decide +kernel
theorem dX0_become_50 : decode cX0_become 50 = .ok (.iastore, 1) := by decide +kernel
theorem dX0_become_51 : decode cX0_become 51 = .ok (.aload_n 0, 1) := by decide +kernel
theorem dX0_become_52 : decode cX0_become 52 = .ok (.getfield 19, 3) := by decide +kernel
theorem dX0_become_55 : decode cX0_become 55 = .ok (.iload_n 2, 1) := by decide +kernel
theorem dX0_become_56 : decode cX0_become 56 = .ok (.aload_n 1, 1) := by decide +kernel
theorem dX0_become_57 : decode cX0_become 57 = .ok (.getfield 19, 3) := by decide +kernel
theorem dX0_become_60 : decode cX0_become 60 = .ok (.iload_n 2, 1) := by decide +kernel
theorem dX0_become_61 : decode cX0_become 61 = .ok (.iaload, 1) := by decide +kernel
theorem dX0_become_62 : decode cX0_become 62 = .ok (.iastore, 1) := by decide +kernel
theorem dX0_become_63 : decode cX0_become 63 = .ok (.aload_n 0, 1) := by decide +kernel
theorem dX0_become_64 : decode cX0_become 64 = .ok (.getfield 22, 3) := by decide +kernel
theorem dX0_become_67 : decode cX0_become 67 = .ok (.iload_n 2, 1) := by decide +kernel
theorem dX0_become_68 : decode cX0_become 68 = .ok (.aload_n 1, 1) := by decide +kernel
theorem dX0_become_69 : decode cX0_become 69 = .ok (.getfield 22, 3) := by decide +kernel
theorem dX0_become_72 : decode cX0_become 72 = .ok (.iload_n 2, 1) := by decide +kernel
theorem dX0_become_73 : decode cX0_become 73 = .ok (.baload, 1) := by decide +kernel
theorem dX0_become_74 : decode cX0_become 74 = .ok (.bastore, 1) := by decide +kernel
theorem dX0_become_75 : decode cX0_become 75 = .ok (.iinc 2 1, 3) := by decide +kernel
theorem dX0_become_78 : decode cX0_become 78 = .ok (.goto (-44), 3) := by decide +kernel
theorem dX0_become_81 : decode cX0_become 81 = .ok (.iconst 0, 1) := by decide +kernel
theorem dX0_become_82 : decode cX0_become 82 = .ok (.istore_n 2, 1) := by decide +kernel
theorem dX0_become_83 : decode cX0_become 83 = .ok (.iload_n 2, 1) := by decide +kernel
theorem dX0_become_84 : decode cX0_become 84 = .ok (.iconst 4, 1) := by decide +kernel
theorem dX0_become_85 : decode cX0_become 85 = .ok (.if_icmp .ge 33, 3) := by decide +kernel
theorem dX0_become_88 : decode cX0_become 88 = .ok (.aload_n 0, 1) := by decide +kernel
theorem dX0_become_89 : decode cX0_become 89 = .ok (.getfield 26, 3) := by decide +kernel
theorem dX0_become_92 : decode cX0_become 92 = .ok (.iload_n 2, 1) := by decide +kernel
theorem dX0_become_93 : decode cX0_become 93 = .ok (.aload_n 1, 1) := by decide +kernel
theorem dX0_become_94 : decode cX0_become 94 = .ok (.getfield 26, 3) := by decide +kernel
theorem dX0_become_97 : decode cX0_become 97 = .ok (.iload_n 2, 1) := by decide +kernel
theorem dX0_become_98 : decode cX0_become 98 = .ok (.iaload, 1) := by decide +kernel
theorem dX0_become_99 : decode cX0_become 99 = .ok (.iastore, 1) := by decide +kernel
theorem dX0_become_100 : decode cX0_become 100 = .ok (.aload_n 0, 1) := by decide +kernel
theorem dX0_become_101 : decode cX0_become 101 = .ok (.getfield 29, 3) := by decide +kernel
theorem dX0_become_104 : decode cX0_become 104 = .ok (.iload_n 2, 1) := by decide +kernel
theorem dX0_become_105 : decode cX0_become 105 = .ok (.aload_n 1, 1) := by decide +kernel
theorem dX0_become_106 : decode cX0_become 106 = .ok (.getfield 29, 3) := by decide +kernel
theorem dX0_become_109 : decode cX0_become 109 = .ok (.iload_n 2, 1) := by decide +kernel
theorem dX0_become_110 : decode cX0_become 110 = .ok (.iaload, 1) := by decide +kernel
theorem dX0_become_111 : decode cX0_become 111 = .ok (.iastore, 1) := by decide +kernel
theorem dX0_become_112 : decode cX0_become 112 = .ok (.iinc 2 1, 3) := by decide +kernel
theorem dX0_become_115 : decode cX0_become 115 = .ok (.goto (-32), 3) := by decide +kernel
theorem dX0_become_118 : decode cX0_become 118 = .ok (.return_, 1) := by decide +kernel
theorem dX0_dropThing_0 : decode cX0_dropThing 0 = .ok (.iload_n 1, 1) := by decide +kernel
theorem dX0_dropThing_1 : decode cX0_dropThing 1 = .ok (.istore_n 2, 1) := by decide +kernel
theorem dX0_dropThing_2 : decode cX0_dropThing 2 = .ok (.iload_n 2, 1) := by decide +kernel
theorem dX0_dropThing_3 : decode cX0_dropThing 3 = .ok (.iconst 1, 1) := by decide +kernel
theorem dX0_dropThing_4 : decode cX0_dropThing 4 = .ok (.iadd, 1) := by decide +kernel
theorem dX0_dropThing_5 : decode cX0_dropThing 5 = .ok (.aload_n 0, 1) := by decide +kernel
theorem dX0_dropThing_6 : decode cX0_dropThing 6 = .ok (.getfield 39, 3) := by decide +kernel
theorem dX0_dropThing_9 : decode cX0_dropThing 9 = .ok (.if_icmp .ge 37, 3) := by decide +kernel
theorem dX0_dropThing_12 : decode cX0_dropThing 12 = .ok (.aload_n 0, 1) := by decide +kernel
theorem dX0_dropThing_13 : decode cX0_dropThing 13 = .ok (.getfield 26, 3) := by decide +kernel
theorem dX0_dropThing_16 : decode cX0_dropThing 16 = .ok (.iload_n 2, 1) := by decide +kernel
theorem dX0_dropThing_17 : decode cX0_dropThing 17 = .ok (.aload_n 0, 1) := by decide +kernel
theorem dX0_dropThing_18 : decode cX0_dropThing 18 = .ok (.getfield 26, 3) := by decide +kernel
theorem dX0_dropThing_21 : decode cX0_dropThing 21 = .ok (.iload_n 2, 1) := by decide +kernel
theorem dX0_dropThing_22 : decode cX0_dropThing 22 = .ok (.iconst 1, 1) := by decide +kernel
theorem dX0_dropThing_23 : decode cX0_dropThing 23 = .ok (.iadd, 1) := by decide +kernel
theorem dX0_dropThing_24 : decode cX0_dropThing 24 = .ok (.iaload, 1) := by decide +kernel
theorem dX0_dropThing_25 : decode cX0_dropThing 25 = .ok (.iastore, 1) := by decide +kernel
theorem dX0_dropThing_26 : decode cX0_dropThing 26 = .ok (.aload_n 0, 1) := by decide +kernel
theorem dX0_dropThing_27 : decode cX0_dropThing 27 = .ok (.getfield 29, 3) := by decide +kernel
theorem dX0_dropThing_30 : decode cX0_dropThing 30 = .ok (.iload_n 2, 1) := by decide +kernel
theorem dX0_dropThing_31 : decode cX0_dropThing 31 = .ok (.aload_n 0, 1) := by decide +kernel
theorem dX0_dropThing_32 : decode cX0_dropThing 32 = .ok (.getfield 29, 3) := by decide +kernel
theorem dX0_dropThing_35 : decode cX0_dropThing 35 = .ok (.iload_n 2, 1) := by decide +kernel
theorem dX0_dropThing_36 : decode cX0_dropThing 36 = .ok (.iconst 1, 1) := by decide +kernel
theorem dX0_dropThing_37 : decode cX0_dropThing 37 = .ok (.iadd, 1) := by decide +kernel
theorem dX0_dropThing_38 : decode cX0_dropThing 38 = .ok (.iaload, 1) := by decide +kernel
theorem dX0_dropThing_39 : decode cX0_dropThing 39 = .ok (.iastore, 1) := by decide +kernel
theorem dX0_dropThing_40 : decode cX0_dropThing 40 = .ok (.iinc 2 1, 3) := by decide +kernel
theorem dX0_dropThing_43 : decode cX0_dropThing 43 = .ok (.goto (-41), 3) := by decide +kernel
theorem dX0_dropThing_46 : decode cX0_dropThing 46 = .ok (.aload_n 0, 1) := by decide +kernel
theorem dX0_dropThing_47 : decode cX0_dropThing 47 = .ok (.dup, 1) := by decide +kernel
theorem dX0_dropThing_48 : decode cX0_dropThing 48 = .ok (.getfield 39, 3) := by decide +kernel
theorem dX0_dropThing_51 : decode cX0_dropThing 51 = .ok (.iconst 1, 1) := by decide +kernel
theorem dX0_dropThing_52 : decode cX0_dropThing 52 = .ok (.isub, 1) := by decide +kernel
theorem dX0_dropThing_53 : decode cX0_dropThing 53 = .ok (.putfield 39, 3) := by decide +kernel
theorem dX0_dropThing_56 : decode cX0_dropThing 56 = .ok (.return_, 1) := by decide +kernel
theorem dX0_readText_0 : decode cX0_readText 0 = .ok (.aload_n 0, 1) := by decide +kernel
theorem dX0_readText_1 : decode cX0_readText 1 = .ok (.invokevirtual 45, 3) := by decide +kernel
theorem dX0_readText_4 : decode cX0_readText 4 = .ok (.iconst 1, 1) := by decide +kernel
theorem dX0_readText_5 : decode cX0_readText 5 = .ok (.istore 4, 2) := by decide +kernel
theorem dX0_readText_7 : decode cX0_readText 7 = .ok (.iconst 0, 1) := by decide +kernel
theorem dX0_readText_8 : decode cX0_readText 8 = .ok (.istore 5, 2) := by decide +kernel
theorem dX0_readText_10 : decode cX0_readText 10 = .ok (.iload 5, 2) := by decide +kernel
theorem dX0_readText_12 : decode cX0_readText 12 = .ok (.iload_n 3, 1) := by decide +kernel
theorem dX0_readText_13 : decode cX0_readText 13 = .ok (.if_icmp .ge 34, 3) := by decide +kernel
theorem dX0_readText_16 : decode cX0_readText 16 = .ok (.aload_n 0, 1) := by decide +kernel
theorem dX0_readText_17 : decode cX0_readText 17 = .ok (.iload 4, 2) := by decide +kernel
theorem dX0_readText_19 : decode cX0_readText 19 = .ok (.aload_n 1, 1) := by decide +kernel
theorem dX0_readText_20 : decode cX0_readText 20 = .ok (.getfield 48, 3) := by decide +kernel
theorem dX0_readText_23 : decode cX0_readText 23 = .ok (.iload_n 2, 1) := by decide +kernel
theorem dX0_readText_24 : decode cX0_readText 24 = .ok (.iload 5, 2) := by decide +kernel
theorem dX0_readText_26 : decode cX0_readText 26 = .ok (.iadd, 1) := by decide +kernel
theorem dX0_readText_27 : decode cX0_readText 27 = .ok (.iaload, 1) := by decide +kernel
theorem dX0_readText_28 : decode cX0_readText 28 = .ok (.invokevirtual 53, 3) := by decide +kernel
theorem dX0_readText_31 : decode cX0_readText 31 = .ok (.istore 4, 2) := by decide +kernel
theorem dX0_readText_33 : decode cX0_readText 33 = .ok (.iload 4, 2) := by decide +kernel
theorem dX0_readText_35 : decode cX0_readText 35 = .ok (.ifCond .ne 6, 3) := by decide +kernel
theorem dX0_readText_38 : decode cX0_readText 38 = .ok (.iload 5, 2) := by decide +kernel
theorem dX0_readText_40 : decode cX0_readText 40 = .ok (.ireturn, 1) := by decide +kernel
theorem dX0_readText_41 : decode cX0_readText 41 = .ok (.iinc 5 1, 3) := by decide +kernel
theorem dX0_readText_44 : decode cX0_readText 44 = .ok (.goto (-34), 3) := by decide +kernel
theorem dX0_readText_47 : decode cX0_readText 47 = .ok (.iload 4, 2) := by decide +kernel
theorem dX0_readText_49 : decode cX0_readText 49 = .ok (.iconst 3, 1) := by decide +kernel
theorem dX0_readText_50 : decode cX0_readText 50 = .ok (.if_icmp .ne 15, 3) := by decide +kernel
theorem dX0_readText_53 : decode cX0_readText 53 = .ok (.aload_n 0, 1) := by decide +kernel
theorem dX0_readText_54 : decode cX0_readText 54 = .ok (.getfield 39, 3) := by decide +kernel
theorem dX0_readText_57 : decode cX0_readText 57 = .ok (.ifCond .le 8, 3) := by decide +kernel
theorem dX0_readText_60 : decode cX0_readText 60 = .ok (.bipush (-9), 2) := by decide +kernel
theorem dX0_readText_62 : decode cX0_readText 62 = .ok (.goto 4, 3) := by decide +kernel
theorem dX0_readText_65 : decode cX0_readText 65 = .ok (.iload_n 3, 1) := by decide +kernel
theorem dX0_readText_66 : decode cX0_readText 66 = .ok (.ireturn, 1) := by decide +kernel
theorem dX0_clear_0 : decode cX0_clear 0 = .ok (.aload_n 0, 1) := by decide +kernel
theorem dX0_clear_1 : decode cX0_clear 1 = .ok (.iconst 0, 1) := by decide +kernel
theorem dX0_clear_2 : decode cX0_clear 2 = .ok (.putfield 42, 3) := by decide +kernel
theorem dX0_clear_5 : decode cX0_clear 5 = .ok (.aload_n 0, 1) := by decide +kernel
theorem dX0_clear_6 : decode cX0_clear 6 = .ok (.bipush (-9), 2) := by decide +kernel
theorem dX0_clear_8 : decode cX0_clear 8 = .ok (.putfield 9, 3) := by decide +kernel
theorem dX0_clear_11 : decode cX0_clear 11 = .ok (.aload_n 0, 1) := by decide +kernel
theorem dX0_clear_12 : decode cX0_clear 12 = .ok (.iconst 0, 1) := by decide +kernel
theorem dX0_clear_13 : decode cX0_clear 13 = .ok (.putfield 32, 3) := by decide +kernel
theorem dX0_clear_16 : decode cX0_clear 16 = .ok (.aload_n 0, 1) := by decide +kernel
theorem dX0_clear_17 : decode cX0_clear 17 = .ok (.iconst 0, 1) := by decide +kernel
theorem dX0_clear_18 : decode cX0_clear 18 = .ok (.putfield 39, 3) := by decide +kernel
theorem dX0_clear_21 : decode cX0_clear 21 = .ok (.iconst 0, 1) := by decide +kernel
theorem dX0_clear_22 : decode cX0_clear 22 = .ok (.istore_n 1, 1) := by decide +kernel
theorem dX0_clear_23 : decode cX0_clear 23 = .ok (.iload_n 1, 1) := by decide +kernel
theorem dX0_clear_24 : decode cX0_clear 24 = .ok (.iconst 3, 1) := by decide +kernel
theorem dX0_clear_25 : decode cX0_clear 25 = .ok (.if_icmp .ge 16, 3) := by decide +kernel
theorem dX0_clear_28 : decode cX0_clear 28 = .ok (.aload_n 0, 1) := by decide +kernel
theorem dX0_clear_29 : decode cX0_clear 29 = .ok (.getfield 22, 3) := by decide +kernel
theorem dX0_clear_32 : decode cX0_clear 32 = .ok (.iload_n 1, 1) := by decide +kernel
theorem dX0_clear_33 : decode cX0_clear 33 = .ok (.iconst 0, 1) := by decide +kernel
theorem dX0_clear_34 : decode cX0_clear 34 = .ok (.bastore, 1) := by decide +kernel
theorem dX0_clear_35 : decode cX0_clear 35 = .ok (.iinc 1 1, 3) := by decide +kernel
theorem dX0_clear_38 : decode cX0_clear 38 = .ok (.goto (-15), 3) := by decide +kernel
theorem dX0_clear_41 : decode cX0_clear 41 = .ok (.return_, 1) := by decide +kernel
theorem dX0_readCode_0 : decode cX0_readCode 0 = .ok (.iload_n 1, 1) := by decide +kernel
theorem dX0_readCode_1 : decode cX0_readCode 1 = .ok (.lookupswitch 59 #[(1, 35), (3, 47), (6, 53)], 35) := by decide +kernel
theorem dX0_readCode_36 : decode cX0_readCode 36 = .ok (.iload_n 2, 1) := by decide +kernel
theorem dX0_readCode_37 : decode cX0_readCode 37 = .ok (.bipush 103, 2) := by decide +kernel
theorem dX0_readCode_39 : decode cX0_readCode 39 = .ok (.if_icmp .ne 7, 3) := by decide +kernel
theorem dX0_readCode_42 : decode cX0_readCode 42 = .ok (.iconst 2, 1) := by decide +kernel
theorem dX0_readCode_43 : decode cX0_readCode 43 = .ok (.goto 4, 3) := by decide +kernel
theorem dX0_readCode_46 : decode cX0_readCode 46 = .ok (.iconst 0, 1) := by decide +kernel
theorem dX0_readCode_47 : decode cX0_readCode 47 = .ok (.ireturn, 1) := by decide +kernel
theorem dX0_readCode_48 : decode cX0_readCode 48 = .ok (.aload_n 0, 1) := by decide +kernel
theorem dX0_readCode_49 : decode cX0_readCode 49 = .ok (.iload_n 2, 1) := by decide +kernel
theorem dX0_readCode_50 : decode cX0_readCode 50 = .ok (.invokevirtual 57, 3) := by decide +kernel
theorem dX0_readCode_53 : decode cX0_readCode 53 = .ok (.ireturn, 1) := by decide +kernel
theorem dX0_readCode_54 : decode cX0_readCode 54 = .ok (.aload_n 0, 1) := by decide +kernel
theorem dX0_readCode_55 : decode cX0_readCode 55 = .ok (.iload_n 2, 1) := by decide +kernel
theorem dX0_readCode_56 : decode cX0_readCode 56 = .ok (.invokevirtual 61, 3) := by decide +kernel
theorem dX0_readCode_59 : decode cX0_readCode 59 = .ok (.ireturn, 1) := by decide +kernel
theorem dX0_readCode_60 : decode cX0_readCode 60 = .ok (.aload_n 0, 1) := by decide +kernel
theorem dX0_readCode_61 : decode cX0_readCode 61 = .ok (.iload_n 1, 1) := by decide +kernel
theorem dX0_readCode_62 : decode cX0_readCode 62 = .ok (.iload_n 2, 1) := by decide +kernel
theorem dX0_readCode_63 : decode cX0_readCode 63 = .ok (.bipush 48, 2) := by decide +kernel
theorem dX0_readCode_65 : decode cX0_readCode 65 = .ok (.isub, 1) := by decide +kernel
theorem dX0_readCode_66 : decode cX0_readCode 66 = .ok (.invokevirtual 64, 3) := by decide +kernel
theorem dX0_readCode_69 : decode cX0_readCode 69 = .ok (.ireturn, 1) := by decide +kernel
theorem dX0_startPart_0 : decode cX0_startPart 0 = .ok (.iload_n 1, 1) := by decide +kernel
theorem dX0_startPart_1 : decode cX0_startPart 1 = .ok (.bipush 59, 2) := by decide +kernel
theorem dX0_startPart_3 : decode cX0_startPart 3 = .ok (.if_icmp .ne 20, 3) := by decide +kernel
theorem dX0_startPart_6 : decode cX0_startPart 6 = .ok (.aload_n 0, 1) := by decide +kernel
theorem dX0_startPart_7 : decode cX0_startPart 7 = .ok (.getfield 39, 3) := by decide +kernel
theorem dX0_startPart_10 : decode cX0_startPart 10 = .ok (.ifCond .ne 13, 3) := by decide +kernel
theorem dX0_startPart_13 : decode cX0_startPart 13 = .ok (.aload_n 0, 1) := by decide +kernel
theorem dX0_startPart_14 : decode cX0_startPart 14 = .ok (.getfield 32, 3) := by decide +kernel
theorem dX0_startPart_17 : decode cX0_startPart 17 = .ok (.iconst 3, 1) := by decide +kernel
theorem dX0_startPart_18 : decode cX0_startPart 18 = .ok (.if_icmp .ge 5, 3) := by decide +kernel
theorem dX0_startPart_21 : decode cX0_startPart 21 = .ok (.iconst 4, 1) := by decide +kernel
theorem dX0_startPart_22 : decode cX0_startPart 22 = .ok (.ireturn, 1) := by decide +kernel
theorem dX0_startPart_23 : decode cX0_startPart 23 = .ok (.iload_n 1, 1) := by decide +kernel
theorem dX0_startPart_24 : decode cX0_startPart 24 = .ok (.bipush 44, 2) := by decide +kernel
theorem dX0_startPart_26 : decode cX0_startPart 26 = .ok (.if_icmp .ne 21, 3) := by decide +kernel
theorem dX0_startPart_29 : decode cX0_startPart 29 = .ok (.aload_n 0, 1) := by decide +kernel
theorem dX0_startPart_30 : decode cX0_startPart 30 = .ok (.getfield 32, 3) := by decide +kernel
theorem dX0_startPart_33 : decode cX0_startPart 33 = .ok (.ifCond .le 14, 3) := by decide +kernel
theorem dX0_startPart_36 : decode cX0_startPart 36 = .ok (.aload_n 0, 1) := by decide +kernel
theorem dX0_startPart_37 : decode cX0_startPart 37 = .ok (.getfield 39, 3) := by decide +kernel
theorem dX0_startPart_40 : decode cX0_startPart 40 = .ok (.iconst 4, 1) := by decide +kernel
theorem dX0_startPart_41 : decode cX0_startPart 41 = .ok (.if_icmp .ge 6, 3) := by decide +kernel
theorem dX0_startPart_44 : decode cX0_startPart 44 = .ok (.bipush 6, 2) := by decide +kernel
theorem dX0_startPart_46 : decode cX0_startPart 46 = .ok (.ireturn, 1) := by decide +kernel
theorem dX0_startPart_47 : decode cX0_startPart 47 = .ok (.iconst 0, 1) := by decide +kernel
theorem dX0_startPart_48 : decode cX0_startPart 48 = .ok (.ireturn, 1) := by decide +kernel
theorem dX0_readKind_0 : decode cX0_readKind 0 = .ok (.iload_n 1, 1) := by decide +kernel
theorem dX0_readKind_1 : decode cX0_readKind 1 = .ok (.invokestatic 67, 3) := by decide +kernel
theorem dX0_readKind_4 : decode cX0_readKind 4 = .ok (.istore_n 2, 1) := by decide +kernel
theorem dX0_readKind_5 : decode cX0_readKind 5 = .ok (.iload_n 2, 1) := by decide +kernel
theorem dX0_readKind_6 : decode cX0_readKind 6 = .ok (.bipush (-9), 2) := by decide +kernel
theorem dX0_readKind_8 : decode cX0_readKind 8 = .ok (.if_icmp .ne 5, 3) := by decide +kernel
theorem dX0_readKind_11 : decode cX0_readKind 11 = .ok (.iconst 0, 1) := by decide +kernel
theorem dX0_readKind_12 : decode cX0_readKind 12 = .ok (.ireturn, 1) := by decide +kernel
theorem dX0_readKind_13 : decode cX0_readKind 13 = .ok (.aload_n 0, 1) := by decide +kernel
theorem dX0_readKind_14 : decode cX0_readKind 14 = .ok (.getfield 26, 3) := by decide +kernel
theorem dX0_readKind_17 : decode cX0_readKind 17 = .ok (.aload_n 0, 1) := by decide +kernel
theorem dX0_readKind_18 : decode cX0_readKind 18 = .ok (.getfield 39, 3) := by decide +kernel
theorem dX0_readKind_21 : decode cX0_readKind 21 = .ok (.iload_n 2, 1) := by decide +kernel
theorem dX0_readKind_22 : decode cX0_readKind 22 = .ok (.iastore, 1) := by decide +kernel
theorem dX0_readKind_23 : decode cX0_readKind 23 = .ok (.bipush 7, 2) := by decide +kernel
theorem dX0_readKind_25 : decode cX0_readKind 25 = .ok (.ireturn, 1) := by decide +kernel
theorem dX0_readDigit_0 : decode cX0_readDigit 0 = .ok (.iload_n 1, 1) := by decide +kernel
theorem dX0_readDigit_1 : decode cX0_readDigit 1 = .ok (.iconst 5, 1) := by decide +kernel
theorem dX0_readDigit_2 : decode cX0_readDigit 2 = .ok (.if_icmp .ne 7, 3) := by decide +kernel
theorem dX0_readDigit_5 : decode cX0_readDigit 5 = .ok (.iconst 1, 1) := by decide +kernel
theorem dX0_readDigit_6 : decode cX0_readDigit 6 = .ok (.goto 4, 3) := by decide +kernel
theorem dX0_readDigit_9 : decode cX0_readDigit 9 = .ok (.iconst 0, 1) := by decide +kernel
theorem dX0_readDigit_10 : decode cX0_readDigit 10 = .ok (.istore_n 3, 1) := by decide +kernel
theorem dX0_readDigit_11 : decode cX0_readDigit 11 = .ok (.iload_n 2, 1) := by decide +kernel
theorem dX0_readDigit_12 : decode cX0_readDigit 12 = .ok (.iload_n 3, 1) := by decide +kernel
theorem dX0_readDigit_13 : decode cX0_readDigit 13 = .ok (.ifCond .eq 7, 3) := by decide +kernel
theorem dX0_readDigit_16 : decode cX0_readDigit 16 = .ok (.iconst 0, 1) := by decide +kernel
theorem dX0_readDigit_17 : decode cX0_readDigit 17 = .ok (.goto 4, 3) := by decide +kernel
theorem dX0_readDigit_20 : decode cX0_readDigit 20 = .ok (.iconst 1, 1) := by decide +kernel
theorem dX0_readDigit_21 : decode cX0_readDigit 21 = .ok (.if_icmp .lt 17, 3) := by decide +kernel
theorem dX0_readDigit_24 : decode cX0_readDigit 24 = .ok (.iload_n 2, 1) := by decide +kernel
theorem dX0_readDigit_25 : decode cX0_readDigit 25 = .ok (.iload_n 3, 1) := by decide +kernel
theorem dX0_readDigit_26 : decode cX0_readDigit 26 = .ok (.ifCond .eq 7, 3) := by decide +kernel
theorem dX0_readDigit_29 : decode cX0_readDigit 29 = .ok (.iconst 4, 1) := by decide +kernel
theorem dX0_readDigit_30 : decode cX0_readDigit 30 = .ok (.goto 5, 3) := by decide +kernel
theorem dX0_readDigit_33 : decode cX0_readDigit 33 = .ok (.bipush 9, 2) := by decide +kernel
theorem dX0_readDigit_35 : decode cX0_readDigit 35 = .ok (.if_icmp .le 5, 3) := by decide +kernel
theorem dX0_readDigit_38 : decode cX0_readDigit 38 = .ok (.iconst 0, 1) := by decide +kernel
theorem dX0_readDigit_39 : decode cX0_readDigit 39 = .ok (.ireturn, 1) := by decide +kernel
theorem dX0_readDigit_40 : decode cX0_readDigit 40 = .ok (.iload_n 1, 1) := by decide +kernel
theorem dX0_readDigit_41 : decode cX0_readDigit 41 = .ok (.tableswitch 102 2 7 #[39, 102, 46, 58, 102, 80], 39) := by decide +kernel
theorem dX0_readDigit_80 : decode cX0_readDigit 80 = .ok (.aload_n 0, 1) := by decide +kernel
theorem dX0_readDigit_81 : decode cX0_readDigit 81 = .ok (.iload_n 2, 1) := by decide +kernel
theorem dX0_readDigit_82 : decode cX0_readDigit 82 = .ok (.putfield 42, 3) := by decide +kernel
theorem dX0_readDigit_85 : decode cX0_readDigit 85 = .ok (.iconst 3, 1) := by decide +kernel
theorem dX0_readDigit_86 : decode cX0_readDigit 86 = .ok (.ireturn, 1) := by decide +kernel
theorem dX0_readDigit_87 : decode cX0_readDigit 87 = .ok (.aload_n 0, 1) := by decide +kernel
theorem dX0_readDigit_88 : decode cX0_readDigit 88 = .ok (.getfield 15, 3) := by decide +kernel
theorem dX0_readDigit_91 : decode cX0_readDigit 91 = .ok (.aload_n 0, 1) := by decide +kernel
theorem dX0_readDigit_92 : decode cX0_readDigit 92 = .ok (.getfield 32, 3) := by decide +kernel
theorem dX0_readDigit_95 : decode cX0_readDigit 95 = .ok (.iload_n 2, 1) := by decide +kernel
theorem dX0_readDigit_96 : decode cX0_readDigit 96 = .ok (.iastore, 1) := by decide +kernel
theorem dX0_readDigit_97 : decode cX0_readDigit 97 = .ok (.iconst 5, 1) := by decide +kernel
theorem dX0_readDigit_98 : decode cX0_readDigit 98 = .ok (.ireturn, 1) := by decide +kernel
theorem dX0_readDigit_99 : decode cX0_readDigit 99 = .ok (.aload_n 0, 1) := by decide +kernel
theorem dX0_readDigit_100 : decode cX0_readDigit 100 = .ok (.getfield 19, 3) := by decide +kernel
theorem dX0_readDigit_103 : decode cX0_readDigit 103 = .ok (.aload_n 0, 1) := by decide +kernel
theorem dX0_readDigit_104 : decode cX0_readDigit 104 = .ok (.getfield 32, 3) := by decide +kernel
theorem dX0_readDigit_107 : decode cX0_readDigit 107 = .ok (.iload_n 2, 1) := by decide +kernel
theorem dX0_readDigit_108 : decode cX0_readDigit 108 = .ok (.iastore, 1) := by decide +kernel
theorem dX0_readDigit_109 : decode cX0_readDigit 109 = .ok (.aload_n 0, 1) := by decide +kernel
theorem dX0_readDigit_110 : decode cX0_readDigit 110 = .ok (.dup, 1) := by decide +kernel
theorem dX0_readDigit_111 : decode cX0_readDigit 111 = .ok (.getfield 32, 3) := by decide +kernel
theorem dX0_readDigit_114 : decode cX0_readDigit 114 = .ok (.iconst 1, 1) := by decide +kernel
theorem dX0_readDigit_115 : decode cX0_readDigit 115 = .ok (.iadd, 1) := by decide +kernel
theorem dX0_readDigit_116 : decode cX0_readDigit 116 = .ok (.putfield 32, 3) := by decide +kernel
theorem dX0_readDigit_119 : decode cX0_readDigit 119 = .ok (.iconst 3, 1) := by decide +kernel
theorem dX0_readDigit_120 : decode cX0_readDigit 120 = .ok (.ireturn, 1) := by decide +kernel
theorem dX0_readDigit_121 : decode cX0_readDigit 121 = .ok (.aload_n 0, 1) := by decide +kernel
theorem dX0_readDigit_122 : decode cX0_readDigit 122 = .ok (.getfield 29, 3) := by decide +kernel
theorem dX0_readDigit_125 : decode cX0_readDigit 125 = .ok (.aload_n 0, 1) := by decide +kernel
theorem dX0_readDigit_126 : decode cX0_readDigit 126 = .ok (.getfield 39, 3) := by decide +kernel
theorem dX0_readDigit_129 : decode cX0_readDigit 129 = .ok (.iload_n 2, 1) := by decide +kernel
theorem dX0_readDigit_130 : decode cX0_readDigit 130 = .ok (.iastore, 1) := by decide +kernel
theorem dX0_readDigit_131 : decode cX0_readDigit 131 = .ok (.aload_n 0, 1) := by decide +kernel
theorem dX0_readDigit_132 : decode cX0_readDigit 132 = .ok (.dup, 1) := by decide +kernel
theorem dX0_readDigit_133 : decode cX0_readDigit 133 = .ok (.getfield 39, 3) := by decide +kernel
theorem dX0_readDigit_136 : decode cX0_readDigit 136 = .ok (.iconst 1, 1) := by decide +kernel
theorem dX0_readDigit_137 : decode cX0_readDigit 137 = .ok (.iadd, 1) := by decide +kernel
theorem dX0_readDigit_138 : decode cX0_readDigit 138 = .ok (.putfield 39, 3) := by decide +kernel
theorem dX0_readDigit_141 : decode cX0_readDigit 141 = .ok (.iconst 3, 1) := by decide +kernel
theorem dX0_readDigit_142 : decode cX0_readDigit 142 = .ok (.ireturn, 1) := by decide +kernel
theorem dX0_readDigit_143 : decode cX0_readDigit 143 = .ok (.iconst 0, 1) := by decide +kernel
theorem dX0_readDigit_144 : decode cX0_readDigit 144 = .ok (.ireturn, 1) := by decide +kernel
theorem dX0_kindOfLetter_0 : decode cX0_kindOfLetter 0 = .ok (.iload_n 0, 1) := by decide +kernel
theorem dX0_kindOfLetter_1 : decode cX0_kindOfLetter 1 = .ok (.lookupswitch 41 #[(99, 39), (102, 37), (116, 35)], 35) := by decide +kernel
theorem dX0_kindOfLetter_36 : decode cX0_kindOfLetter 36 = .ok (.iconst 0, 1) := by decide +kernel
theorem dX0_kindOfLetter_37 : decode cX0_kindOfLetter 37 = .ok (.ireturn, 1) := by decide +kernel
theorem dX0_kindOfLetter_38 : decode cX0_kindOfLetter 38 = .ok (.iconst 1, 1) := by decide +kernel
theorem dX0_kindOfLetter_39 : decode cX0_kindOfLetter 39 = .ok (.ireturn, 1) := by decide +kernel
theorem dX0_kindOfLetter_40 : decode cX0_kindOfLetter 40 = .ok (.iconst 2, 1) := by decide +kernel
theorem dX0_kindOfLetter_41 : decode cX0_kindOfLetter 41 = .ok (.ireturn, 1) := by decide +kernel
theorem dX0_kindOfLetter_42 : decode cX0_kindOfLetter 42 = .ok (.bipush (-9), 2) := by decide +kernel
theorem dX0_kindOfLetter_44 : decode cX0_kindOfLetter 44 = .ok (.ireturn, 1) := by decide +kernel
theorem dX0_wellOnes_0 : decode cX0_wellOnes 0 = .ok (.iload_n 1, 1) := by decide +kernel
theorem dX0_wellOnes_1 : decode cX0_wellOnes 1 = .ok (.aload_n 0, 1) := by decide +kernel
theorem dX0_wellOnes_2 : decode cX0_wellOnes 2 = .ok (.invokevirtual 70, 3) := by decide +kernel
theorem dX0_wellOnes_5 : decode cX0_wellOnes 5 = .ok (.iand, 1) := by decide +kernel
theorem dX0_wellOnes_6 : decode cX0_wellOnes 6 = .ok (.istore_n 2, 1) := by decide +kernel
theorem dX0_wellOnes_7 : decode cX0_wellOnes 7 = .ok (.iconst 0, 1) := by decide +kernel
theorem dX0_wellOnes_8 : decode cX0_wellOnes 8 = .ok (.istore_n 3, 1) := by decide +kernel
theorem dX0_wellOnes_9 : decode cX0_wellOnes 9 = .ok (.iconst 0, 1) := by decide +kernel
theorem dX0_wellOnes_10 : decode cX0_wellOnes 10 = .ok (.istore 4, 2) := by decide +kernel
theorem dX0_wellOnes_12 : decode cX0_wellOnes 12 = .ok (.iload 4, 2) := by decide +kernel
theorem dX0_wellOnes_14 : decode cX0_wellOnes 14 = .ok (.aload_n 0, 1) := by decide +kernel
theorem dX0_wellOnes_15 : decode cX0_wellOnes 15 = .ok (.getfield 39, 3) := by decide +kernel
theorem dX0_wellOnes_18 : decode cX0_wellOnes 18 = .ok (.if_icmp .ge 51, 3) := by decide +kernel
theorem dX0_wellOnes_21 : decode cX0_wellOnes 21 = .ok (.iload_n 1, 1) := by decide +kernel
theorem dX0_wellOnes_22 : decode cX0_wellOnes 22 = .ok (.iconst 1, 1) := by decide +kernel
theorem dX0_wellOnes_23 : decode cX0_wellOnes 23 = .ok (.iload 4, 2) := by decide +kernel
theorem dX0_wellOnes_25 : decode cX0_wellOnes 25 = .ok (.ishl, 1) := by decide +kernel
theorem dX0_wellOnes_26 : decode cX0_wellOnes 26 = .ok (.iconst (-1), 1) := by decide +kernel
theorem dX0_wellOnes_27 : decode cX0_wellOnes 27 = .ok (.ixor, 1) := by decide +kernel
theorem dX0_wellOnes_28 : decode cX0_wellOnes 28 = .ok (.iand, 1) := by decide +kernel
theorem dX0_wellOnes_29 : decode cX0_wellOnes 29 = .ok (.istore 5, 2) := by decide +kernel
theorem dX0_wellOnes_31 : decode cX0_wellOnes 31 = .ok (.iload_n 1, 1) := by decide +kernel
theorem dX0_wellOnes_32 : decode cX0_wellOnes 32 = .ok (.iload 4, 2) := by decide +kernel
theorem dX0_wellOnes_34 : decode cX0_wellOnes 34 = .ok (.invokestatic 74, 3) := by decide +kernel
theorem dX0_wellOnes_37 : decode cX0_wellOnes 37 = .ok (.ifCond .eq 26, 3) := by decide +kernel
theorem dX0_wellOnes_40 : decode cX0_wellOnes 40 = .ok (.aload_n 0, 1) := by decide +kernel
theorem dX0_wellOnes_41 : decode cX0_wellOnes 41 = .ok (.getfield 26, 3) := by decide +kernel
theorem dX0_wellOnes_44 : decode cX0_wellOnes 44 = .ok (.iload 4, 2) := by decide +kernel
theorem dX0_wellOnes_46 : decode cX0_wellOnes 46 = .ok (.iaload, 1) := by decide +kernel
theorem dX0_wellOnes_47 : decode cX0_wellOnes 47 = .ok (.iload 5, 2) := by decide +kernel
theorem dX0_wellOnes_49 : decode cX0_wellOnes 49 = .ok (.iload_n 2, 1) := by decide +kernel
theorem dX0_wellOnes_50 : decode cX0_wellOnes 50 = .ok (.invokestatic 78, 3) := by decide +kernel
theorem dX0_wellOnes_53 : decode cX0_wellOnes 53 = .ok (.ifCond .eq 10, 3) := by decide +kernel
theorem dX0_wellOnes_56 : decode cX0_wellOnes 56 = .ok (.iload_n 3, 1) := by decide +kernel
theorem dX0_wellOnes_57 : decode cX0_wellOnes 57 = .ok (.iconst 1, 1) := by decide +kernel
theorem dX0_wellOnes_58 : decode cX0_wellOnes 58 = .ok (.iload 4, 2) := by decide +kernel
theorem dX0_wellOnes_60 : decode cX0_wellOnes 60 = .ok (.ishl, 1) := by decide +kernel
theorem dX0_wellOnes_61 : decode cX0_wellOnes 61 = .ok (.ior, 1) := by decide +kernel
theorem dX0_wellOnes_62 : decode cX0_wellOnes 62 = .ok (.istore_n 3, 1) := by decide +kernel
theorem dX0_wellOnes_63 : decode cX0_wellOnes 63 = .ok (.iinc 4 1, 3) := by decide +kernel
theorem dX0_wellOnes_66 : decode cX0_wellOnes 66 = .ok (.goto (-54), 3) := by decide +kernel
theorem dX0_wellOnes_69 : decode cX0_wellOnes 69 = .ok (.iload_n 3, 1) := by decide +kernel
theorem dX0_wellOnes_70 : decode cX0_wellOnes 70 = .ok (.ireturn, 1) := by decide +kernel
theorem dX0_isWell_0 : decode cX0_isWell 0 = .ok (.iload_n 0, 1) := by decide +kernel
theorem dX0_isWell_1 : decode cX0_isWell 1 = .ok (.lookupswitch 51 #[(1, 27), (2, 37)], 27) := by decide +kernel
theorem dX0_isWell_28 : decode cX0_isWell 28 = .ok (.iload_n 1, 1) := by decide +kernel
theorem dX0_isWell_29 : decode cX0_isWell 29 = .ok (.ifCond .eq 7, 3) := by decide +kernel
theorem dX0_isWell_32 : decode cX0_isWell 32 = .ok (.iconst 1, 1) := by decide +kernel
theorem dX0_isWell_33 : decode cX0_isWell 33 = .ok (.goto 4, 3) := by decide +kernel
theorem dX0_isWell_36 : decode cX0_isWell 36 = .ok (.iconst 0, 1) := by decide +kernel
theorem dX0_isWell_37 : decode cX0_isWell 37 = .ok (.ireturn, 1) := by decide +kernel
theorem dX0_isWell_38 : decode cX0_isWell 38 = .ok (.iload_n 1, 1) := by decide +kernel
theorem dX0_isWell_39 : decode cX0_isWell 39 = .ok (.ifCond .eq 11, 3) := by decide +kernel
theorem dX0_isWell_42 : decode cX0_isWell 42 = .ok (.iload_n 2, 1) := by decide +kernel
theorem dX0_isWell_43 : decode cX0_isWell 43 = .ok (.ifCond .ne 7, 3) := by decide +kernel
theorem dX0_isWell_46 : decode cX0_isWell 46 = .ok (.iconst 1, 1) := by decide +kernel
theorem dX0_isWell_47 : decode cX0_isWell 47 = .ok (.goto 4, 3) := by decide +kernel
theorem dX0_isWell_50 : decode cX0_isWell 50 = .ok (.iconst 0, 1) := by decide +kernel
theorem dX0_isWell_51 : decode cX0_isWell 51 = .ok (.ireturn, 1) := by decide +kernel
theorem dX0_isWell_52 : decode cX0_isWell 52 = .ok (.iconst 1, 1) := by decide +kernel
theorem dX0_isWell_53 : decode cX0_isWell 53 = .ok (.ireturn, 1) := by decide +kernel
theorem dX0_foodOnes_0 : decode cX0_foodOnes 0 = .ok (.iconst 0, 1) := by decide +kernel
theorem dX0_foodOnes_1 : decode cX0_foodOnes 1 = .ok (.istore_n 1, 1) := by decide +kernel
theorem dX0_foodOnes_2 : decode cX0_foodOnes 2 = .ok (.iconst 0, 1) := by decide +kernel
theorem dX0_foodOnes_3 : decode cX0_foodOnes 3 = .ok (.istore_n 2, 1) := by decide +kernel
theorem dX0_foodOnes_4 : decode cX0_foodOnes 4 = .ok (.iload_n 2, 1) := by decide +kernel
theorem dX0_foodOnes_5 : decode cX0_foodOnes 5 = .ok (.aload_n 0, 1) := by decide +kernel
theorem dX0_foodOnes_6 : decode cX0_foodOnes 6 = .ok (.getfield 39, 3) := by decide +kernel
theorem dX0_foodOnes_9 : decode cX0_foodOnes 9 = .ok (.if_icmp .ge 25, 3) := by decide +kernel
theorem dX0_foodOnes_12 : decode cX0_foodOnes 12 = .ok (.aload_n 0, 1) := by decide +kernel
theorem dX0_foodOnes_13 : decode cX0_foodOnes 13 = .ok (.getfield 26, 3) := by decide +kernel
theorem dX0_foodOnes_16 : decode cX0_foodOnes 16 = .ok (.iload_n 2, 1) := by decide +kernel
theorem dX0_foodOnes_17 : decode cX0_foodOnes 17 = .ok (.iaload, 1) := by decide +kernel
theorem dX0_foodOnes_18 : decode cX0_foodOnes 18 = .ok (.iconst 1, 1) := by decide +kernel
theorem dX0_foodOnes_19 : decode cX0_foodOnes 19 = .ok (.if_icmp .ne 9, 3) := by decide +kernel
theorem dX0_foodOnes_22 : decode cX0_foodOnes 22 = .ok (.iload_n 1, 1) := by decide +kernel
theorem dX0_foodOnes_23 : decode cX0_foodOnes 23 = .ok (.iconst 1, 1) := by decide +kernel
theorem dX0_foodOnes_24 : decode cX0_foodOnes 24 = .ok (.iload_n 2, 1) := by decide +kernel
theorem dX0_foodOnes_25 : decode cX0_foodOnes 25 = .ok (.ishl, 1) := by decide +kernel
theorem dX0_foodOnes_26 : decode cX0_foodOnes 26 = .ok (.ior, 1) := by decide +kernel
theorem dX0_foodOnes_27 : decode cX0_foodOnes 27 = .ok (.istore_n 1, 1) := by decide +kernel
theorem dX0_foodOnes_28 : decode cX0_foodOnes 28 = .ok (.iinc 2 1, 3) := by decide +kernel
theorem dX0_foodOnes_31 : decode cX0_foodOnes 31 = .ok (.goto (-27), 3) := by decide +kernel
theorem dX0_foodOnes_34 : decode cX0_foodOnes 34 = .ok (.iload_n 1, 1) := by decide +kernel
theorem dX0_foodOnes_35 : decode cX0_foodOnes 35 = .ok (.ireturn, 1) := by decide +kernel
theorem dX0_load_0 : decode cX0_load 0 = .ok (.iconst 0, 1) := by decide +kernel
theorem dX0_load_1 : decode cX0_load 1 = .ok (.istore_n 2, 1) := by decide +kernel
theorem dX0_load_2 : decode cX0_load 2 = .ok (.iconst 0, 1) := by decide +kernel
theorem dX0_load_3 : decode cX0_load 3 = .ok (.istore_n 3, 1) := by decide +kernel
theorem dX0_load_4 : decode cX0_load 4 = .ok (.iload_n 3, 1) := by decide +kernel
theorem dX0_load_5 : decode cX0_load 5 = .ok (.aload_n 0, 1) := by decide +kernel
theorem dX0_load_6 : decode cX0_load 6 = .ok (.getfield 39, 3) := by decide +kernel
theorem dX0_load_9 : decode cX0_load 9 = .ok (.if_icmp .ge 26, 3) := by decide +kernel
theorem dX0_load_12 : decode cX0_load 12 = .ok (.iload_n 1, 1) := by decide +kernel
theorem dX0_load_13 : decode cX0_load 13 = .ok (.iload_n 3, 1) := by decide +kernel
theorem dX0_load_14 : decode cX0_load 14 = .ok (.invokestatic 74, 3) := by decide +kernel
theorem dX0_load_17 : decode cX0_load 17 = .ok (.ifCond .eq 12, 3) := by decide +kernel
theorem dX0_load_20 : decode cX0_load 20 = .ok (.iload_n 2, 1) := by decide +kernel
theorem dX0_load_21 : decode cX0_load 21 = .ok (.aload_n 0, 1) := by decide +kernel
theorem dX0_load_22 : decode cX0_load 22 = .ok (.getfield 29, 3) := by decide +kernel
theorem dX0_load_25 : decode cX0_load 25 = .ok (.iload_n 3, 1) := by decide +kernel
theorem dX0_load_26 : decode cX0_load 26 = .ok (.iaload, 1) := by decide +kernel
theorem dX0_load_27 : decode cX0_load 27 = .ok (.iadd, 1) := by decide +kernel
theorem dX0_load_28 : decode cX0_load 28 = .ok (.istore_n 2, 1) := by decide +kernel
theorem dX0_load_29 : decode cX0_load 29 = .ok (.iinc 3 1, 3) := by decide +kernel
theorem dX0_load_32 : decode cX0_load 32 = .ok (.goto (-28), 3) := by decide +kernel
theorem dX0_load_35 : decode cX0_load 35 = .ok (.iload_n 2, 1) := by decide +kernel
theorem dX0_load_36 : decode cX0_load 36 = .ok (.ireturn, 1) := by decide +kernel
theorem dX0_rainsIn_0 : decode cX0_rainsIn 0 = .ok (.aload_n 0, 1) := by decide +kernel
theorem dX0_rainsIn_1 : decode cX0_rainsIn 1 = .ok (.getfield 9, 3) := by decide +kernel
theorem dX0_rainsIn_4 : decode cX0_rainsIn 4 = .ok (.bipush (-9), 2) := by decide +kernel
theorem dX0_rainsIn_6 : decode cX0_rainsIn 6 = .ok (.if_icmp .eq 15, 3) := by decide +kernel
theorem dX0_rainsIn_9 : decode cX0_rainsIn 9 = .ok (.iload_n 1, 1) := by decide +kernel
theorem dX0_rainsIn_10 : decode cX0_rainsIn 10 = .ok (.aload_n 0, 1) := by decide +kernel
theorem dX0_rainsIn_11 : decode cX0_rainsIn 11 = .ok (.getfield 9, 3) := by decide +kernel
theorem dX0_rainsIn_14 : decode cX0_rainsIn 14 = .ok (.if_icmp .lt 7, 3) := by decide +kernel
theorem dX0_rainsIn_17 : decode cX0_rainsIn 17 = .ok (.iconst 1, 1) := by decide +kernel
theorem dX0_rainsIn_18 : decode cX0_rainsIn 18 = .ok (.goto 4, 3) := by decide +kernel
theorem dX0_rainsIn_21 : decode cX0_rainsIn 21 = .ok (.iconst 0, 1) := by decide +kernel
theorem dX0_rainsIn_22 : decode cX0_rainsIn 22 = .ok (.ireturn, 1) := by decide +kernel
theorem dX0_mudUnder_0 : decode cX0_mudUnder 0 = .ok (.aload_n 0, 1) := by decide +kernel
theorem dX0_mudUnder_1 : decode cX0_mudUnder 1 = .ok (.getfield 22, 3) := by decide +kernel
theorem dX0_mudUnder_4 : decode cX0_mudUnder 4 = .ok (.iload_n 1, 1) := by decide +kernel
theorem dX0_mudUnder_5 : decode cX0_mudUnder 5 = .ok (.baload, 1) := by decide +kernel
theorem dX0_mudUnder_6 : decode cX0_mudUnder 6 = .ok (.ifCond .eq 5, 3) := by decide +kernel
theorem dX0_mudUnder_9 : decode cX0_mudUnder 9 = .ok (.iconst 0, 1) := by decide +kernel
theorem dX0_mudUnder_10 : decode cX0_mudUnder 10 = .ok (.ireturn, 1) := by decide +kernel
theorem dX0_mudUnder_11 : decode cX0_mudUnder 11 = .ok (.iload_n 2, 1) := by decide +kernel
theorem dX0_mudUnder_12 : decode cX0_mudUnder 12 = .ok (.ifCond .eq 14, 3) := by decide +kernel
theorem dX0_mudUnder_15 : decode cX0_mudUnder 15 = .ok (.iconst 2, 1) := by decide +kernel
theorem dX0_mudUnder_16 : decode cX0_mudUnder 16 = .ok (.aload_n 0, 1) := by decide +kernel
theorem dX0_mudUnder_17 : decode cX0_mudUnder 17 = .ok (.getfield 19, 3) := by decide +kernel
theorem dX0_mudUnder_20 : decode cX0_mudUnder 20 = .ok (.iload_n 1, 1) := by decide +kernel
theorem dX0_mudUnder_21 : decode cX0_mudUnder 21 = .ok (.iaload, 1) := by decide +kernel
theorem dX0_mudUnder_22 : decode cX0_mudUnder 22 = .ok (.imul, 1) := by decide +kernel
theorem dX0_mudUnder_23 : decode cX0_mudUnder 23 = .ok (.goto 9, 3) := by decide +kernel
theorem dX0_mudUnder_26 : decode cX0_mudUnder 26 = .ok (.aload_n 0, 1) := by decide +kernel
theorem dX0_mudUnder_27 : decode cX0_mudUnder 27 = .ok (.getfield 19, 3) := by decide +kernel
theorem dX0_mudUnder_30 : decode cX0_mudUnder 30 = .ok (.iload_n 1, 1) := by decide +kernel
theorem dX0_mudUnder_31 : decode cX0_mudUnder 31 = .ok (.iaload, 1) := by decide +kernel
theorem dX0_mudUnder_32 : decode cX0_mudUnder 32 = .ok (.ireturn, 1) := by decide +kernel
theorem dX0_minutesOver_0 : decode cX0_minutesOver 0 = .ok (.iload_n 2, 1) := by decide +kernel
theorem dX0_minutesOver_1 : decode cX0_minutesOver 1 = .ok (.ifCond .ne 10, 3) := by decide +kernel
theorem dX0_minutesOver_4 : decode cX0_minutesOver 4 = .ok (.aload_n 0, 1) := by decide +kernel
theorem dX0_minutesOver_5 : decode cX0_minutesOver 5 = .ok (.getfield 15, 3) := by decide +kernel
theorem dX0_minutesOver_8 : decode cX0_minutesOver 8 = .ok (.iload_n 1, 1) := by decide +kernel
theorem dX0_minutesOver_9 : decode cX0_minutesOver 9 = .ok (.iaload, 1) := by decide +kernel
theorem dX0_minutesOver_10 : decode cX0_minutesOver 10 = .ok (.ireturn, 1) := by decide +kernel
theorem dX0_minutesOver_11 : decode cX0_minutesOver 11 = .ok (.aload_n 0, 1) := by decide +kernel
theorem dX0_minutesOver_12 : decode cX0_minutesOver 12 = .ok (.getfield 15, 3) := by decide +kernel
theorem dX0_minutesOver_15 : decode cX0_minutesOver 15 = .ok (.iload_n 1, 1) := by decide +kernel
theorem dX0_minutesOver_16 : decode cX0_minutesOver 16 = .ok (.iaload, 1) := by decide +kernel
theorem dX0_minutesOver_17 : decode cX0_minutesOver 17 = .ok (.aload_n 0, 1) := by decide +kernel
theorem dX0_minutesOver_18 : decode cX0_minutesOver 18 = .ok (.iload_n 1, 1) := by decide +kernel
theorem dX0_minutesOver_19 : decode cX0_minutesOver 19 = .ok (.iload_n 3, 1) := by decide +kernel
theorem dX0_minutesOver_20 : decode cX0_minutesOver 20 = .ok (.invokevirtual 82, 3) := by decide +kernel
theorem dX0_minutesOver_23 : decode cX0_minutesOver 23 = .ok (.iadd, 1) := by decide +kernel
theorem dX0_minutesOver_24 : decode cX0_minutesOver 24 = .ok (.iload_n 2, 1) := by decide +kernel
theorem dX0_minutesOver_25 : decode cX0_minutesOver 25 = .ok (.iconst 3, 1) := by decide +kernel
theorem dX0_minutesOver_26 : decode cX0_minutesOver 26 = .ok (.idiv, 1) := by decide +kernel
theorem dX0_minutesOver_27 : decode cX0_minutesOver 27 = .ok (.iadd, 1) := by decide +kernel
theorem dX0_minutesOver_28 : decode cX0_minutesOver 28 = .ok (.ireturn, 1) := by decide +kernel
theorem dX0_isIn_0 : decode cX0_isIn 0 = .ok (.iload_n 0, 1) := by decide +kernel
theorem dX0_isIn_1 : decode cX0_isIn 1 = .ok (.iload_n 1, 1) := by decide +kernel
theorem dX0_isIn_2 : decode cX0_isIn 2 = .ok (.ishr, 1) := by decide +kernel
theorem dX0_isIn_3 : decode cX0_isIn 3 = .ok (.iconst 1, 1) := by decide +kernel
theorem dX0_isIn_4 : decode cX0_isIn 4 = .ok (.iand, 1) := by decide +kernel
theorem dX0_isIn_5 : decode cX0_isIn 5 = .ok (.iconst 1, 1) := by decide +kernel
theorem dX0_isIn_6 : decode cX0_isIn 6 = .ok (.if_icmp .ne 7, 3) := by decide +kernel
theorem dX0_isIn_9 : decode cX0_isIn 9 = .ok (.iconst 1, 1) := by decide +kernel
theorem dX0_isIn_10 : decode cX0_isIn 10 = .ok (.goto 4, 3) := by decide +kernel
theorem dX0_isIn_13 : decode cX0_isIn 13 = .ok (.iconst 0, 1) := by decide +kernel
theorem dX0_isIn_14 : decode cX0_isIn 14 = .ok (.ireturn, 1) := by decide +kernel
theorem dX1_init_0 : decode cX1_init 0 = .ok (.aload_n 0, 1) := by decide +kernel
theorem dX1_init_1 : decode cX1_init 1 = .ok (.invokespecial 3, 3) := by decide +kernel
theorem dX1_init_4 : decode cX1_init 4 = .ok (.aload_n 0, 1) := by decide +kernel
theorem dX1_init_5 : decode cX1_init 5 = .ok (.bipush 8, 2) := by decide +kernel
theorem dX1_init_7 : decode cX1_init 7 = .ok (.newarray .int, 2) := by decide +kernel
theorem dX1_init_9 : decode cX1_init 9 = .ok (.putfield 9, 3) := by decide +kernel
theorem dX1_init_12 : decode cX1_init 12 = .ok (.aload_n 0, 1) := by decide +kernel
theorem dX1_init_13 : decode cX1_init 13 = .ok (.bipush 8, 2) := by decide +kernel
theorem dX1_init_15 : decode cX1_init 15 = .ok (.newarray .int, 2) := by decide +kernel
theorem dX1_init_17 : decode cX1_init 17 = .ok (.putfield 15, 3) := by decide +kernel
theorem dX1_init_20 : decode cX1_init 20 = .ok (.aload_n 0, 1) := by decide +kernel
theorem dX1_init_21 : decode cX1_init 21 = .ok (.bipush 8, 2) := by decide +kernel
theorem dX1_init_23 : decode cX1_init 23 = .ok (.newarray .int, 2) := by decide +kernel
theorem dX1_init_25 : decode cX1_init 25 = .ok (.putfield 18, 3) := by decide +kernel
theorem dX1_init_28 : decode cX1_init 28 = .ok (.return_, 1) := by decide +kernel
theorem dX1_add_0 : decode cX1_add 0 = .ok (.aload_n 0, 1) := by decide +kernel
theorem dX1_add_1 : decode cX1_add 1 = .ok (.getfield 21, 3) := by decide +kernel
theorem dX1_add_4 : decode cX1_add 4 = .ok (.bipush 8, 2) := by decide +kernel
theorem dX1_add_6 : decode cX1_add 6 = .ok (.if_icmp .lt 6, 3) := by decide +kernel
theorem dX1_add_9 : decode cX1_add 9 = .ok (.bipush (-4), 2) := by decide +kernel
theorem dX1_add_11 : decode cX1_add 11 = .ok (.ireturn, 1) := by decide +kernel
theorem dX1_add_12 : decode cX1_add 12 = .ok (.aload_n 0, 1) := by decide +kernel
theorem dX1_add_13 : decode cX1_add 13 = .ok (.getfield 9, 3) := by decide +kernel
theorem dX1_add_16 : decode cX1_add 16 = .ok (.aload_n 0, 1) := by decide +kernel
theorem dX1_add_17 : decode cX1_add 17 = .ok (.getfield 21, 3) := by decide +kernel
theorem dX1_add_20 : decode cX1_add 20 = .ok (.iload_n 1, 1) := by decide +kernel
theorem dX1_add_21 : decode cX1_add 21 = .ok (.iastore, 1) := by decide +kernel
theorem dX1_add_22 : decode cX1_add 22 = .ok (.aload_n 0, 1) := by decide +kernel
theorem dX1_add_23 : decode cX1_add 23 = .ok (.getfield 15, 3) := by decide +kernel
theorem dX1_add_26 : decode cX1_add 26 = .ok (.aload_n 0, 1) := by decide +kernel
theorem dX1_add_27 : decode cX1_add 27 = .ok (.getfield 21, 3) := by decide +kernel
theorem dX1_add_30 : decode cX1_add 30 = .ok (.iload_n 2, 1) := by decide +kernel
theorem dX1_add_31 : decode cX1_add 31 = .ok (.iastore, 1) := by decide +kernel
theorem dX1_add_32 : decode cX1_add 32 = .ok (.aload_n 0, 1) := by decide +kernel
theorem dX1_add_33 : decode cX1_add 33 = .ok (.getfield 18, 3) := by decide +kernel
theorem dX1_add_36 : decode cX1_add 36 = .ok (.aload_n 0, 1) := by decide +kernel
theorem dX1_add_37 : decode cX1_add 37 = .ok (.getfield 21, 3) := by decide +kernel
theorem dX1_add_40 : decode cX1_add 40 = .ok (.iload_n 3, 1) := by decide +kernel
theorem dX1_add_41 : decode cX1_add 41 = .ok (.iastore, 1) := by decide +kernel
theorem dX1_add_42 : decode cX1_add 42 = .ok (.aload_n 0, 1) := by decide +kernel
theorem dX1_add_43 : decode cX1_add 43 = .ok (.dup, 1) := by decide +kernel
theorem dX1_add_44 : decode cX1_add 44 = .ok (.getfield 21, 3) := by decide +kernel
theorem dX1_add_47 : decode cX1_add 47 = .ok (.dup_x1, 1) := by decide +kernel
theorem dX1_add_48 : decode cX1_add 48 = .ok (.iconst 1, 1) := by decide +kernel
theorem dX1_add_49 : decode cX1_add 49 = .ok (.iadd, 1) := by decide +kernel
theorem dX1_add_50 : decode cX1_add 50 = .ok (.putfield 21, 3) := by decide +kernel
theorem dX1_add_53 : decode cX1_add 53 = .ok (.ireturn, 1) := by decide +kernel
theorem dX1_areSoBy_0 : decode cX1_areSoBy 0 = .ok (.iconst 0, 1) := by decide +kernel
theorem dX1_areSoBy_1 : decode cX1_areSoBy 1 = .ok (.istore_n 2, 1) := by decide +kernel
theorem dX1_areSoBy_2 : decode cX1_areSoBy 2 = .ok (.iload_n 2, 1) := by decide +kernel
theorem dX1_areSoBy_3 : decode cX1_areSoBy 3 = .ok (.aload_n 0, 1) := by decide +kernel
theorem dX1_areSoBy_4 : decode cX1_areSoBy 4 = .ok (.getfield 21, 3) := by decide +kernel
theorem dX1_areSoBy_7 : decode cX1_areSoBy 7 = .ok (.if_icmp .ge 36, 3) := by decide +kernel
theorem dX1_areSoBy_10 : decode cX1_areSoBy 10 = .ok (.aload_n 1, 1) := by decide +kernel
theorem dX1_areSoBy_11 : decode cX1_areSoBy 11 = .ok (.aload_n 0, 1) := by decide +kernel
theorem dX1_areSoBy_12 : decode cX1_areSoBy 12 = .ok (.getfield 9, 3) := by decide +kernel
theorem dX1_areSoBy_15 : decode cX1_areSoBy 15 = .ok (.iload_n 2, 1) := by decide +kernel
theorem dX1_areSoBy_16 : decode cX1_areSoBy 16 = .ok (.iaload, 1) := by decide +kernel
theorem dX1_areSoBy_17 : decode cX1_areSoBy 17 = .ok (.aload_n 0, 1) := by decide +kernel
theorem dX1_areSoBy_18 : decode cX1_areSoBy 18 = .ok (.getfield 18, 3) := by decide +kernel
theorem dX1_areSoBy_21 : decode cX1_areSoBy 21 = .ok (.iload_n 2, 1) := by decide +kernel
theorem dX1_areSoBy_22 : decode cX1_areSoBy 22 = .ok (.iaload, 1) := by decide +kernel
theorem dX1_areSoBy_23 : decode cX1_areSoBy 23 = .ok (.invokevirtual 25, 3) := by decide +kernel
theorem dX1_areSoBy_26 : decode cX1_areSoBy 26 = .ok (.aload_n 0, 1) := by decide +kernel
theorem dX1_areSoBy_27 : decode cX1_areSoBy 27 = .ok (.getfield 15, 3) := by decide +kernel
theorem dX1_areSoBy_30 : decode cX1_areSoBy 30 = .ok (.iload_n 2, 1) := by decide +kernel
theorem dX1_areSoBy_31 : decode cX1_areSoBy 31 = .ok (.iaload, 1) := by decide +kernel
theorem dX1_areSoBy_32 : decode cX1_areSoBy 32 = .ok (.if_icmp .eq 5, 3) := by decide +kernel
theorem dX1_areSoBy_35 : decode cX1_areSoBy 35 = .ok (.iconst 0, 1) := by decide +kernel
theorem dX1_areSoBy_36 : decode cX1_areSoBy 36 = .ok (.ireturn, 1) := by decide +kernel
theorem dX1_areSoBy_37 : decode cX1_areSoBy 37 = .ok (.iinc 2 1, 3) := by decide +kernel
theorem dX1_areSoBy_40 : decode cX1_areSoBy 40 = .ok (.goto (-38), 3) := by decide +kernel
theorem dX1_areSoBy_43 : decode cX1_areSoBy 43 = .ok (.iconst 1, 1) := by decide +kernel
theorem dX1_areSoBy_44 : decode cX1_areSoBy 44 = .ok (.ireturn, 1) := by decide +kernel
theorem dX3_init_0 : decode cX3_init 0 = .ok (.aload_n 0, 1) := by decide +kernel
theorem dX3_init_1 : decode cX3_init 1 = .ok (.invokespecial 3, 3) := by decide +kernel
theorem dX3_init_4 : decode cX3_init 4 = .ok (.aload_n 0, 1) := by decide +kernel
theorem dX3_init_5 : decode cX3_init 5 = .ok (.bipush (-9), 2) := by decide +kernel
theorem dX3_init_7 : decode cX3_init 7 = .ok (.putfield 9, 3) := by decide +kernel
theorem dX3_init_10 : decode cX3_init 10 = .ok (.aload_n 0, 1) := by decide +kernel
theorem dX3_init_11 : decode cX3_init 11 = .ok (.bipush 60, 2) := by decide +kernel
theorem dX3_init_13 : decode cX3_init 13 = .ok (.newarray .int, 2) := by decide +kernel
theorem dX3_init_15 : decode cX3_init 15 = .ok (.putfield 15, 3) := by decide +kernel
theorem dX3_init_18 : decode cX3_init 18 = .ok (.return_, 1) := by decide +kernel
theorem dX3_renew_0 : decode cX3_renew 0 = .ok (.aload_n 0, 1) := by decide +kernel
theorem dX3_renew_1 : decode cX3_renew 1 = .ok (.iload_n 1, 1) := by decide +kernel
theorem dX3_renew_2 : decode cX3_renew 2 = .ok (.putfield 9, 3) := by decide +kernel
theorem dX3_renew_5 : decode cX3_renew 5 = .ok (.aload_n 0, 1) := by decide +kernel
theorem dX3_renew_6 : decode cX3_renew 6 = .ok (.iload_n 2, 1) := by decide +kernel
theorem dX3_renew_7 : decode cX3_renew 7 = .ok (.putfield 19, 3) := by decide +kernel
theorem dX3_renew_10 : decode cX3_renew 10 = .ok (.aload_n 0, 1) := by decide +kernel
theorem dX3_renew_11 : decode cX3_renew 11 = .ok (.getfield 15, 3) := by decide +kernel
theorem dX3_renew_14 : decode cX3_renew 14 = .ok (.iconst 0, 1) := by decide +kernel
theorem dX3_renew_15 : decode cX3_renew 15 = .ok (.invokestatic 22, 3) := by decide +kernel
theorem dX3_renew_18 : decode cX3_renew 18 = .ok (.return_, 1) := by decide +kernel
theorem dX3_isNothing_0 : decode cX3_isNothing 0 = .ok (.aload_n 0, 1) := by decide +kernel
theorem dX3_isNothing_1 : decode cX3_isNothing 1 = .ok (.getfield 9, 3) := by decide +kernel
theorem dX3_isNothing_4 : decode cX3_isNothing 4 = .ok (.bipush (-9), 2) := by decide +kernel
theorem dX3_isNothing_6 : decode cX3_isNothing 6 = .ok (.if_icmp .ne 7, 3) := by decide +kernel
theorem dX3_isNothing_9 : decode cX3_isNothing 9 = .ok (.iconst 1, 1) := by decide +kernel
theorem dX3_isNothing_10 : decode cX3_isNothing 10 = .ok (.goto 4, 3) := by decide +kernel
theorem dX3_isNothing_13 : decode cX3_isNothing 13 = .ok (.iconst 0, 1) := by decide +kernel
theorem dX3_isNothing_14 : decode cX3_isNothing 14 = .ok (.ireturn, 1) := by decide +kernel
theorem dX3_faultAs_0 : decode cX3_faultAs 0 = .ok (.aload_n 0, 1) := by decide +kernel
theorem dX3_faultAs_1 : decode cX3_faultAs 1 = .ok (.invokevirtual 28, 3) := by decide +kernel
theorem dX3_faultAs_4 : decode cX3_faultAs 4 = .ok (.ifCond .eq 5, 3) := by decide +kernel
theorem dX3_faultAs_7 : decode cX3_faultAs 7 = .ok (.iconst 1, 1) := by decide +kernel
theorem dX3_faultAs_8 : decode cX3_faultAs 8 = .ok (.ireturn, 1) := by decide +kernel
theorem dX3_faultAs_9 : decode cX3_faultAs 9 = .ok (.aload_n 0, 1) := by decide +kernel
theorem dX3_faultAs_10 : decode cX3_faultAs 10 = .ok (.getfield 9, 3) := by decide +kernel
theorem dX3_faultAs_13 : decode cX3_faultAs 13 = .ok (.iload_n 1, 1) := by decide +kernel
theorem dX3_faultAs_14 : decode cX3_faultAs 14 = .ok (.if_icmp .ne 7, 3) := by decide +kernel
theorem dX3_faultAs_17 : decode cX3_faultAs 17 = .ok (.iconst 0, 1) := by decide +kernel
theorem dX3_faultAs_18 : decode cX3_faultAs 18 = .ok (.goto 4, 3) := by decide +kernel
theorem dX3_faultAs_21 : decode cX3_faultAs 21 = .ok (.iconst 2, 1) := by decide +kernel
theorem dX3_faultAs_22 : decode cX3_faultAs 22 = .ok (.ireturn, 1) := by decide +kernel
theorem dX3_hasCell_0 : decode cX3_hasCell 0 = .ok (.iload_n 1, 1) := by decide +kernel
theorem dX3_hasCell_1 : decode cX3_hasCell 1 = .ok (.ifCond .lt 15, 3) := by decide +kernel
theorem dX3_hasCell_4 : decode cX3_hasCell 4 = .ok (.iload_n 1, 1) := by decide +kernel
theorem dX3_hasCell_5 : decode cX3_hasCell 5 = .ok (.aload_n 0, 1) := by decide +kernel
theorem dX3_hasCell_6 : decode cX3_hasCell 6 = .ok (.getfield 19, 3) := by decide +kernel
theorem dX3_hasCell_9 : decode cX3_hasCell 9 = .ok (.if_icmp .ge 7, 3) := by decide +kernel
theorem dX3_hasCell_12 : decode cX3_hasCell 12 = .ok (.iconst 1, 1) := by decide +kernel
theorem dX3_hasCell_13 : decode cX3_hasCell 13 = .ok (.goto 4, 3) := by decide +kernel
theorem dX3_hasCell_16 : decode cX3_hasCell 16 = .ok (.iconst 0, 1) := by decide +kernel
theorem dX3_hasCell_17 : decode cX3_hasCell 17 = .ok (.ireturn, 1) := by decide +kernel
theorem dX3_hasCells_0 : decode cX3_hasCells 0 = .ok (.iload_n 2, 1) := by decide +kernel
theorem dX3_hasCells_1 : decode cX3_hasCells 1 = .ok (.ifCond .lt 29, 3) := by decide +kernel
theorem dX3_hasCells_4 : decode cX3_hasCells 4 = .ok (.iload_n 1, 1) := by decide +kernel
theorem dX3_hasCells_5 : decode cX3_hasCells 5 = .ok (.ifCond .lt 25, 3) := by decide +kernel
theorem dX3_hasCells_8 : decode cX3_hasCells 8 = .ok (.iload_n 1, 1) := by decide +kernel
theorem dX3_hasCells_9 : decode cX3_hasCells 9 = .ok (.aload_n 0, 1) := by decide +kernel
theorem dX3_hasCells_10 : decode cX3_hasCells 10 = .ok (.getfield 19, 3) := by decide +kernel
theorem dX3_hasCells_13 : decode cX3_hasCells 13 = .ok (.if_icmp .gt 17, 3) := by decide +kernel
theorem dX3_hasCells_16 : decode cX3_hasCells 16 = .ok (.iload_n 2, 1) := by decide +kernel
theorem dX3_hasCells_17 : decode cX3_hasCells 17 = .ok (.aload_n 0, 1) := by decide +kernel
theorem dX3_hasCells_18 : decode cX3_hasCells 18 = .ok (.getfield 19, 3) := by decide +kernel
theorem dX3_hasCells_21 : decode cX3_hasCells 21 = .ok (.iload_n 1, 1) := by decide +kernel
theorem dX3_hasCells_22 : decode cX3_hasCells 22 = .ok (.isub, 1) := by decide +kernel
theorem dX3_hasCells_23 : decode cX3_hasCells 23 = .ok (.if_icmp .gt 7, 3) := by decide +kernel
theorem dX3_hasCells_26 : decode cX3_hasCells 26 = .ok (.iconst 1, 1) := by decide +kernel
theorem dX3_hasCells_27 : decode cX3_hasCells 27 = .ok (.goto 4, 3) := by decide +kernel
theorem dX3_hasCells_30 : decode cX3_hasCells 30 = .ok (.iconst 0, 1) := by decide +kernel
theorem dX3_hasCells_31 : decode cX3_hasCells 31 = .ok (.ireturn, 1) := by decide +kernel
theorem dX3_write_0 : decode cX3_write 0 = .ok (.aload_n 0, 1) := by decide +kernel
theorem dX3_write_1 : decode cX3_write 1 = .ok (.getfield 9, 3) := by decide +kernel
theorem dX3_write_4 : decode cX3_write 4 = .ok (.ifCond .ne 14, 3) := by decide +kernel
theorem dX3_write_7 : decode cX3_write 7 = .ok (.aload_n 0, 1) := by decide +kernel
theorem dX3_write_8 : decode cX3_write 8 = .ok (.getfield 15, 3) := by decide +kernel
theorem dX3_write_11 : decode cX3_write 11 = .ok (.iload_n 1, 1) := by decide +kernel
theorem dX3_write_12 : decode cX3_write 12 = .ok (.iload_n 2, 1) := by decide +kernel
theorem dX3_write_13 : decode cX3_write 13 = .ok (.i2b, 1) := by decide +kernel
theorem dX3_write_14 : decode cX3_write 14 = .ok (.iastore, 1) := by decide +kernel
theorem dX3_write_15 : decode cX3_write 15 = .ok (.goto 29, 3) := by decide +kernel
theorem dX3_write_18 : decode cX3_write 18 = .ok (.aload_n 0, 1) := by decide +kernel
theorem dX3_write_19 : decode cX3_write 19 = .ok (.getfield 9, 3) := by decide +kernel
theorem dX3_write_22 : decode cX3_write 22 = .ok (.iconst 1, 1) := by decide +kernel
theorem dX3_write_23 : decode cX3_write 23 = .ok (.if_icmp .ne 14, 3) := by decide +kernel
theorem dX3_write_26 : decode cX3_write 26 = .ok (.aload_n 0, 1) := by decide +kernel
theorem dX3_write_27 : decode cX3_write 27 = .ok (.getfield 15, 3) := by decide +kernel
theorem dX3_write_30 : decode cX3_write 30 = .ok (.iload_n 1, 1) := by decide +kernel
theorem dX3_write_31 : decode cX3_write 31 = .ok (.iload_n 2, 1) := by decide +kernel
theorem dX3_write_32 : decode cX3_write 32 = .ok (.i2s, 1) := by decide +kernel
theorem dX3_write_33 : decode cX3_write 33 = .ok (.iastore, 1) := by decide +kernel
theorem dX3_write_34 : decode cX3_write 34 = .ok (.goto 10, 3) := by decide +kernel
theorem dX3_write_37 : decode cX3_write 37 = .ok (.aload_n 0, 1) := by decide +kernel
theorem dX3_write_38 : decode cX3_write 38 = .ok (.getfield 15, 3) := by decide +kernel
theorem dX3_write_41 : decode cX3_write 41 = .ok (.iload_n 1, 1) := by decide +kernel
theorem dX3_write_42 : decode cX3_write 42 = .ok (.iload_n 2, 1) := by decide +kernel
theorem dX3_write_43 : decode cX3_write 43 = .ok (.iastore, 1) := by decide +kernel
theorem dX3_write_44 : decode cX3_write 44 = .ok (.return_, 1) := by decide +kernel
theorem dX4_init_0 : decode cX4_init 0 = .ok (.aload_n 0, 1) := by decide +kernel
theorem dX4_init_1 : decode cX4_init 1 = .ok (.invokespecial 3, 3) := by decide +kernel
theorem dX4_init_4 : decode cX4_init 4 = .ok (.aload_n 0, 1) := by decide +kernel
theorem dX4_init_5 : decode cX4_init 5 = .ok (.bipush 18, 2) := by decide +kernel
theorem dX4_init_7 : decode cX4_init 7 = .ok (.newarray .int, 2) := by decide +kernel
theorem dX4_init_9 : decode cX4_init 9 = .ok (.putfield 9, 3) := by decide +kernel
theorem dX4_init_12 : decode cX4_init 12 = .ok (.aload_n 0, 1) := by decide +kernel
theorem dX4_init_13 : decode cX4_init 13 = .ok (.bipush 18, 2) := by decide +kernel
theorem dX4_init_15 : decode cX4_init 15 = .ok (.newarray .int, 2) := by decide +kernel
theorem dX4_init_17 : decode cX4_init 17 = .ok (.putfield 15, 3) := by decide +kernel
theorem dX4_init_20 : decode cX4_init 20 = .ok (.aload_n 0, 1) := by decide +kernel
theorem dX4_init_21 : decode cX4_init 21 = .ok (.bipush 19, 2) := by decide +kernel
theorem dX4_init_23 : decode cX4_init 23 = .ok (.newarray .int, 2) := by decide +kernel
theorem dX4_init_25 : decode cX4_init 25 = .ok (.putfield 18, 3) := by decide +kernel
theorem dX4_init_28 : decode cX4_init 28 = .ok (.aload_n 0, 1) := by decide +kernel
theorem dX4_init_29 : decode cX4_init 29 = .ok (.iconst 4, 1) := by decide +kernel
theorem dX4_init_30 : decode cX4_init 30 = .ok (.newarray .int, 2) := by decide +kernel
theorem dX4_init_32 : decode cX4_init 32 = .ok (.putfield 21, 3) := by decide +kernel
theorem dX4_init_35 : decode cX4_init 35 = .ok (.aload_n 0, 1) := by decide +kernel
theorem dX4_init_36 : decode cX4_init 36 = .ok (.bipush (-9), 2) := by decide +kernel
theorem dX4_init_38 : decode cX4_init 38 = .ok (.putfield 24, 3) := by decide +kernel
theorem dX4_init_41 : decode cX4_init 41 = .ok (.aload_n 0, 1) := by decide +kernel
theorem dX4_init_42 : decode cX4_init 42 = .ok (.lconst 1, 1) := by decide +kernel
theorem dX4_init_43 : decode cX4_init 43 = .ok (.putfield 28, 3) := by decide +kernel
theorem dX4_init_46 : decode cX4_init 46 = .ok (.aload_n 0, 1) := by decide +kernel
theorem dX4_init_47 : decode cX4_init 47 = .ok (.lconst 1, 1) := by decide +kernel
theorem dX4_init_48 : decode cX4_init 48 = .ok (.putfield 32, 3) := by decide +kernel
theorem dX4_init_51 : decode cX4_init 51 = .ok (.return_, 1) := by decide +kernel
theorem dX4_add_0 : decode cX4_add 0 = .ok (.aload_n 0, 1) := by decide +kernel
theorem dX4_add_1 : decode cX4_add 1 = .ok (.getfield 35, 3) := by decide +kernel
theorem dX4_add_4 : decode cX4_add 4 = .ok (.bipush 18, 2) := by decide +kernel
theorem dX4_add_6 : decode cX4_add 6 = .ok (.if_icmp .ge 33, 3) := by decide +kernel
theorem dX4_add_9 : decode cX4_add 9 = .ok (.aload_n 0, 1) := by decide +kernel
theorem dX4_add_10 : decode cX4_add 10 = .ok (.getfield 9, 3) := by decide +kernel
theorem dX4_add_13 : decode cX4_add 13 = .ok (.aload_n 0, 1) := by decide +kernel
theorem dX4_add_14 : decode cX4_add 14 = .ok (.getfield 35, 3) := by decide +kernel
theorem dX4_add_17 : decode cX4_add 17 = .ok (.iload_n 1, 1) := by decide +kernel
theorem dX4_add_18 : decode cX4_add 18 = .ok (.iastore, 1) := by decide +kernel
theorem dX4_add_19 : decode cX4_add 19 = .ok (.aload_n 0, 1) := by decide +kernel
theorem dX4_add_20 : decode cX4_add 20 = .ok (.getfield 15, 3) := by decide +kernel
theorem dX4_add_23 : decode cX4_add 23 = .ok (.aload_n 0, 1) := by decide +kernel
theorem dX4_add_24 : decode cX4_add 24 = .ok (.getfield 35, 3) := by decide +kernel
theorem dX4_add_27 : decode cX4_add 27 = .ok (.iload_n 2, 1) := by decide +kernel
theorem dX4_add_28 : decode cX4_add 28 = .ok (.iastore, 1) := by decide +kernel
theorem dX4_add_29 : decode cX4_add 29 = .ok (.aload_n 0, 1) := by decide +kernel
theorem dX4_add_30 : decode cX4_add 30 = .ok (.dup, 1) := by decide +kernel
theorem dX4_add_31 : decode cX4_add 31 = .ok (.getfield 35, 3) := by decide +kernel
theorem dX4_add_34 : decode cX4_add 34 = .ok (.iconst 1, 1) := by decide +kernel
theorem dX4_add_35 : decode cX4_add 35 = .ok (.iadd, 1) := by decide +kernel
theorem dX4_add_36 : decode cX4_add 36 = .ok (.putfield 35, 3) := by decide +kernel
theorem dX4_add_39 : decode cX4_add 39 = .ok (.return_, 1) := by decide +kernel
theorem dX4_go_0 : decode cX4_go 0 = .ok (.aload_n 0, 1) := by decide +kernel
theorem dX4_go_1 : decode cX4_go 1 = .ok (.iconst 0, 1) := by decide +kernel
theorem dX4_go_2 : decode cX4_go 2 = .ok (.putfield 38, 3) := by decide +kernel
theorem dX4_go_5 : decode cX4_go 5 = .ok (.aload_n 0, 1) := by decide +kernel
theorem dX4_go_6 : decode cX4_go 6 = .ok (.bipush (-9), 2) := by decide +kernel
theorem dX4_go_8 : decode cX4_go 8 = .ok (.putfield 24, 3) := by decide +kernel
theorem dX4_go_11 : decode cX4_go 11 = .ok (.aload_n 0, 1) := by decide +kernel
theorem dX4_go_12 : decode cX4_go 12 = .ok (.lconst 1, 1) := by decide +kernel
theorem dX4_go_13 : decode cX4_go 13 = .ok (.putfield 28, 3) := by decide +kernel
theorem dX4_go_16 : decode cX4_go 16 = .ok (.aload_n 0, 1) := by decide +kernel
theorem dX4_go_17 : decode cX4_go 17 = .ok (.lconst 1, 1) := by decide +kernel
theorem dX4_go_18 : decode cX4_go 18 = .ok (.putfield 32, 3) := by decide +kernel
theorem dX4_go_21 : decode cX4_go 21 = .ok (.aload_n 0, 1) := by decide +kernel
theorem dX4_go_22 : decode cX4_go 22 = .ok (.getfield 21, 3) := by decide +kernel
theorem dX4_go_25 : decode cX4_go 25 = .ok (.iconst 0, 1) := by decide +kernel
theorem dX4_go_26 : decode cX4_go 26 = .ok (.invokestatic 41, 3) := by decide +kernel
theorem dX4_go_29 : decode cX4_go 29 = .ok (.aload_n 0, 1) := by decide +kernel
theorem dX4_go_30 : decode cX4_go 30 = .ok (.getfield 21, 3) := by decide +kernel
theorem dX4_go_33 : decode cX4_go 33 = .ok (.iconst 0, 1) := by decide +kernel
theorem dX4_go_34 : decode cX4_go 34 = .ok (.iconst 1, 1) := by decide +kernel
theorem dX4_go_35 : decode cX4_go 35 = .ok (.aload_n 1, 1) := by decide +kernel
theorem dX4_go_36 : decode cX4_go 36 = .ok (.getfield 47, 3) := by decide +kernel
theorem dX4_go_39 : decode cX4_go 39 = .ok (.ishl, 1) := by decide +kernel
theorem dX4_go_40 : decode cX4_go 40 = .ok (.iconst 1, 1) := by decide +kernel
theorem dX4_go_41 : decode cX4_go 41 = .ok (.isub, 1) := by decide +kernel
theorem dX4_go_42 : decode cX4_go 42 = .ok (.iastore, 1) := by decide +kernel
theorem dX4_go_43 : decode cX4_go 43 = .ok (.iconst 0, 1) := by decide +kernel
theorem dX4_go_44 : decode cX4_go 44 = .ok (.istore_n 2, 1) := by decide +kernel
theorem dX4_go_45 : decode cX4_go 45 = .ok (.iload_n 2, 1) := by decide +kernel
theorem dX4_go_46 : decode cX4_go 46 = .ok (.aload_n 0, 1) := by decide +kernel
theorem dX4_go_47 : decode cX4_go 47 = .ok (.getfield 35, 3) := by decide +kernel
theorem dX4_go_50 : decode cX4_go 50 = .ok (.if_icmp .ge 30, 3) := by decide +kernel
theorem dX4_go_53 : decode cX4_go 53 = .ok (.aload_n 0, 1) := by decide +kernel
theorem dX4_go_54 : decode cX4_go 54 = .ok (.aload_n 1, 1) := by decide +kernel
theorem dX4_go_55 : decode cX4_go 55 = .ok (.iload_n 2, 1) := by decide +kernel
theorem dX4_go_56 : decode cX4_go 56 = .ok (.invokevirtual 52, 3) := by decide +kernel
theorem dX4_go_59 : decode cX4_go 59 = .ok (.ifCond .ne 9, 3) := by decide +kernel
theorem dX4_go_62 : decode cX4_go 62 = .ok (.aload_n 0, 1) := by decide +kernel
theorem dX4_go_63 : decode cX4_go 63 = .ok (.iload_n 2, 1) := by decide +kernel
theorem dX4_go_64 : decode cX4_go 64 = .ok (.putfield 24, 3) := by decide +kernel
theorem dX4_go_67 : decode cX4_go 67 = .ok (.return_, 1) := by decide +kernel
theorem dX4_go_68 : decode cX4_go 68 = .ok (.aload_n 0, 1) := by decide +kernel
theorem dX4_go_69 : decode cX4_go 69 = .ok (.aload_n 1, 1) := by decide +kernel
theorem dX4_go_70 : decode cX4_go 70 = .ok (.iload_n 2, 1) := by decide +kernel
theorem dX4_go_71 : decode cX4_go 71 = .ok (.invokevirtual 56, 3) := by decide +kernel
theorem dX4_go_74 : decode cX4_go 74 = .ok (.iinc 2 1, 3) := by decide +kernel
theorem dX4_go_77 : decode cX4_go 77 = .ok (.goto (-32), 3) := by decide +kernel
theorem dX4_go_80 : decode cX4_go 80 = .ok (.aload_n 0, 1) := by decide +kernel
theorem dX4_go_81 : decode cX4_go 81 = .ok (.invokevirtual 60, 3) := by decide +kernel
theorem dX4_go_84 : decode cX4_go 84 = .ok (.return_, 1) := by decide +kernel
theorem dX4_canGo_0 : decode cX4_canGo 0 = .ok (.aload_n 0, 1) := by decide +kernel
theorem dX4_canGo_1 : decode cX4_canGo 1 = .ok (.getfield 15, 3) := by decide +kernel
theorem dX4_canGo_4 : decode cX4_canGo 4 = .ok (.iload_n 2, 1) := by decide +kernel
theorem dX4_canGo_5 : decode cX4_canGo 5 = .ok (.iaload, 1) := by decide +kernel
theorem dX4_canGo_6 : decode cX4_canGo 6 = .ok (.istore_n 3, 1) := by decide +kernel
theorem dX4_canGo_7 : decode cX4_canGo 7 = .ok (.aload_n 0, 1) := by decide +kernel
theorem dX4_canGo_8 : decode cX4_canGo 8 = .ok (.getfield 21, 3) := by decide +kernel
theorem dX4_canGo_11 : decode cX4_canGo 11 = .ok (.aload_n 0, 1) := by decide +kernel
theorem dX4_canGo_12 : decode cX4_canGo 12 = .ok (.getfield 38, 3) := by decide +kernel
theorem dX4_canGo_15 : decode cX4_canGo 15 = .ok (.iaload, 1) := by decide +kernel
theorem dX4_canGo_16 : decode cX4_canGo 16 = .ok (.iload_n 3, 1) := by decide +kernel
theorem dX4_canGo_17 : decode cX4_canGo 17 = .ok (.iconst (-1), 1) := by decide +kernel
theorem dX4_canGo_18 : decode cX4_canGo 18 = .ok (.ixor, 1) := by decide +kernel
theorem dX4_canGo_19 : decode cX4_canGo 19 = .ok (.iand, 1) := by decide +kernel
theorem dX4_canGo_20 : decode cX4_canGo 20 = .ok (.istore 4, 2) := by decide +kernel
theorem dX4_canGo_22 : decode cX4_canGo 22 = .ok (.aload_n 0, 1) := by decide +kernel
theorem dX4_canGo_23 : decode cX4_canGo 23 = .ok (.getfield 9, 3) := by decide +kernel
theorem dX4_canGo_26 : decode cX4_canGo 26 = .ok (.iload_n 2, 1) := by decide +kernel
theorem dX4_canGo_27 : decode cX4_canGo 27 = .ok (.iaload, 1) := by decide +kernel
theorem dX4_canGo_28 : decode cX4_canGo 28 = .ok (.aload_n 0, 1) := by decide +kernel
theorem dX4_canGo_29 : decode cX4_canGo 29 = .ok (.getfield 38, 3) := by decide +kernel
theorem dX4_canGo_32 : decode cX4_canGo 32 = .ok (.isub, 1) := by decide +kernel
theorem dX4_canGo_33 : decode cX4_canGo 33 = .ok (.invokestatic 63, 3) := by decide +kernel
theorem dX4_canGo_36 : decode cX4_canGo 36 = .ok (.iconst 1, 1) := by decide +kernel
theorem dX4_canGo_37 : decode cX4_canGo 37 = .ok (.if_icmp .ne 46, 3) := by decide +kernel
theorem dX4_canGo_40 : decode cX4_canGo 40 = .ok (.iload_n 3, 1) := by decide +kernel
theorem dX4_canGo_41 : decode cX4_canGo 41 = .ok (.aload_n 0, 1) := by decide +kernel
theorem dX4_canGo_42 : decode cX4_canGo 42 = .ok (.getfield 21, 3) := by decide +kernel
theorem dX4_canGo_45 : decode cX4_canGo 45 = .ok (.aload_n 0, 1) := by decide +kernel
theorem dX4_canGo_46 : decode cX4_canGo 46 = .ok (.getfield 38, 3) := by decide +kernel
theorem dX4_canGo_49 : decode cX4_canGo 49 = .ok (.iaload, 1) := by decide +kernel
theorem dX4_canGo_50 : decode cX4_canGo 50 = .ok (.iconst (-1), 1) := by decide +kernel
theorem dX4_canGo_51 : decode cX4_canGo 51 = .ok (.ixor, 1) := by decide +kernel
theorem dX4_canGo_52 : decode cX4_canGo 52 = .ok (.iand, 1) := by decide +kernel
theorem dX4_canGo_53 : decode cX4_canGo 53 = .ok (.ifCond .ne 30, 3) := by decide +kernel
theorem dX4_canGo_56 : decode cX4_canGo 56 = .ok (.aload_n 1, 1) := by decide +kernel
theorem dX4_canGo_57 : decode cX4_canGo 57 = .ok (.iload_n 3, 1) := by decide +kernel
theorem dX4_canGo_58 : decode cX4_canGo 58 = .ok (.invokevirtual 69, 3) := by decide +kernel
theorem dX4_canGo_61 : decode cX4_canGo 61 = .ok (.aload_n 1, 1) := by decide +kernel
theorem dX4_canGo_62 : decode cX4_canGo 62 = .ok (.getfield 72, 3) := by decide +kernel
theorem dX4_canGo_65 : decode cX4_canGo 65 = .ok (.if_icmp .gt 18, 3) := by decide +kernel
theorem dX4_canGo_68 : decode cX4_canGo 68 = .ok (.aload_n 1, 1) := by decide +kernel
theorem dX4_canGo_69 : decode cX4_canGo 69 = .ok (.iload 4, 2) := by decide +kernel
theorem dX4_canGo_71 : decode cX4_canGo 71 = .ok (.invokevirtual 75, 3) := by decide +kernel
theorem dX4_canGo_74 : decode cX4_canGo 74 = .ok (.iload 4, 2) := by decide +kernel
theorem dX4_canGo_76 : decode cX4_canGo 76 = .ok (.if_icmp .ne 7, 3) := by decide +kernel
theorem dX4_canGo_79 : decode cX4_canGo 79 = .ok (.iconst 1, 1) := by decide +kernel
theorem dX4_canGo_80 : decode cX4_canGo 80 = .ok (.goto 4, 3) := by decide +kernel
theorem dX4_canGo_83 : decode cX4_canGo 83 = .ok (.iconst 0, 1) := by decide +kernel
theorem dX4_canGo_84 : decode cX4_canGo 84 = .ok (.ireturn, 1) := by decide +kernel
theorem dX4_goOne_0 : decode cX4_goOne 0 = .ok (.aload_n 0, 1) := by decide +kernel
theorem dX4_goOne_1 : decode cX4_goOne 1 = .ok (.getfield 15, 3) := by decide +kernel
theorem dX4_goOne_4 : decode cX4_goOne 4 = .ok (.iload_n 2, 1) := by decide +kernel
theorem dX4_goOne_5 : decode cX4_goOne 5 = .ok (.iaload, 1) := by decide +kernel
theorem dX4_goOne_6 : decode cX4_goOne 6 = .ok (.istore_n 3, 1) := by decide +kernel
theorem dX4_goOne_7 : decode cX4_goOne 7 = .ok (.aload_n 0, 1) := by decide +kernel
theorem dX4_goOne_8 : decode cX4_goOne 8 = .ok (.getfield 38, 3) := by decide +kernel
theorem dX4_goOne_11 : decode cX4_goOne 11 = .ok (.aload_n 0, 1) := by decide +kernel
theorem dX4_goOne_12 : decode cX4_goOne 12 = .ok (.getfield 9, 3) := by decide +kernel
theorem dX4_goOne_15 : decode cX4_goOne 15 = .ok (.iload_n 2, 1) := by decide +kernel
theorem dX4_goOne_16 : decode cX4_goOne 16 = .ok (.iaload, 1) := by decide +kernel
theorem dX4_goOne_17 : decode cX4_goOne 17 = .ok (.invokestatic 78, 3) := by decide +kernel
theorem dX4_goOne_20 : decode cX4_goOne 20 = .ok (.istore 4, 2) := by decide +kernel
theorem dX4_goOne_22 : decode cX4_goOne 22 = .ok (.aload_n 1, 1) := by decide +kernel
theorem dX4_goOne_23 : decode cX4_goOne 23 = .ok (.aload_n 0, 1) := by decide +kernel
theorem dX4_goOne_24 : decode cX4_goOne 24 = .ok (.getfield 18, 3) := by decide +kernel
theorem dX4_goOne_27 : decode cX4_goOne 27 = .ok (.iload_n 2, 1) := by decide +kernel
theorem dX4_goOne_28 : decode cX4_goOne 28 = .ok (.iaload, 1) := by decide +kernel
theorem dX4_goOne_29 : decode cX4_goOne 29 = .ok (.invokevirtual 82, 3) := by decide +kernel
theorem dX4_goOne_32 : decode cX4_goOne 32 = .ok (.istore 5, 2) := by decide +kernel
theorem dX4_goOne_34 : decode cX4_goOne 34 = .ok (.aload_n 0, 1) := by decide +kernel
theorem dX4_goOne_35 : decode cX4_goOne 35 = .ok (.getfield 18, 3) := by decide +kernel
theorem dX4_goOne_38 : decode cX4_goOne 38 = .ok (.iload_n 2, 1) := by decide +kernel
theorem dX4_goOne_39 : decode cX4_goOne 39 = .ok (.iconst 1, 1) := by decide +kernel
theorem dX4_goOne_40 : decode cX4_goOne 40 = .ok (.iadd, 1) := by decide +kernel
theorem dX4_goOne_41 : decode cX4_goOne 41 = .ok (.aload_n 0, 1) := by decide +kernel
theorem dX4_goOne_42 : decode cX4_goOne 42 = .ok (.getfield 18, 3) := by decide +kernel
theorem dX4_goOne_45 : decode cX4_goOne 45 = .ok (.iload_n 2, 1) := by decide +kernel
theorem dX4_goOne_46 : decode cX4_goOne 46 = .ok (.iaload, 1) := by decide +kernel
theorem dX4_goOne_47 : decode cX4_goOne 47 = .ok (.aload_n 1, 1) := by decide +kernel
theorem dX4_goOne_48 : decode cX4_goOne 48 = .ok (.iload 4, 2) := by decide +kernel
theorem dX4_goOne_50 : decode cX4_goOne 50 = .ok (.aload_n 1, 1) := by decide +kernel
theorem dX4_goOne_51 : decode cX4_goOne 51 = .ok (.iload_n 3, 1) := by decide +kernel
theorem dX4_goOne_52 : decode cX4_goOne 52 = .ok (.invokevirtual 69, 3) := by decide +kernel
theorem dX4_goOne_55 : decode cX4_goOne 55 = .ok (.iload 5, 2) := by decide +kernel
theorem dX4_goOne_57 : decode cX4_goOne 57 = .ok (.invokevirtual 86, 3) := by decide +kernel
theorem dX4_goOne_60 : decode cX4_goOne 60 = .ok (.iadd, 1) := by decide +kernel
theorem dX4_goOne_61 : decode cX4_goOne 61 = .ok (.iastore, 1) := by decide +kernel
theorem dX4_goOne_62 : decode cX4_goOne 62 = .ok (.iload_n 3, 1) := by decide +kernel
theorem dX4_goOne_63 : decode cX4_goOne 63 = .ok (.ifCond .eq 36, 3) := by decide +kernel
theorem dX4_goOne_66 : decode cX4_goOne 66 = .ok (.aload_n 0, 1) := by decide +kernel
theorem dX4_goOne_67 : decode cX4_goOne 67 = .ok (.dup, 1) := by decide +kernel
theorem dX4_goOne_68 : decode cX4_goOne 68 = .ok (.getfield 28, 3) := by decide +kernel
theorem dX4_goOne_71 : decode cX4_goOne 71 = .ok (.bipush 10, 2) := by decide +kernel
theorem dX4_goOne_73 : decode cX4_goOne 73 = .ok (.aload_n 1, 1) := by decide +kernel
theorem dX4_goOne_74 : decode cX4_goOne 74 = .ok (.iload 4, 2) := by decide +kernel
theorem dX4_goOne_76 : decode cX4_goOne 76 = .ok (.iload 5, 2) := by decide +kernel
theorem dX4_goOne_78 : decode cX4_goOne 78 = .ok (.invokevirtual 90, 3) := by decide +kernel
theorem dX4_goOne_81 : decode cX4_goOne 81 = .ok (.isub, 1) := by decide +kernel
theorem dX4_goOne_82 : decode cX4_goOne 82 = .ok (.i2l, 1) := by decide +kernel
theorem dX4_goOne_83 : decode cX4_goOne 83 = .ok (.lmul, 1) := by decide +kernel
theorem dX4_goOne_84 : decode cX4_goOne 84 = .ok (.putfield 28, 3) := by decide +kernel
theorem dX4_goOne_87 : decode cX4_goOne 87 = .ok (.aload_n 0, 1) := by decide +kernel
theorem dX4_goOne_88 : decode cX4_goOne 88 = .ok (.dup, 1) := by decide +kernel
theorem dX4_goOne_89 : decode cX4_goOne 89 = .ok (.getfield 32, 3) := by decide +kernel
theorem dX4_goOne_92 : decode cX4_goOne 92 = .ok (.ldc2_w 94, 3) := by decide +kernel
theorem dX4_goOne_95 : decode cX4_goOne 95 = .ok (.lmul, 1) := by decide +kernel
theorem dX4_goOne_96 : decode cX4_goOne 96 = .ok (.putfield 32, 3) := by decide +kernel
theorem dX4_goOne_99 : decode cX4_goOne 99 = .ok (.aload_n 0, 1) := by decide +kernel
theorem dX4_goOne_100 : decode cX4_goOne 100 = .ok (.getfield 21, 3) := by decide +kernel
theorem dX4_goOne_103 : decode cX4_goOne 103 = .ok (.aload_n 0, 1) := by decide +kernel
theorem dX4_goOne_104 : decode cX4_goOne 104 = .ok (.getfield 38, 3) := by decide +kernel
theorem dX4_goOne_107 : decode cX4_goOne 107 = .ok (.dup2, 1) := by decide +kernel
theorem dX4_goOne_108 : decode cX4_goOne 108 = .ok (.iaload, 1) := by decide +kernel
theorem dX4_goOne_109 : decode cX4_goOne 109 = .ok (.iload_n 3, 1) := by decide +kernel
theorem dX4_goOne_110 : decode cX4_goOne 110 = .ok (.iconst (-1), 1) := by decide +kernel
theorem dX4_goOne_111 : decode cX4_goOne 111 = .ok (.ixor, 1) := by decide +kernel
theorem dX4_goOne_112 : decode cX4_goOne 112 = .ok (.iand, 1) := by decide +kernel
theorem dX4_goOne_113 : decode cX4_goOne 113 = .ok (.iastore, 1) := by decide +kernel
theorem dX4_goOne_114 : decode cX4_goOne 114 = .ok (.aload_n 0, 1) := by decide +kernel
theorem dX4_goOne_115 : decode cX4_goOne 115 = .ok (.aload_n 0, 1) := by decide +kernel
theorem dX4_goOne_116 : decode cX4_goOne 116 = .ok (.getfield 9, 3) := by decide +kernel
theorem dX4_goOne_119 : decode cX4_goOne 119 = .ok (.iload_n 2, 1) := by decide +kernel
theorem dX4_goOne_120 : decode cX4_goOne 120 = .ok (.iaload, 1) := by decide +kernel
theorem dX4_goOne_121 : decode cX4_goOne 121 = .ok (.putfield 38, 3) := by decide +kernel
theorem dX4_goOne_124 : decode cX4_goOne 124 = .ok (.aload_n 0, 1) := by decide +kernel
theorem dX4_goOne_125 : decode cX4_goOne 125 = .ok (.getfield 21, 3) := by decide +kernel
theorem dX4_goOne_128 : decode cX4_goOne 128 = .ok (.aload_n 0, 1) := by decide +kernel
theorem dX4_goOne_129 : decode cX4_goOne 129 = .ok (.getfield 38, 3) := by decide +kernel
theorem dX4_goOne_132 : decode cX4_goOne 132 = .ok (.dup2, 1) := by decide +kernel
theorem dX4_goOne_133 : decode cX4_goOne 133 = .ok (.iaload, 1) := by decide +kernel
theorem dX4_goOne_134 : decode cX4_goOne 134 = .ok (.iload_n 3, 1) := by decide +kernel
theorem dX4_goOne_135 : decode cX4_goOne 135 = .ok (.ior, 1) := by decide +kernel
theorem dX4_goOne_136 : decode cX4_goOne 136 = .ok (.iastore, 1) := by decide +kernel
theorem dX4_goOne_137 : decode cX4_goOne 137 = .ok (.return_, 1) := by decide +kernel
theorem dX4_cutShare_0 : decode cX4_cutShare 0 = .ok (.aload_n 0, 1) := by decide +kernel
theorem dX4_cutShare_1 : decode cX4_cutShare 1 = .ok (.getfield 32, 3) := by decide +kernel
theorem dX4_cutShare_4 : decode cX4_cutShare 4 = .ok (.lstore_n 1, 1) := by decide +kernel
theorem dX4_cutShare_5 : decode cX4_cutShare 5 = .ok (.aload_n 0, 1) := by decide +kernel
theorem dX4_cutShare_6 : decode cX4_cutShare 6 = .ok (.getfield 28, 3) := by decide +kernel
theorem dX4_cutShare_9 : decode cX4_cutShare 9 = .ok (.lstore_n 3, 1) := by decide +kernel
theorem dX4_cutShare_10 : decode cX4_cutShare 10 = .ok (.iconst 0, 1) := by decide +kernel
theorem dX4_cutShare_11 : decode cX4_cutShare 11 = .ok (.istore 5, 2) := by decide +kernel
theorem dX4_cutShare_13 : decode cX4_cutShare 13 = .ok (.iload 5, 2) := by decide +kernel
theorem dX4_cutShare_15 : decode cX4_cutShare 15 = .ok (.bipush 100, 2) := by decide +kernel
theorem dX4_cutShare_17 : decode cX4_cutShare 17 = .ok (.if_icmp .ge 25, 3) := by decide +kernel
theorem dX4_cutShare_20 : decode cX4_cutShare 20 = .ok (.lload_n 3, 1) := by decide +kernel
theorem dX4_cutShare_21 : decode cX4_cutShare 21 = .ok (.lconst 0, 1) := by decide +kernel
theorem dX4_cutShare_22 : decode cX4_cutShare 22 = .ok (.lcmp, 1) := by decide +kernel
theorem dX4_cutShare_23 : decode cX4_cutShare 23 = .ok (.ifCond .eq 19, 3) := by decide +kernel
theorem dX4_cutShare_26 : decode cX4_cutShare 26 = .ok (.lload_n 1, 1) := by decide +kernel
theorem dX4_cutShare_27 : decode cX4_cutShare 27 = .ok (.lload_n 3, 1) := by decide +kernel
theorem dX4_cutShare_28 : decode cX4_cutShare 28 = .ok (.lrem, 1) := by decide +kernel
theorem dX4_cutShare_29 : decode cX4_cutShare 29 = .ok (.lstore 6, 2) := by decide +kernel
theorem dX4_cutShare_31 : decode cX4_cutShare 31 = .ok (.lload_n 3, 1) := by decide +kernel
theorem dX4_cutShare_32 : decode cX4_cutShare 32 = .ok (.lstore_n 1, 1) := by decide +kernel
theorem dX4_cutShare_33 : decode cX4_cutShare 33 = .ok (.lload 6, 2) := by decide +kernel
theorem dX4_cutShare_35 : decode cX4_cutShare 35 = .ok (.lstore_n 3, 1) := by decide +kernel
theorem dX4_cutShare_36 : decode cX4_cutShare 36 = .ok (.iinc 5 1, 3) := by decide +kernel
theorem dX4_cutShare_39 : decode cX4_cutShare 39 = .ok (.goto (-26), 3) := by decide +kernel
theorem dX4_cutShare_42 : decode cX4_cutShare 42 = .ok (.lload_n 1, 1) := by decide +kernel
theorem dX4_cutShare_43 : decode cX4_cutShare 43 = .ok (.lconst 1, 1) := by decide +kernel
theorem dX4_cutShare_44 : decode cX4_cutShare 44 = .ok (.lcmp, 1) := by decide +kernel
theorem dX4_cutShare_45 : decode cX4_cutShare 45 = .ok (.ifCond .le 23, 3) := by decide +kernel
theorem dX4_cutShare_48 : decode cX4_cutShare 48 = .ok (.aload_n 0, 1) := by decide +kernel
theorem dX4_cutShare_49 : decode cX4_cutShare 49 = .ok (.dup, 1) := by decide +kernel
theorem dX4_cutShare_50 : decode cX4_cutShare 50 = .ok (.getfield 28, 3) := by decide +kernel
theorem dX4_cutShare_53 : decode cX4_cutShare 53 = .ok (.lload_n 1, 1) := by decide +kernel
theorem dX4_cutShare_54 : decode cX4_cutShare 54 = .ok (.ldiv, 1) := by decide +kernel
theorem dX4_cutShare_55 : decode cX4_cutShare 55 = .ok (.putfield 28, 3) := by decide +kernel
theorem dX4_cutShare_58 : decode cX4_cutShare 58 = .ok (.aload_n 0, 1) := by decide +kernel
theorem dX4_cutShare_59 : decode cX4_cutShare 59 = .ok (.dup, 1) := by decide +kernel
theorem dX4_cutShare_60 : decode cX4_cutShare 60 = .ok (.getfield 32, 3) := by decide +kernel
theorem dX4_cutShare_63 : decode cX4_cutShare 63 = .ok (.lload_n 1, 1) := by decide +kernel
theorem dX4_cutShare_64 : decode cX4_cutShare 64 = .ok (.ldiv, 1) := by decide +kernel
theorem dX4_cutShare_65 : decode cX4_cutShare 65 = .ok (.putfield 32, 3) := by decide +kernel
theorem dX4_cutShare_68 : decode cX4_cutShare 68 = .ok (.return_, 1) := by decide +kernel
theorem dX4_minutes_0 : decode cX4_minutes 0 = .ok (.aload_n 0, 1) := by decide +kernel
theorem dX4_minutes_1 : decode cX4_minutes 1 = .ok (.getfield 18, 3) := by decide +kernel
theorem dX4_minutes_4 : decode cX4_minutes 4 = .ok (.aload_n 0, 1) := by decide +kernel
theorem dX4_minutes_5 : decode cX4_minutes 5 = .ok (.getfield 35, 3) := by decide +kernel
theorem dX4_minutes_8 : decode cX4_minutes 8 = .ok (.iaload, 1) := by decide +kernel
theorem dX4_minutes_9 : decode cX4_minutes 9 = .ok (.ireturn, 1) := by decide +kernel
theorem dX4_thingsAt_0 : decode cX4_thingsAt 0 = .ok (.aload_n 0, 1) := by decide +kernel
theorem dX4_thingsAt_1 : decode cX4_thingsAt 1 = .ok (.getfield 21, 3) := by decide +kernel
theorem dX4_thingsAt_4 : decode cX4_thingsAt 4 = .ok (.iload_n 1, 1) := by decide +kernel
theorem dX4_thingsAt_5 : decode cX4_thingsAt 5 = .ok (.iaload, 1) := by decide +kernel
theorem dX4_thingsAt_6 : decode cX4_thingsAt 6 = .ok (.ireturn, 1) := by decide +kernel
theorem dX4_spotOf_0 : decode cX4_spotOf 0 = .ok (.iconst 0, 1) := by decide +kernel
theorem dX4_spotOf_1 : decode cX4_spotOf 1 = .ok (.istore_n 3, 1) := by decide +kernel
theorem dX4_spotOf_2 : decode cX4_spotOf 2 = .ok (.iconst 0, 1) := by decide +kernel
theorem dX4_spotOf_3 : decode cX4_spotOf 3 = .ok (.istore 4, 2) := by decide +kernel
theorem dX4_spotOf_5 : decode cX4_spotOf 5 = .ok (.iload 4, 2) := by decide +kernel
theorem dX4_spotOf_7 : decode cX4_spotOf 7 = .ok (.aload_n 0, 1) := by decide +kernel
theorem dX4_spotOf_8 : decode cX4_spotOf 8 = .ok (.getfield 35, 3) := by decide +kernel
theorem dX4_spotOf_11 : decode cX4_spotOf 11 = .ok (.if_icmp .ge 58, 3) := by decide +kernel
theorem dX4_spotOf_14 : decode cX4_spotOf 14 = .ok (.aload_n 0, 1) := by decide +kernel
theorem dX4_spotOf_15 : decode cX4_spotOf 15 = .ok (.getfield 18, 3) := by decide +kernel
theorem dX4_spotOf_18 : decode cX4_spotOf 18 = .ok (.iload 4, 2) := by decide +kernel
theorem dX4_spotOf_20 : decode cX4_spotOf 20 = .ok (.iaload, 1) := by decide +kernel
theorem dX4_spotOf_21 : decode cX4_spotOf 21 = .ok (.iload_n 2, 1) := by decide +kernel
theorem dX4_spotOf_22 : decode cX4_spotOf 22 = .ok (.if_icmp .gt 47, 3) := by decide +kernel
theorem dX4_spotOf_25 : decode cX4_spotOf 25 = .ok (.aload_n 0, 1) := by decide +kernel
theorem dX4_spotOf_26 : decode cX4_spotOf 26 = .ok (.getfield 15, 3) := by decide +kernel
theorem dX4_spotOf_29 : decode cX4_spotOf 29 = .ok (.iload 4, 2) := by decide +kernel
theorem dX4_spotOf_31 : decode cX4_spotOf 31 = .ok (.iaload, 1) := by decide +kernel
theorem dX4_spotOf_32 : decode cX4_spotOf 32 = .ok (.iload_n 1, 1) := by decide +kernel
theorem dX4_spotOf_33 : decode cX4_spotOf 33 = .ok (.invokestatic 96, 3) := by decide +kernel
theorem dX4_spotOf_36 : decode cX4_spotOf 36 = .ok (.ifCond .eq 27, 3) := by decide +kernel
theorem dX4_spotOf_39 : decode cX4_spotOf 39 = .ok (.iload_n 2, 1) := by decide +kernel
theorem dX4_spotOf_40 : decode cX4_spotOf 40 = .ok (.aload_n 0, 1) := by decide +kernel
theorem dX4_spotOf_41 : decode cX4_spotOf 41 = .ok (.getfield 18, 3) := by decide +kernel
theorem dX4_spotOf_44 : decode cX4_spotOf 44 = .ok (.iload 4, 2) := by decide +kernel
theorem dX4_spotOf_46 : decode cX4_spotOf 46 = .ok (.iconst 1, 1) := by decide +kernel
theorem dX4_spotOf_47 : decode cX4_spotOf 47 = .ok (.iadd, 1) := by decide +kernel
theorem dX4_spotOf_48 : decode cX4_spotOf 48 = .ok (.iaload, 1) := by decide +kernel
theorem dX4_spotOf_49 : decode cX4_spotOf 49 = .ok (.if_icmp .ge 6, 3) := by decide +kernel
theorem dX4_spotOf_52 : decode cX4_spotOf 52 = .ok (.bipush (-9), 2) := by decide +kernel
theorem dX4_spotOf_54 : decode cX4_spotOf 54 = .ok (.ireturn, 1) := by decide +kernel
theorem dX4_spotOf_55 : decode cX4_spotOf 55 = .ok (.aload_n 0, 1) := by decide +kernel
theorem dX4_spotOf_56 : decode cX4_spotOf 56 = .ok (.getfield 9, 3) := by decide +kernel
theorem dX4_spotOf_59 : decode cX4_spotOf 59 = .ok (.iload 4, 2) := by decide +kernel
theorem dX4_spotOf_61 : decode cX4_spotOf 61 = .ok (.iaload, 1) := by decide +kernel
theorem dX4_spotOf_62 : decode cX4_spotOf 62 = .ok (.istore_n 3, 1) := by decide +kernel
theorem dX4_spotOf_63 : decode cX4_spotOf 63 = .ok (.iinc 4 1, 3) := by decide +kernel
theorem dX4_spotOf_66 : decode cX4_spotOf 66 = .ok (.goto (-61), 3) := by decide +kernel
theorem dX4_spotOf_69 : decode cX4_spotOf 69 = .ok (.iload_n 3, 1) := by decide +kernel
theorem dX4_spotOf_70 : decode cX4_spotOf 70 = .ok (.ireturn, 1) := by decide +kernel
theorem dJ7_fill_53178_0 : decode cJ7_fill_53178 0 = .ok (.iconst 0, 1) := by decide +kernel
theorem dJ7_fill_53178_1 : decode cJ7_fill_53178 1 = .ok (.istore_n 2, 1) := by decide +kernel
theorem dJ7_fill_53178_2 : decode cJ7_fill_53178 2 = .ok (.aload_n 0, 1) := by decide +kernel
theorem dJ7_fill_53178_3 : decode cJ7_fill_53178 3 = .ok (.arraylength, 1) := by decide +kernel
theorem dJ7_fill_53178_4 : decode cJ7_fill_53178 4 = .ok (.istore_n 3, 1) := by decide +kernel
theorem dJ7_fill_53178_5 : decode cJ7_fill_53178 5 = .ok (.iload_n 2, 1) := by decide +kernel
theorem dJ7_fill_53178_6 : decode cJ7_fill_53178 6 = .ok (.iload_n 3, 1) := by decide +kernel
theorem dJ7_fill_53178_7 : decode cJ7_fill_53178 7 = .ok (.if_icmp .ge 13, 3) := by decide +kernel
theorem dJ7_fill_53178_10 : decode cJ7_fill_53178 10 = .ok (.aload_n 0, 1) := by decide +kernel
theorem dJ7_fill_53178_11 : decode cJ7_fill_53178 11 = .ok (.iload_n 2, 1) := by decide +kernel
theorem dJ7_fill_53178_12 : decode cJ7_fill_53178 12 = .ok (.iload_n 1, 1) := by decide +kernel
theorem dJ7_fill_53178_13 : decode cJ7_fill_53178 13 = .ok (.iastore, 1) := by decide +kernel
theorem dJ7_fill_53178_14 : decode cJ7_fill_53178 14 = .ok (.iinc 2 1, 3) := by decide +kernel
theorem dJ7_fill_53178_17 : decode cJ7_fill_53178 17 = .ok (.goto (-12), 3) := by decide +kernel
theorem dJ7_fill_53178_20 : decode cJ7_fill_53178 20 = .ok (.return_, 1) := by decide +kernel
end
section
theorem dX2_init_0 : decode cX2_init 0 = .ok (.aload_n 0, 1) := by decide +kernel
theorem dX2_init_1 : decode cX2_init 1 = .ok (.invokespecial 5, 3) := by decide +kernel
theorem dX2_init_4 : decode cX2_init 4 = .ok (.aload_n 0, 1) := by decide +kernel
theorem dX2_init_5 : decode cX2_init 5 = .ok (.bipush 16, 2) := by decide +kernel
theorem dX2_init_7 : decode cX2_init 7 = .ok (.newarray .boolean, 2) := by decide +kernel
theorem dX2_init_9 : decode cX2_init 9 = .ok (.putfield 11, 3) := by decide +kernel
theorem dX2_init_12 : decode cX2_init 12 = .ok (.aload_n 0, 1) := by decide +kernel
theorem dX2_init_13 : decode cX2_init 13 = .ok (.bipush 16, 2) := by decide +kernel
theorem dX2_init_15 : decode cX2_init 15 = .ok (.newarray .boolean, 2) := by decide +kernel
theorem dX2_init_17 : decode cX2_init 17 = .ok (.putfield 15, 3) := by decide +kernel
theorem dX2_init_20 : decode cX2_init 20 = .ok (.aload_n 0, 1) := by decide +kernel
theorem dX2_init_21 : decode cX2_init 21 = .ok (.bipush 16, 2) := by decide +kernel
theorem dX2_init_23 : decode cX2_init 23 = .ok (.newarray .int, 2) := by decide +kernel
theorem dX2_init_25 : decode cX2_init 25 = .ok (.putfield 18, 3) := by decide +kernel
theorem dX2_init_28 : decode cX2_init 28 = .ok (.aload_n 0, 1) := by decide +kernel
theorem dX2_init_29 : decode cX2_init 29 = .ok (.bipush 96, 2) := by decide +kernel
theorem dX2_init_31 : decode cX2_init 31 = .ok (.newarray .int, 2) := by decide +kernel
theorem dX2_init_33 : decode cX2_init 33 = .ok (.putfield 22, 3) := by decide +kernel
theorem dX2_init_36 : decode cX2_init 36 = .ok (.aload_n 0, 1) := by decide +kernel
theorem dX2_init_37 : decode cX2_init 37 = .ok (.sipush 1024, 3) := by decide +kernel
theorem dX2_init_40 : decode cX2_init 40 = .ok (.newarray .int, 2) := by decide +kernel
theorem dX2_init_42 : decode cX2_init 42 = .ok (.putfield 25, 3) := by decide +kernel
theorem dX2_init_45 : decode cX2_init 45 = .ok (.aload_n 0, 1) := by decide +kernel
theorem dX2_init_46 : decode cX2_init 46 = .ok (.sipush 1024, 3) := by decide +kernel
theorem dX2_init_49 : decode cX2_init 49 = .ok (.newarray .int, 2) := by decide +kernel
theorem dX2_init_51 : decode cX2_init 51 = .ok (.putfield 28, 3) := by decide +kernel
theorem dX2_init_54 : decode cX2_init 54 = .ok (.aload_n 0, 1) := by decide +kernel
theorem dX2_init_55 : decode cX2_init 55 = .ok (.bipush 32, 2) := by decide +kernel
theorem dX2_init_57 : decode cX2_init 57 = .ok (.newarray .int, 2) := by decide +kernel
theorem dX2_init_59 : decode cX2_init 59 = .ok (.putfield 31, 3) := by decide +kernel
theorem dX2_init_62 : decode cX2_init 62 = .ok (.aload_n 0, 1) := by decide +kernel
theorem dX2_init_63 : decode cX2_init 63 = .ok (.sipush 1024, 3) := by decide +kernel
theorem dX2_init_66 : decode cX2_init 66 = .ok (.newarray .int, 2) := by decide +kernel
theorem dX2_init_68 : decode cX2_init 68 = .ok (.putfield 34, 3) := by decide +kernel
theorem dX2_init_71 : decode cX2_init 71 = .ok (.aload_n 0, 1) := by decide +kernel
theorem dX2_init_72 : decode cX2_init 72 = .ok (.sipush 1024, 3) := by decide +kernel
theorem dX2_init_75 : decode cX2_init 75 = .ok (.newarray .int, 2) := by decide +kernel
theorem dX2_init_77 : decode cX2_init 77 = .ok (.putfield 37, 3) := by decide +kernel
theorem dX2_init_80 : decode cX2_init 80 = .ok (.aload_n 0, 1) := by decide +kernel
theorem dX2_init_81 : decode cX2_init 81 = .ok (.sipush 1024, 3) := by decide +kernel
theorem dX2_init_84 : decode cX2_init 84 = .ok (.newarray .int, 2) := by decide +kernel
theorem dX2_init_86 : decode cX2_init 86 = .ok (.putfield 40, 3) := by decide +kernel
theorem dX2_init_89 : decode cX2_init 89 = .ok (.return_, 1) := by decide +kernel
theorem dX2_least_0 : decode cX2_least 0 = .ok (.aload_n 0, 1) := by decide +kernel
theorem dX2_least_1 : decode cX2_least 1 = .ok (.aload_n 1, 1) := by decide +kernel
theorem dX2_least_2 : decode cX2_least 2 = .ok (.iload_n 2, 1) := by decide +kernel
theorem dX2_least_3 : decode cX2_least 3 = .ok (.invokevirtual 43, 3) := by decide +kernel
theorem dX2_least_6 : decode cX2_least 6 = .ok (.aload_n 0, 1) := by decide +kernel
theorem dX2_least_7 : decode cX2_least 7 = .ok (.iconst 0, 1) := by decide +kernel
theorem dX2_least_8 : decode cX2_least 8 = .ok (.iconst 0, 1) := by decide +kernel
theorem dX2_least_9 : decode cX2_least 9 = .ok (.invokevirtual 47, 3) := by decide +kernel
theorem dX2_least_12 : decode cX2_least 12 = .ok (.iconst 0, 1) := by decide +kernel
theorem dX2_least_13 : decode cX2_least 13 = .ok (.istore_n 3, 1) := by decide +kernel
theorem dX2_least_14 : decode cX2_least 14 = .ok (.iload_n 3, 1) := by decide +kernel
theorem dX2_least_15 : decode cX2_least 15 = .ok (.ldc 51, 2) := by decide +kernel
theorem dX2_least_17 : decode cX2_least 17 = .ok (.if_icmp .ge 36, 3) := by decide +kernel
theorem dX2_least_20 : decode cX2_least 20 = .ok (.aload_n 0, 1) := by decide +kernel
theorem dX2_least_21 : decode cX2_least 21 = .ok (.getfield 52, 3) := by decide +kernel
theorem dX2_least_24 : decode cX2_least 24 = .ok (.ifCond .le 29, 3) := by decide +kernel
theorem dX2_least_27 : decode cX2_least 27 = .ok (.aload_n 0, 1) := by decide +kernel
theorem dX2_least_28 : decode cX2_least 28 = .ok (.iload_n 3, 1) := by decide +kernel
theorem dX2_least_29 : decode cX2_least 29 = .ok (.invokevirtual 56, 3) := by decide +kernel
theorem dX2_least_32 : decode cX2_least 32 = .ok (.aload_n 0, 1) := by decide +kernel
theorem dX2_least_33 : decode cX2_least 33 = .ok (.getfield 25, 3) := by decide +kernel
theorem dX2_least_36 : decode cX2_least 36 = .ok (.aload_n 0, 1) := by decide +kernel
theorem dX2_least_37 : decode cX2_least 37 = .ok (.getfield 60, 3) := by decide +kernel
theorem dX2_least_40 : decode cX2_least 40 = .ok (.iaload, 1) := by decide +kernel
theorem dX2_least_41 : decode cX2_least 41 = .ok (.iload_n 3, 1) := by decide +kernel
theorem dX2_least_42 : decode cX2_least 42 = .ok (.if_icmp .ne 5, 3) := by decide +kernel
theorem dX2_least_45 : decode cX2_least 45 = .ok (.iload_n 3, 1) := by decide +kernel
theorem dX2_least_46 : decode cX2_least 46 = .ok (.ireturn, 1) := by decide +kernel
theorem dX2_least_47 : decode cX2_least 47 = .ok (.iinc 3 1, 3) := by decide +kernel
theorem dX2_least_50 : decode cX2_least 50 = .ok (.goto (-36), 3) := by decide +kernel
theorem dX2_least_53 : decode cX2_least 53 = .ok (.bipush (-9), 2) := by decide +kernel
theorem dX2_least_55 : decode cX2_least 55 = .ok (.ireturn, 1) := by decide +kernel
theorem dX2_prepare_0 : decode cX2_prepare 0 = .ok (.aload_n 0, 1) := by decide +kernel
theorem dX2_prepare_1 : decode cX2_prepare 1 = .ok (.aload_n 1, 1) := by decide +kernel
theorem dX2_prepare_2 : decode cX2_prepare 2 = .ok (.getfield 63, 3) := by decide +kernel
theorem dX2_prepare_5 : decode cX2_prepare 5 = .ok (.putfield 68, 3) := by decide +kernel
theorem dX2_prepare_8 : decode cX2_prepare 8 = .ok (.aload_n 0, 1) := by decide +kernel
theorem dX2_prepare_9 : decode cX2_prepare 9 = .ok (.aload_n 1, 1) := by decide +kernel
theorem dX2_prepare_10 : decode cX2_prepare 10 = .ok (.getfield 69, 3) := by decide +kernel
theorem dX2_prepare_13 : decode cX2_prepare 13 = .ok (.putfield 72, 3) := by decide +kernel
theorem dX2_prepare_16 : decode cX2_prepare 16 = .ok (.aload_n 0, 1) := by decide +kernel
theorem dX2_prepare_17 : decode cX2_prepare 17 = .ok (.aload_n 0, 1) := by decide +kernel
theorem dX2_prepare_18 : decode cX2_prepare 18 = .ok (.getfield 72, 3) := by decide +kernel
theorem dX2_prepare_21 : decode cX2_prepare 21 = .ok (.putfield 60, 3) := by decide +kernel
theorem dX2_prepare_24 : decode cX2_prepare 24 = .ok (.iconst 0, 1) := by decide +kernel
theorem dX2_prepare_25 : decode cX2_prepare 25 = .ok (.istore_n 3, 1) := by decide +kernel
theorem dX2_prepare_26 : decode cX2_prepare 26 = .ok (.iload_n 3, 1) := by decide +kernel
theorem dX2_prepare_27 : decode cX2_prepare 27 = .ok (.aload_n 0, 1) := by decide +kernel
theorem dX2_prepare_28 : decode cX2_prepare 28 = .ok (.getfield 68, 3) := by decide +kernel
theorem dX2_prepare_31 : decode cX2_prepare 31 = .ok (.if_icmp .ge 28, 3) := by decide +kernel
theorem dX2_prepare_34 : decode cX2_prepare 34 = .ok (.aload_n 0, 1) := by decide +kernel
theorem dX2_prepare_35 : decode cX2_prepare 35 = .ok (.dup, 1) := by decide +kernel
theorem dX2_prepare_36 : decode cX2_prepare 36 = .ok (.getfield 60, 3) := by decide +kernel
theorem dX2_prepare_39 : decode cX2_prepare 39 = .ok (.aload_n 0, 1) := by decide +kernel
theorem dX2_prepare_40 : decode cX2_prepare 40 = .ok (.getfield 72, 3) := by decide +kernel
theorem dX2_prepare_43 : decode cX2_prepare 43 = .ok (.iconst 2, 1) := by decide +kernel
theorem dX2_prepare_44 : decode cX2_prepare 44 = .ok (.iload_n 3, 1) := by decide +kernel
theorem dX2_prepare_45 : decode cX2_prepare 45 = .ok (.imul, 1) := by decide +kernel
theorem dX2_prepare_46 : decode cX2_prepare 46 = .ok (.iconst 2, 1) := by decide +kernel
theorem dX2_prepare_47 : decode cX2_prepare 47 = .ok (.iadd, 1) := by decide +kernel
theorem dX2_prepare_48 : decode cX2_prepare 48 = .ok (.ishl, 1) := by decide +kernel
theorem dX2_prepare_49 : decode cX2_prepare 49 = .ok (.iadd, 1) := by decide +kernel
theorem dX2_prepare_50 : decode cX2_prepare 50 = .ok (.putfield 60, 3) := by decide +kernel
theorem dX2_prepare_53 : decode cX2_prepare 53 = .ok (.iinc 3 1, 3) := by decide +kernel
theorem dX2_prepare_56 : decode cX2_prepare 56 = .ok (.goto (-30), 3) := by decide +kernel
theorem dX2_prepare_59 : decode cX2_prepare 59 = .ok (.aload_n 0, 1) := by decide +kernel
theorem dX2_prepare_60 : decode cX2_prepare 60 = .ok (.aload_n 1, 1) := by decide +kernel
theorem dX2_prepare_61 : decode cX2_prepare 61 = .ok (.getfield 75, 3) := by decide +kernel
theorem dX2_prepare_64 : decode cX2_prepare 64 = .ok (.bipush (-9), 2) := by decide +kernel
theorem dX2_prepare_66 : decode cX2_prepare 66 = .ok (.if_icmp .ne 8, 3) := by decide +kernel
theorem dX2_prepare_69 : decode cX2_prepare 69 = .ok (.ldc 78, 2) := by decide +kernel
theorem dX2_prepare_71 : decode cX2_prepare 71 = .ok (.goto 7, 3) := by decide +kernel
theorem dX2_prepare_74 : decode cX2_prepare 74 = .ok (.aload_n 1, 1) := by decide +kernel
theorem dX2_prepare_75 : decode cX2_prepare 75 = .ok (.getfield 75, 3) := by decide +kernel
theorem dX2_prepare_78 : decode cX2_prepare 78 = .ok (.putfield 79, 3) := by decide +kernel
theorem dX2_prepare_81 : decode cX2_prepare 81 = .ok (.iconst 0, 1) := by decide +kernel
theorem dX2_prepare_82 : decode cX2_prepare 82 = .ok (.istore_n 3, 1) := by decide +kernel
theorem dX2_prepare_83 : decode cX2_prepare 83 = .ok (.iload_n 3, 1) := by decide +kernel
theorem dX2_prepare_84 : decode cX2_prepare 84 = .ok (.iconst 1, 1) := by decide +kernel
theorem dX2_prepare_85 : decode cX2_prepare 85 = .ok (.aload_n 0, 1) := by decide +kernel
theorem dX2_prepare_86 : decode cX2_prepare 86 = .ok (.getfield 68, 3) := by decide +kernel
theorem dX2_prepare_89 : decode cX2_prepare 89 = .ok (.ishl, 1) := by decide +kernel
theorem dX2_prepare_90 : decode cX2_prepare 90 = .ok (.if_icmp .ge 16, 3) := by decide +kernel
theorem dX2_prepare_93 : decode cX2_prepare 93 = .ok (.aload_n 0, 1) := by decide +kernel
theorem dX2_prepare_94 : decode cX2_prepare 94 = .ok (.aload_n 1, 1) := by decide +kernel
theorem dX2_prepare_95 : decode cX2_prepare 95 = .ok (.iload_n 3, 1) := by decide +kernel
theorem dX2_prepare_96 : decode cX2_prepare 96 = .ok (.iload_n 2, 1) := by decide +kernel
theorem dX2_prepare_97 : decode cX2_prepare 97 = .ok (.invokevirtual 82, 3) := by decide +kernel
theorem dX2_prepare_100 : decode cX2_prepare 100 = .ok (.iinc 3 1, 3) := by decide +kernel
theorem dX2_prepare_103 : decode cX2_prepare 103 = .ok (.goto (-20), 3) := by decide +kernel
theorem dX2_prepare_106 : decode cX2_prepare 106 = .ok (.aload_n 0, 1) := by decide +kernel
theorem dX2_prepare_107 : decode cX2_prepare 107 = .ok (.iconst 0, 1) := by decide +kernel
theorem dX2_prepare_108 : decode cX2_prepare 108 = .ok (.putfield 86, 3) := by decide +kernel
theorem dX2_prepare_111 : decode cX2_prepare 111 = .ok (.aload_n 0, 1) := by decide +kernel
theorem dX2_prepare_112 : decode cX2_prepare 112 = .ok (.iconst 0, 1) := by decide +kernel
theorem dX2_prepare_113 : decode cX2_prepare 113 = .ok (.putfield 52, 3) := by decide +kernel
theorem dX2_prepare_116 : decode cX2_prepare 116 = .ok (.aload_n 0, 1) := by decide +kernel
theorem dX2_prepare_117 : decode cX2_prepare 117 = .ok (.getfield 25, 3) := by decide +kernel
theorem dX2_prepare_120 : decode cX2_prepare 120 = .ok (.ldc 78, 2) := by decide +kernel
theorem dX2_prepare_122 : decode cX2_prepare 122 = .ok (.invokestatic 89, 3) := by decide +kernel
theorem dX2_prepare_125 : decode cX2_prepare 125 = .ok (.aload_n 0, 1) := by decide +kernel
theorem dX2_prepare_126 : decode cX2_prepare 126 = .ok (.getfield 31, 3) := by decide +kernel
theorem dX2_prepare_129 : decode cX2_prepare 129 = .ok (.iconst (-1), 1) := by decide +kernel
theorem dX2_prepare_130 : decode cX2_prepare 130 = .ok (.invokestatic 89, 3) := by decide +kernel
theorem dX2_prepare_133 : decode cX2_prepare 133 = .ok (.return_, 1) := by decide +kernel
theorem dX2_prepareSet_0 : decode cX2_prepareSet 0 = .ok (.aload_n 1, 1) := by decide +kernel
theorem dX2_prepareSet_1 : decode cX2_prepareSet 1 = .ok (.iload_n 2, 1) := by decide +kernel
theorem dX2_prepareSet_2 : decode cX2_prepareSet 2 = .ok (.invokevirtual 95, 3) := by decide +kernel
theorem dX2_prepareSet_5 : decode cX2_prepareSet 5 = .ok (.istore 4, 2) := by decide +kernel
theorem dX2_prepareSet_7 : decode cX2_prepareSet 7 = .ok (.aload_n 0, 1) := by decide +kernel
theorem dX2_prepareSet_8 : decode cX2_prepareSet 8 = .ok (.getfield 11, 3) := by decide +kernel
theorem dX2_prepareSet_11 : decode cX2_prepareSet 11 = .ok (.iload_n 2, 1) := by decide +kernel
theorem dX2_prepareSet_12 : decode cX2_prepareSet 12 = .ok (.iload 4, 2) := by decide +kernel
theorem dX2_prepareSet_14 : decode cX2_prepareSet 14 = .ok (.aload_n 1, 1) := by decide +kernel
theorem dX2_prepareSet_15 : decode cX2_prepareSet 15 = .ok (.getfield 99, 3) := by decide +kernel
theorem dX2_prepareSet_18 : decode cX2_prepareSet 18 = .ok (.if_icmp .gt 7, 3) := by decide +kernel
theorem dX2_prepareSet_21 : decode cX2_prepareSet 21 = .ok (.iconst 1, 1) := by decide +kernel
theorem dX2_prepareSet_22 : decode cX2_prepareSet 22 = .ok (.goto 4, 3) := by decide +kernel
theorem dX2_prepareSet_25 : decode cX2_prepareSet 25 = .ok (.iconst 0, 1) := by decide +kernel
theorem dX2_prepareSet_26 : decode cX2_prepareSet 26 = .ok (.bastore, 1) := by decide +kernel
theorem dX2_prepareSet_27 : decode cX2_prepareSet 27 = .ok (.aload_n 0, 1) := by decide +kernel
theorem dX2_prepareSet_28 : decode cX2_prepareSet 28 = .ok (.getfield 15, 3) := by decide +kernel
theorem dX2_prepareSet_31 : decode cX2_prepareSet 31 = .ok (.iload_n 2, 1) := by decide +kernel
theorem dX2_prepareSet_32 : decode cX2_prepareSet 32 = .ok (.aload_n 1, 1) := by decide +kernel
theorem dX2_prepareSet_33 : decode cX2_prepareSet 33 = .ok (.iload_n 2, 1) := by decide +kernel
theorem dX2_prepareSet_34 : decode cX2_prepareSet 34 = .ok (.invokevirtual 102, 3) := by decide +kernel
theorem dX2_prepareSet_37 : decode cX2_prepareSet 37 = .ok (.iload_n 2, 1) := by decide +kernel
theorem dX2_prepareSet_38 : decode cX2_prepareSet 38 = .ok (.if_icmp .ne 7, 3) := by decide +kernel
theorem dX2_prepareSet_41 : decode cX2_prepareSet 41 = .ok (.iconst 1, 1) := by decide +kernel
theorem dX2_prepareSet_42 : decode cX2_prepareSet 42 = .ok (.goto 4, 3) := by decide +kernel
theorem dX2_prepareSet_45 : decode cX2_prepareSet 45 = .ok (.iconst 0, 1) := by decide +kernel
theorem dX2_prepareSet_46 : decode cX2_prepareSet 46 = .ok (.bastore, 1) := by decide +kernel
theorem dX2_prepareSet_47 : decode cX2_prepareSet 47 = .ok (.aload_n 0, 1) := by decide +kernel
theorem dX2_prepareSet_48 : decode cX2_prepareSet 48 = .ok (.getfield 18, 3) := by decide +kernel
theorem dX2_prepareSet_51 : decode cX2_prepareSet 51 = .ok (.iload_n 2, 1) := by decide +kernel
theorem dX2_prepareSet_52 : decode cX2_prepareSet 52 = .ok (.iconst 1, 1) := by decide +kernel
theorem dX2_prepareSet_53 : decode cX2_prepareSet 53 = .ok (.iastore, 1) := by decide +kernel
theorem dX2_prepareSet_54 : decode cX2_prepareSet 54 = .ok (.iconst 0, 1) := by decide +kernel
theorem dX2_prepareSet_55 : decode cX2_prepareSet 55 = .ok (.istore 5, 2) := by decide +kernel
theorem dX2_prepareSet_57 : decode cX2_prepareSet 57 = .ok (.iload 5, 2) := by decide +kernel
theorem dX2_prepareSet_59 : decode cX2_prepareSet 59 = .ok (.aload_n 0, 1) := by decide +kernel
theorem dX2_prepareSet_60 : decode cX2_prepareSet 60 = .ok (.getfield 68, 3) := by decide +kernel
theorem dX2_prepareSet_63 : decode cX2_prepareSet 63 = .ok (.if_icmp .ge 35, 3) := by decide +kernel
theorem dX2_prepareSet_66 : decode cX2_prepareSet 66 = .ok (.iload_n 2, 1) := by decide +kernel
theorem dX2_prepareSet_67 : decode cX2_prepareSet 67 = .ok (.iload 5, 2) := by decide +kernel
theorem dX2_prepareSet_69 : decode cX2_prepareSet 69 = .ok (.invokestatic 105, 3) := by decide +kernel
theorem dX2_prepareSet_72 : decode cX2_prepareSet 72 = .ok (.ifCond .eq 20, 3) := by decide +kernel
theorem dX2_prepareSet_75 : decode cX2_prepareSet 75 = .ok (.aload_n 0, 1) := by decide +kernel
theorem dX2_prepareSet_76 : decode cX2_prepareSet 76 = .ok (.getfield 18, 3) := by decide +kernel
theorem dX2_prepareSet_79 : decode cX2_prepareSet 79 = .ok (.iload_n 2, 1) := by decide +kernel
theorem dX2_prepareSet_80 : decode cX2_prepareSet 80 = .ok (.dup2, 1) := by decide +kernel
theorem dX2_prepareSet_81 : decode cX2_prepareSet 81 = .ok (.iaload, 1) := by decide +kernel
theorem dX2_prepareSet_82 : decode cX2_prepareSet 82 = .ok (.iconst 1, 1) := by decide +kernel
theorem dX2_prepareSet_83 : decode cX2_prepareSet 83 = .ok (.iconst 2, 1) := by decide +kernel
theorem dX2_prepareSet_84 : decode cX2_prepareSet 84 = .ok (.iload 5, 2) := by decide +kernel
theorem dX2_prepareSet_86 : decode cX2_prepareSet 86 = .ok (.imul, 1) := by decide +kernel
theorem dX2_prepareSet_87 : decode cX2_prepareSet 87 = .ok (.iconst 2, 1) := by decide +kernel
theorem dX2_prepareSet_88 : decode cX2_prepareSet 88 = .ok (.iadd, 1) := by decide +kernel
theorem dX2_prepareSet_89 : decode cX2_prepareSet 89 = .ok (.ishl, 1) := by decide +kernel
theorem dX2_prepareSet_90 : decode cX2_prepareSet 90 = .ok (.iadd, 1) := by decide +kernel
theorem dX2_prepareSet_91 : decode cX2_prepareSet 91 = .ok (.iastore, 1) := by decide +kernel
theorem dX2_prepareSet_92 : decode cX2_prepareSet 92 = .ok (.iinc 5 1, 3) := by decide +kernel
theorem dX2_prepareSet_95 : decode cX2_prepareSet 95 = .ok (.goto (-38), 3) := by decide +kernel
theorem dX2_prepareSet_98 : decode cX2_prepareSet 98 = .ok (.iconst 0, 1) := by decide +kernel
theorem dX2_prepareSet_99 : decode cX2_prepareSet 99 = .ok (.istore 5, 2) := by decide +kernel
theorem dX2_prepareSet_101 : decode cX2_prepareSet 101 = .ok (.iload 5, 2) := by decide +kernel
theorem dX2_prepareSet_103 : decode cX2_prepareSet 103 = .ok (.aload_n 0, 1) := by decide +kernel
theorem dX2_prepareSet_104 : decode cX2_prepareSet 104 = .ok (.getfield 72, 3) := by decide +kernel
theorem dX2_prepareSet_107 : decode cX2_prepareSet 107 = .ok (.if_icmp .ge 73, 3) := by decide +kernel
theorem dX2_prepareSet_110 : decode cX2_prepareSet 110 = .ok (.iload 5, 2) := by decide +kernel
theorem dX2_prepareSet_112 : decode cX2_prepareSet 112 = .ok (.bipush 16, 2) := by decide +kernel
theorem dX2_prepareSet_114 : decode cX2_prepareSet 114 = .ok (.imul, 1) := by decide +kernel
theorem dX2_prepareSet_115 : decode cX2_prepareSet 115 = .ok (.iload_n 2, 1) := by decide +kernel
theorem dX2_prepareSet_116 : decode cX2_prepareSet 116 = .ok (.iadd, 1) := by decide +kernel
theorem dX2_prepareSet_117 : decode cX2_prepareSet 117 = .ok (.istore 6, 2) := by decide +kernel
theorem dX2_prepareSet_119 : decode cX2_prepareSet 119 = .ok (.iload 6, 2) := by decide +kernel
theorem dX2_prepareSet_121 : decode cX2_prepareSet 121 = .ok (.bipush 48, 2) := by decide +kernel
theorem dX2_prepareSet_123 : decode cX2_prepareSet 123 = .ok (.iadd, 1) := by decide +kernel
theorem dX2_prepareSet_124 : decode cX2_prepareSet 124 = .ok (.istore 7, 2) := by decide +kernel
theorem dX2_prepareSet_126 : decode cX2_prepareSet 126 = .ok (.aload_n 0, 1) := by decide +kernel
theorem dX2_prepareSet_127 : decode cX2_prepareSet 127 = .ok (.getfield 22, 3) := by decide +kernel
theorem dX2_prepareSet_130 : decode cX2_prepareSet 130 = .ok (.iload 6, 2) := by decide +kernel
theorem dX2_prepareSet_132 : decode cX2_prepareSet 132 = .ok (.iload_n 3, 1) := by decide +kernel
theorem dX2_prepareSet_133 : decode cX2_prepareSet 133 = .ok (.ifCond .eq 7, 3) := by decide +kernel
theorem dX2_prepareSet_136 : decode cX2_prepareSet 136 = .ok (.iconst 1, 1) := by decide +kernel
theorem dX2_prepareSet_137 : decode cX2_prepareSet 137 = .ok (.goto 12, 3) := by decide +kernel
theorem dX2_prepareSet_140 : decode cX2_prepareSet 140 = .ok (.aload_n 1, 1) := by decide +kernel
theorem dX2_prepareSet_141 : decode cX2_prepareSet 141 = .ok (.iload 5, 2) := by decide +kernel
theorem dX2_prepareSet_143 : decode cX2_prepareSet 143 = .ok (.iload 4, 2) := by decide +kernel
theorem dX2_prepareSet_145 : decode cX2_prepareSet 145 = .ok (.iconst 0, 1) := by decide +kernel
theorem dX2_prepareSet_146 : decode cX2_prepareSet 146 = .ok (.invokevirtual 109, 3) := by decide +kernel
theorem dX2_prepareSet_149 : decode cX2_prepareSet 149 = .ok (.iastore, 1) := by decide +kernel
theorem dX2_prepareSet_150 : decode cX2_prepareSet 150 = .ok (.aload_n 0, 1) := by decide +kernel
theorem dX2_prepareSet_151 : decode cX2_prepareSet 151 = .ok (.getfield 22, 3) := by decide +kernel
theorem dX2_prepareSet_154 : decode cX2_prepareSet 154 = .ok (.iload 7, 2) := by decide +kernel
theorem dX2_prepareSet_156 : decode cX2_prepareSet 156 = .ok (.iload_n 3, 1) := by decide +kernel
theorem dX2_prepareSet_157 : decode cX2_prepareSet 157 = .ok (.ifCond .eq 7, 3) := by decide +kernel
theorem dX2_prepareSet_160 : decode cX2_prepareSet 160 = .ok (.iconst 1, 1) := by decide +kernel
theorem dX2_prepareSet_161 : decode cX2_prepareSet 161 = .ok (.goto 12, 3) := by decide +kernel
theorem dX2_prepareSet_164 : decode cX2_prepareSet 164 = .ok (.aload_n 1, 1) := by decide +kernel
theorem dX2_prepareSet_165 : decode cX2_prepareSet 165 = .ok (.iload 5, 2) := by decide +kernel
theorem dX2_prepareSet_167 : decode cX2_prepareSet 167 = .ok (.iload 4, 2) := by decide +kernel
theorem dX2_prepareSet_169 : decode cX2_prepareSet 169 = .ok (.iconst 1, 1) := by decide +kernel
theorem dX2_prepareSet_170 : decode cX2_prepareSet 170 = .ok (.invokevirtual 109, 3) := by decide +kernel
theorem dX2_prepareSet_173 : decode cX2_prepareSet 173 = .ok (.iastore, 1) := by decide +kernel
theorem dX2_prepareSet_174 : decode cX2_prepareSet 174 = .ok (.iinc 5 1, 3) := by decide +kernel
theorem dX2_prepareSet_177 : decode cX2_prepareSet 177 = .ok (.goto (-76), 3) := by decide +kernel
theorem dX2_prepareSet_180 : decode cX2_prepareSet 180 = .ok (.return_, 1) := by decide +kernel
theorem dX2_settleAll_0 : decode cX2_settleAll 0 = .ok (.aload_n 0, 1) := by decide +kernel
theorem dX2_settleAll_1 : decode cX2_settleAll 1 = .ok (.getfield 31, 3) := by decide +kernel
theorem dX2_settleAll_4 : decode cX2_settleAll 4 = .ok (.iload_n 1, 1) := by decide +kernel
theorem dX2_settleAll_5 : decode cX2_settleAll 5 = .ok (.bipush 32, 2) := by decide +kernel
theorem dX2_settleAll_7 : decode cX2_settleAll 7 = .ok (.irem, 1) := by decide +kernel
theorem dX2_settleAll_8 : decode cX2_settleAll 8 = .ok (.iaload, 1) := by decide +kernel
theorem dX2_settleAll_9 : decode cX2_settleAll 9 = .ok (.istore_n 2, 1) := by decide +kernel
theorem dX2_settleAll_10 : decode cX2_settleAll 10 = .ok (.aload_n 0, 1) := by decide +kernel
theorem dX2_settleAll_11 : decode cX2_settleAll 11 = .ok (.getfield 31, 3) := by decide +kernel
theorem dX2_settleAll_14 : decode cX2_settleAll 14 = .ok (.iload_n 1, 1) := by decide +kernel
theorem dX2_settleAll_15 : decode cX2_settleAll 15 = .ok (.bipush 32, 2) := by decide +kernel
theorem dX2_settleAll_17 : decode cX2_settleAll 17 = .ok (.irem, 1) := by decide +kernel
theorem dX2_settleAll_18 : decode cX2_settleAll 18 = .ok (.iconst (-1), 1) := by decide +kernel
theorem dX2_settleAll_19 : decode cX2_settleAll 19 = .ok (.iastore, 1) := by decide +kernel
theorem dX2_settleAll_20 : decode cX2_settleAll 20 = .ok (.iconst 0, 1) := by decide +kernel
theorem dX2_settleAll_21 : decode cX2_settleAll 21 = .ok (.istore_n 3, 1) := by decide +kernel
theorem dX2_settleAll_22 : decode cX2_settleAll 22 = .ok (.iload_n 3, 1) := by decide +kernel
theorem dX2_settleAll_23 : decode cX2_settleAll 23 = .ok (.sipush 1024, 3) := by decide +kernel
theorem dX2_settleAll_26 : decode cX2_settleAll 26 = .ok (.if_icmp .ge 67, 3) := by decide +kernel
theorem dX2_settleAll_29 : decode cX2_settleAll 29 = .ok (.iload_n 2, 1) := by decide +kernel
theorem dX2_settleAll_30 : decode cX2_settleAll 30 = .ok (.iconst (-1), 1) := by decide +kernel
theorem dX2_settleAll_31 : decode cX2_settleAll 31 = .ok (.if_icmp .eq 62, 3) := by decide +kernel
theorem dX2_settleAll_34 : decode cX2_settleAll 34 = .ok (.aload_n 0, 1) := by decide +kernel
theorem dX2_settleAll_35 : decode cX2_settleAll 35 = .ok (.getfield 86, 3) := by decide +kernel
theorem dX2_settleAll_38 : decode cX2_settleAll 38 = .ok (.sipush 1024, 3) := by decide +kernel
theorem dX2_settleAll_41 : decode cX2_settleAll 41 = .ok (.if_icmp .ge 52, 3) := by decide +kernel
theorem dX2_settleAll_44 : decode cX2_settleAll 44 = .ok (.aload_n 0, 1) := by decide +kernel
theorem dX2_settleAll_45 : decode cX2_settleAll 45 = .ok (.getfield 28, 3) := by decide +kernel
theorem dX2_settleAll_48 : decode cX2_settleAll 48 = .ok (.aload_n 0, 1) := by decide +kernel
theorem dX2_settleAll_49 : decode cX2_settleAll 49 = .ok (.getfield 86, 3) := by decide +kernel
theorem dX2_settleAll_52 : decode cX2_settleAll 52 = .ok (.iload_n 2, 1) := by decide +kernel
theorem dX2_settleAll_53 : decode cX2_settleAll 53 = .ok (.iastore, 1) := by decide +kernel
theorem dX2_settleAll_54 : decode cX2_settleAll 54 = .ok (.aload_n 0, 1) := by decide +kernel
theorem dX2_settleAll_55 : decode cX2_settleAll 55 = .ok (.dup, 1) := by decide +kernel
theorem dX2_settleAll_56 : decode cX2_settleAll 56 = .ok (.getfield 86, 3) := by decide +kernel
theorem dX2_settleAll_59 : decode cX2_settleAll 59 = .ok (.iconst 1, 1) := by decide +kernel
theorem dX2_settleAll_60 : decode cX2_settleAll 60 = .ok (.iadd, 1) := by decide +kernel
theorem dX2_settleAll_61 : decode cX2_settleAll 61 = .ok (.putfield 86, 3) := by decide +kernel
theorem dX2_settleAll_64 : decode cX2_settleAll 64 = .ok (.aload_n 0, 1) := by decide +kernel
theorem dX2_settleAll_65 : decode cX2_settleAll 65 = .ok (.dup, 1) := by decide +kernel
theorem dX2_settleAll_66 : decode cX2_settleAll 66 = .ok (.getfield 52, 3) := by decide +kernel
theorem dX2_settleAll_69 : decode cX2_settleAll 69 = .ok (.iconst 1, 1) := by decide +kernel
theorem dX2_settleAll_70 : decode cX2_settleAll 70 = .ok (.isub, 1) := by decide +kernel
theorem dX2_settleAll_71 : decode cX2_settleAll 71 = .ok (.putfield 52, 3) := by decide +kernel
theorem dX2_settleAll_74 : decode cX2_settleAll 74 = .ok (.aload_n 0, 1) := by decide +kernel
theorem dX2_settleAll_75 : decode cX2_settleAll 75 = .ok (.iload_n 2, 1) := by decide +kernel
theorem dX2_settleAll_76 : decode cX2_settleAll 76 = .ok (.iload_n 1, 1) := by decide +kernel
theorem dX2_settleAll_77 : decode cX2_settleAll 77 = .ok (.invokevirtual 113, 3) := by decide +kernel
theorem dX2_settleAll_80 : decode cX2_settleAll 80 = .ok (.aload_n 0, 1) := by decide +kernel
theorem dX2_settleAll_81 : decode cX2_settleAll 81 = .ok (.getfield 34, 3) := by decide +kernel
theorem dX2_settleAll_84 : decode cX2_settleAll 84 = .ok (.iload_n 2, 1) := by decide +kernel
theorem dX2_settleAll_85 : decode cX2_settleAll 85 = .ok (.iaload, 1) := by decide +kernel
theorem dX2_settleAll_86 : decode cX2_settleAll 86 = .ok (.istore_n 2, 1) := by decide +kernel
theorem dX2_settleAll_87 : decode cX2_settleAll 87 = .ok (.iinc 3 1, 3) := by decide +kernel
theorem dX2_settleAll_90 : decode cX2_settleAll 90 = .ok (.goto (-68), 3) := by decide +kernel
theorem dX2_settleAll_93 : decode cX2_settleAll 93 = .ok (.return_, 1) := by decide +kernel
theorem dX2_spread_0 : decode cX2_spread 0 = .ok (.aload_n 0, 1) := by decide +kernel
theorem dX2_spread_1 : decode cX2_spread 1 = .ok (.iload_n 1, 1) := by decide +kernel
theorem dX2_spread_2 : decode cX2_spread 2 = .ok (.invokevirtual 116, 3) := by decide +kernel
theorem dX2_spread_5 : decode cX2_spread 5 = .ok (.istore_n 3, 1) := by decide +kernel
theorem dX2_spread_6 : decode cX2_spread 6 = .ok (.iconst 0, 1) := by decide +kernel
theorem dX2_spread_7 : decode cX2_spread 7 = .ok (.istore 4, 2) := by decide +kernel
theorem dX2_spread_9 : decode cX2_spread 9 = .ok (.iload 4, 2) := by decide +kernel
theorem dX2_spread_11 : decode cX2_spread 11 = .ok (.bipush 32, 2) := by decide +kernel
theorem dX2_spread_13 : decode cX2_spread 13 = .ok (.if_icmp .ge 41, 3) := by decide +kernel
theorem dX2_spread_16 : decode cX2_spread 16 = .ok (.aload_n 0, 1) := by decide +kernel
theorem dX2_spread_17 : decode cX2_spread 17 = .ok (.iload_n 1, 1) := by decide +kernel
theorem dX2_spread_18 : decode cX2_spread 18 = .ok (.iload_n 3, 1) := by decide +kernel
theorem dX2_spread_19 : decode cX2_spread 19 = .ok (.iload 4, 2) := by decide +kernel
theorem dX2_spread_21 : decode cX2_spread 21 = .ok (.invokevirtual 119, 3) := by decide +kernel
theorem dX2_spread_24 : decode cX2_spread 24 = .ok (.istore 5, 2) := by decide +kernel
theorem dX2_spread_26 : decode cX2_spread 26 = .ok (.iload 5, 2) := by decide +kernel
theorem dX2_spread_28 : decode cX2_spread 28 = .ok (.iconst (-1), 1) := by decide +kernel
theorem dX2_spread_29 : decode cX2_spread 29 = .ok (.if_icmp .eq 19, 3) := by decide +kernel
theorem dX2_spread_32 : decode cX2_spread 32 = .ok (.aload_n 0, 1) := by decide +kernel
theorem dX2_spread_33 : decode cX2_spread 33 = .ok (.iload 5, 2) := by decide +kernel
theorem dX2_spread_35 : decode cX2_spread 35 = .ok (.iload_n 2, 1) := by decide +kernel
theorem dX2_spread_36 : decode cX2_spread 36 = .ok (.aload_n 0, 1) := by decide +kernel
theorem dX2_spread_37 : decode cX2_spread 37 = .ok (.iload_n 1, 1) := by decide +kernel
theorem dX2_spread_38 : decode cX2_spread 38 = .ok (.iload 4, 2) := by decide +kernel
theorem dX2_spread_40 : decode cX2_spread 40 = .ok (.iload_n 2, 1) := by decide +kernel
theorem dX2_spread_41 : decode cX2_spread 41 = .ok (.invokevirtual 123, 3) := by decide +kernel
theorem dX2_spread_44 : decode cX2_spread 44 = .ok (.iadd, 1) := by decide +kernel
theorem dX2_spread_45 : decode cX2_spread 45 = .ok (.invokevirtual 47, 3) := by decide +kernel
theorem dX2_spread_48 : decode cX2_spread 48 = .ok (.iinc 4 1, 3) := by decide +kernel
theorem dX2_spread_51 : decode cX2_spread 51 = .ok (.goto (-42), 3) := by decide +kernel
theorem dX2_spread_54 : decode cX2_spread 54 = .ok (.return_, 1) := by decide +kernel
theorem dX2_thingsHere_0 : decode cX2_thingsHere 0 = .ok (.iload_n 1, 1) := by decide +kernel
theorem dX2_thingsHere_1 : decode cX2_thingsHere 1 = .ok (.iconst 3, 1) := by decide +kernel
theorem dX2_thingsHere_2 : decode cX2_thingsHere 2 = .ok (.iand, 1) := by decide +kernel
theorem dX2_thingsHere_3 : decode cX2_thingsHere 3 = .ok (.istore_n 2, 1) := by decide +kernel
theorem dX2_thingsHere_4 : decode cX2_thingsHere 4 = .ok (.iconst 0, 1) := by decide +kernel
theorem dX2_thingsHere_5 : decode cX2_thingsHere 5 = .ok (.istore_n 3, 1) := by decide +kernel
theorem dX2_thingsHere_6 : decode cX2_thingsHere 6 = .ok (.iconst 0, 1) := by decide +kernel
theorem dX2_thingsHere_7 : decode cX2_thingsHere 7 = .ok (.istore 4, 2) := by decide +kernel
theorem dX2_thingsHere_9 : decode cX2_thingsHere 9 = .ok (.iload 4, 2) := by decide +kernel
theorem dX2_thingsHere_11 : decode cX2_thingsHere 11 = .ok (.aload_n 0, 1) := by decide +kernel
theorem dX2_thingsHere_12 : decode cX2_thingsHere 12 = .ok (.getfield 68, 3) := by decide +kernel
theorem dX2_thingsHere_15 : decode cX2_thingsHere 15 = .ok (.if_icmp .ge 30, 3) := by decide +kernel
theorem dX2_thingsHere_18 : decode cX2_thingsHere 18 = .ok (.iload_n 1, 1) := by decide +kernel
theorem dX2_thingsHere_19 : decode cX2_thingsHere 19 = .ok (.iconst 2, 1) := by decide +kernel
theorem dX2_thingsHere_20 : decode cX2_thingsHere 20 = .ok (.iload 4, 2) := by decide +kernel
theorem dX2_thingsHere_22 : decode cX2_thingsHere 22 = .ok (.imul, 1) := by decide +kernel
theorem dX2_thingsHere_23 : decode cX2_thingsHere 23 = .ok (.iconst 2, 1) := by decide +kernel
theorem dX2_thingsHere_24 : decode cX2_thingsHere 24 = .ok (.iadd, 1) := by decide +kernel
theorem dX2_thingsHere_25 : decode cX2_thingsHere 25 = .ok (.ishr, 1) := by decide +kernel
theorem dX2_thingsHere_26 : decode cX2_thingsHere 26 = .ok (.iconst 3, 1) := by decide +kernel
theorem dX2_thingsHere_27 : decode cX2_thingsHere 27 = .ok (.iand, 1) := by decide +kernel
theorem dX2_thingsHere_28 : decode cX2_thingsHere 28 = .ok (.iload_n 2, 1) := by decide +kernel
theorem dX2_thingsHere_29 : decode cX2_thingsHere 29 = .ok (.if_icmp .ne 10, 3) := by decide +kernel
theorem dX2_thingsHere_32 : decode cX2_thingsHere 32 = .ok (.iload_n 3, 1) := by decide +kernel
theorem dX2_thingsHere_33 : decode cX2_thingsHere 33 = .ok (.iconst 1, 1) := by decide +kernel
theorem dX2_thingsHere_34 : decode cX2_thingsHere 34 = .ok (.iload 4, 2) := by decide +kernel
theorem dX2_thingsHere_36 : decode cX2_thingsHere 36 = .ok (.ishl, 1) := by decide +kernel
theorem dX2_thingsHere_37 : decode cX2_thingsHere 37 = .ok (.ior, 1) := by decide +kernel
theorem dX2_thingsHere_38 : decode cX2_thingsHere 38 = .ok (.istore_n 3, 1) := by decide +kernel
theorem dX2_thingsHere_39 : decode cX2_thingsHere 39 = .ok (.iinc 4 1, 3) := by decide +kernel
theorem dX2_thingsHere_42 : decode cX2_thingsHere 42 = .ok (.goto (-33), 3) := by decide +kernel
theorem dX2_thingsHere_45 : decode cX2_thingsHere 45 = .ok (.iload_n 3, 1) := by decide +kernel
theorem dX2_thingsHere_46 : decode cX2_thingsHere 46 = .ok (.ireturn, 1) := by decide +kernel
theorem dX2_spotBehind_0 : decode cX2_spotBehind 0 = .ok (.iload_n 0, 1) := by decide +kernel
theorem dX2_spotBehind_1 : decode cX2_spotBehind 1 = .ok (.iconst 3, 1) := by decide +kernel
theorem dX2_spotBehind_2 : decode cX2_spotBehind 2 = .ok (.iand, 1) := by decide +kernel
theorem dX2_spotBehind_3 : decode cX2_spotBehind 3 = .ok (.iload_n 1, 1) := by decide +kernel
theorem dX2_spotBehind_4 : decode cX2_spotBehind 4 = .ok (.bipush 16, 2) := by decide +kernel
theorem dX2_spotBehind_6 : decode cX2_spotBehind 6 = .ok (.if_icmp .ge 7, 3) := by decide +kernel
theorem dX2_spotBehind_9 : decode cX2_spotBehind 9 = .ok (.iconst (-1), 1) := by decide +kernel
theorem dX2_spotBehind_10 : decode cX2_spotBehind 10 = .ok (.goto 4, 3) := by decide +kernel
theorem dX2_spotBehind_13 : decode cX2_spotBehind 13 = .ok (.iconst 1, 1) := by decide +kernel
theorem dX2_spotBehind_14 : decode cX2_spotBehind 14 = .ok (.iadd, 1) := by decide +kernel
theorem dX2_spotBehind_15 : decode cX2_spotBehind 15 = .ok (.ireturn, 1) := by decide +kernel
theorem dX2_stateBehind_0 : decode cX2_stateBehind 0 = .ok (.iload_n 3, 1) := by decide +kernel
theorem dX2_stateBehind_1 : decode cX2_stateBehind 1 = .ok (.bipush 16, 2) := by decide +kernel
theorem dX2_stateBehind_3 : decode cX2_stateBehind 3 = .ok (.irem, 1) := by decide +kernel
theorem dX2_stateBehind_4 : decode cX2_stateBehind 4 = .ok (.istore 4, 2) := by decide +kernel
theorem dX2_stateBehind_6 : decode cX2_stateBehind 6 = .ok (.iload_n 1, 1) := by decide +kernel
theorem dX2_stateBehind_7 : decode cX2_stateBehind 7 = .ok (.iload_n 3, 1) := by decide +kernel
theorem dX2_stateBehind_8 : decode cX2_stateBehind 8 = .ok (.invokestatic 126, 3) := by decide +kernel
theorem dX2_stateBehind_11 : decode cX2_stateBehind 11 = .ok (.istore 5, 2) := by decide +kernel
theorem dX2_stateBehind_13 : decode cX2_stateBehind 13 = .ok (.iload 5, 2) := by decide +kernel
theorem dX2_stateBehind_15 : decode cX2_stateBehind 15 = .ok (.ifCond .lt 21, 3) := by decide +kernel
theorem dX2_stateBehind_18 : decode cX2_stateBehind 18 = .ok (.iload 5, 2) := by decide +kernel
theorem dX2_stateBehind_20 : decode cX2_stateBehind 20 = .ok (.aload_n 0, 1) := by decide +kernel
theorem dX2_stateBehind_21 : decode cX2_stateBehind 21 = .ok (.getfield 72, 3) := by decide +kernel
theorem dX2_stateBehind_24 : decode cX2_stateBehind 24 = .ok (.if_icmp .gt 12, 3) := by decide +kernel
theorem dX2_stateBehind_27 : decode cX2_stateBehind 27 = .ok (.iload 4, 2) := by decide +kernel
theorem dX2_stateBehind_29 : decode cX2_stateBehind 29 = .ok (.iload_n 2, 1) := by decide +kernel
theorem dX2_stateBehind_30 : decode cX2_stateBehind 30 = .ok (.iconst (-1), 1) := by decide +kernel
theorem dX2_stateBehind_31 : decode cX2_stateBehind 31 = .ok (.ixor, 1) := by decide +kernel
theorem dX2_stateBehind_32 : decode cX2_stateBehind 32 = .ok (.iand, 1) := by decide +kernel
theorem dX2_stateBehind_33 : decode cX2_stateBehind 33 = .ok (.ifCond .eq 5, 3) := by decide +kernel
theorem dX2_stateBehind_36 : decode cX2_stateBehind 36 = .ok (.iconst (-1), 1) := by decide +kernel
theorem dX2_stateBehind_37 : decode cX2_stateBehind 37 = .ok (.ireturn, 1) := by decide +kernel
theorem dX2_stateBehind_38 : decode cX2_stateBehind 38 = .ok (.aload_n 0, 1) := by decide +kernel
theorem dX2_stateBehind_39 : decode cX2_stateBehind 39 = .ok (.getfield 11, 3) := by decide +kernel
theorem dX2_stateBehind_42 : decode cX2_stateBehind 42 = .ok (.iload 4, 2) := by decide +kernel
theorem dX2_stateBehind_44 : decode cX2_stateBehind 44 = .ok (.baload, 1) := by decide +kernel
theorem dX2_stateBehind_45 : decode cX2_stateBehind 45 = .ok (.ifCond .eq 17, 3) := by decide +kernel
theorem dX2_stateBehind_48 : decode cX2_stateBehind 48 = .ok (.aload_n 0, 1) := by decide +kernel
theorem dX2_stateBehind_49 : decode cX2_stateBehind 49 = .ok (.getfield 15, 3) := by decide +kernel
theorem dX2_stateBehind_52 : decode cX2_stateBehind 52 = .ok (.iload_n 2, 1) := by decide +kernel
theorem dX2_stateBehind_53 : decode cX2_stateBehind 53 = .ok (.iload 4, 2) := by decide +kernel
theorem dX2_stateBehind_55 : decode cX2_stateBehind 55 = .ok (.iconst (-1), 1) := by decide +kernel
theorem dX2_stateBehind_56 : decode cX2_stateBehind 56 = .ok (.ixor, 1) := by decide +kernel
theorem dX2_stateBehind_57 : decode cX2_stateBehind 57 = .ok (.iand, 1) := by decide +kernel
theorem dX2_stateBehind_58 : decode cX2_stateBehind 58 = .ok (.baload, 1) := by decide +kernel
theorem dX2_stateBehind_59 : decode cX2_stateBehind 59 = .ok (.ifCond .ne 5, 3) := by decide +kernel
theorem dX2_stateBehind_62 : decode cX2_stateBehind 62 = .ok (.iconst (-1), 1) := by decide +kernel
theorem dX2_stateBehind_63 : decode cX2_stateBehind 63 = .ok (.ireturn, 1) := by decide +kernel
theorem dX2_stateBehind_64 : decode cX2_stateBehind 64 = .ok (.iload_n 3, 1) := by decide +kernel
theorem dX2_stateBehind_65 : decode cX2_stateBehind 65 = .ok (.bipush 16, 2) := by decide +kernel
theorem dX2_stateBehind_67 : decode cX2_stateBehind 67 = .ok (.if_icmp .ge 15, 3) := by decide +kernel
theorem dX2_stateBehind_70 : decode cX2_stateBehind 70 = .ok (.iload_n 1, 1) := by decide +kernel
theorem dX2_stateBehind_71 : decode cX2_stateBehind 71 = .ok (.aload_n 0, 1) := by decide +kernel
theorem dX2_stateBehind_72 : decode cX2_stateBehind 72 = .ok (.getfield 18, 3) := by decide +kernel
theorem dX2_stateBehind_75 : decode cX2_stateBehind 75 = .ok (.iload 4, 2) := by decide +kernel
theorem dX2_stateBehind_77 : decode cX2_stateBehind 77 = .ok (.iaload, 1) := by decide +kernel
theorem dX2_stateBehind_78 : decode cX2_stateBehind 78 = .ok (.isub, 1) := by decide +kernel
theorem dX2_stateBehind_79 : decode cX2_stateBehind 79 = .ok (.goto 12, 3) := by decide +kernel
theorem dX2_stateBehind_82 : decode cX2_stateBehind 82 = .ok (.iload_n 1, 1) := by decide +kernel
theorem dX2_stateBehind_83 : decode cX2_stateBehind 83 = .ok (.aload_n 0, 1) := by decide +kernel
theorem dX2_stateBehind_84 : decode cX2_stateBehind 84 = .ok (.getfield 18, 3) := by decide +kernel
theorem dX2_stateBehind_87 : decode cX2_stateBehind 87 = .ok (.iload 4, 2) := by decide +kernel
theorem dX2_stateBehind_89 : decode cX2_stateBehind 89 = .ok (.iaload, 1) := by decide +kernel
theorem dX2_stateBehind_90 : decode cX2_stateBehind 90 = .ok (.iadd, 1) := by decide +kernel
theorem dX2_stateBehind_91 : decode cX2_stateBehind 91 = .ok (.ireturn, 1) := by decide +kernel
theorem dX2_minutesOf_0 : decode cX2_minutesOf 0 = .ok (.iload_n 1, 1) := by decide +kernel
theorem dX2_minutesOf_1 : decode cX2_minutesOf 1 = .ok (.iconst 3, 1) := by decide +kernel
theorem dX2_minutesOf_2 : decode cX2_minutesOf 2 = .ok (.iand, 1) := by decide +kernel
theorem dX2_minutesOf_3 : decode cX2_minutesOf 3 = .ok (.iload_n 1, 1) := by decide +kernel
theorem dX2_minutesOf_4 : decode cX2_minutesOf 4 = .ok (.iload_n 2, 1) := by decide +kernel
theorem dX2_minutesOf_5 : decode cX2_minutesOf 5 = .ok (.invokestatic 126, 3) := by decide +kernel
theorem dX2_minutesOf_8 : decode cX2_minutesOf 8 = .ok (.invokestatic 130, 3) := by decide +kernel
theorem dX2_minutesOf_11 : decode cX2_minutesOf 11 = .ok (.istore 4, 2) := by decide +kernel
theorem dX2_minutesOf_13 : decode cX2_minutesOf 13 = .ok (.iload_n 3, 1) := by decide +kernel
theorem dX2_minutesOf_14 : decode cX2_minutesOf 14 = .ok (.aload_n 0, 1) := by decide +kernel
theorem dX2_minutesOf_15 : decode cX2_minutesOf 15 = .ok (.getfield 79, 3) := by decide +kernel
theorem dX2_minutesOf_18 : decode cX2_minutesOf 18 = .ok (.if_icmp .lt 8, 3) := by decide +kernel
theorem dX2_minutesOf_21 : decode cX2_minutesOf 21 = .ok (.bipush 48, 2) := by decide +kernel
theorem dX2_minutesOf_23 : decode cX2_minutesOf 23 = .ok (.goto 4, 3) := by decide +kernel
theorem dX2_minutesOf_26 : decode cX2_minutesOf 26 = .ok (.iconst 0, 1) := by decide +kernel
theorem dX2_minutesOf_27 : decode cX2_minutesOf 27 = .ok (.istore 5, 2) := by decide +kernel
theorem dX2_minutesOf_29 : decode cX2_minutesOf 29 = .ok (.aload_n 0, 1) := by decide +kernel
theorem dX2_minutesOf_30 : decode cX2_minutesOf 30 = .ok (.getfield 22, 3) := by decide +kernel
theorem dX2_minutesOf_33 : decode cX2_minutesOf 33 = .ok (.iload 5, 2) := by decide +kernel
theorem dX2_minutesOf_35 : decode cX2_minutesOf 35 = .ok (.iload 4, 2) := by decide +kernel
theorem dX2_minutesOf_37 : decode cX2_minutesOf 37 = .ok (.bipush 16, 2) := by decide +kernel
theorem dX2_minutesOf_39 : decode cX2_minutesOf 39 = .ok (.imul, 1) := by decide +kernel
theorem dX2_minutesOf_40 : decode cX2_minutesOf 40 = .ok (.iadd, 1) := by decide +kernel
theorem dX2_minutesOf_41 : decode cX2_minutesOf 41 = .ok (.iload_n 2, 1) := by decide +kernel
theorem dX2_minutesOf_42 : decode cX2_minutesOf 42 = .ok (.bipush 16, 2) := by decide +kernel
theorem dX2_minutesOf_44 : decode cX2_minutesOf 44 = .ok (.irem, 1) := by decide +kernel
theorem dX2_minutesOf_45 : decode cX2_minutesOf 45 = .ok (.iadd, 1) := by decide +kernel
theorem dX2_minutesOf_46 : decode cX2_minutesOf 46 = .ok (.iaload, 1) := by decide +kernel
theorem dX2_minutesOf_47 : decode cX2_minutesOf 47 = .ok (.ireturn, 1) := by decide +kernel
theorem dX2_offer_0 : decode cX2_offer 0 = .ok (.iload_n 2, 1) := by decide +kernel
theorem dX2_offer_1 : decode cX2_offer 1 = .ok (.aload_n 0, 1) := by decide +kernel
theorem dX2_offer_2 : decode cX2_offer 2 = .ok (.getfield 25, 3) := by decide +kernel
theorem dX2_offer_5 : decode cX2_offer 5 = .ok (.iload_n 1, 1) := by decide +kernel
theorem dX2_offer_6 : decode cX2_offer 6 = .ok (.iaload, 1) := by decide +kernel
theorem dX2_offer_7 : decode cX2_offer 7 = .ok (.if_icmp .lt 4, 3) := by decide +kernel
theorem dX2_offer_10 : decode cX2_offer 10 = .ok (.return_, 1) := by decide +kernel
theorem dX2_offer_11 : decode cX2_offer 11 = .ok (.aload_n 0, 1) := by decide +kernel
theorem dX2_offer_12 : decode cX2_offer 12 = .ok (.getfield 25, 3) := by decide +kernel
theorem dX2_offer_15 : decode cX2_offer 15 = .ok (.iload_n 1, 1) := by decide +kernel
theorem dX2_offer_16 : decode cX2_offer 16 = .ok (.iaload, 1) := by decide +kernel
theorem dX2_offer_17 : decode cX2_offer 17 = .ok (.ldc 78, 2) := by decide +kernel
theorem dX2_offer_19 : decode cX2_offer 19 = .ok (.if_icmp .ne 16, 3) := by decide +kernel
theorem dX2_offer_22 : decode cX2_offer 22 = .ok (.aload_n 0, 1) := by decide +kernel
theorem dX2_offer_23 : decode cX2_offer 23 = .ok (.dup, 1) := by decide +kernel
theorem dX2_offer_24 : decode cX2_offer 24 = .ok (.getfield 52, 3) := by decide +kernel
theorem dX2_offer_27 : decode cX2_offer 27 = .ok (.iconst 1, 1) := by decide +kernel
theorem dX2_offer_28 : decode cX2_offer 28 = .ok (.iadd, 1) := by decide +kernel
theorem dX2_offer_29 : decode cX2_offer 29 = .ok (.putfield 52, 3) := by decide +kernel
theorem dX2_offer_32 : decode cX2_offer 32 = .ok (.goto 8, 3) := by decide +kernel
theorem dX2_offer_35 : decode cX2_offer 35 = .ok (.aload_n 0, 1) := by decide +kernel
theorem dX2_offer_36 : decode cX2_offer 36 = .ok (.iload_n 1, 1) := by decide +kernel
theorem dX2_offer_37 : decode cX2_offer 37 = .ok (.invokevirtual 135, 3) := by decide +kernel
theorem dX2_offer_40 : decode cX2_offer 40 = .ok (.aload_n 0, 1) := by decide +kernel
theorem dX2_offer_41 : decode cX2_offer 41 = .ok (.getfield 25, 3) := by decide +kernel
theorem dX2_offer_44 : decode cX2_offer 44 = .ok (.iload_n 1, 1) := by decide +kernel
theorem dX2_offer_45 : decode cX2_offer 45 = .ok (.iload_n 2, 1) := by decide +kernel
theorem dX2_offer_46 : decode cX2_offer 46 = .ok (.iastore, 1) := by decide +kernel
theorem dX2_offer_47 : decode cX2_offer 47 = .ok (.iload_n 2, 1) := by decide +kernel
theorem dX2_offer_48 : decode cX2_offer 48 = .ok (.bipush 32, 2) := by decide +kernel
theorem dX2_offer_50 : decode cX2_offer 50 = .ok (.irem, 1) := by decide +kernel
theorem dX2_offer_51 : decode cX2_offer 51 = .ok (.istore_n 3, 1) := by decide +kernel
theorem dX2_offer_52 : decode cX2_offer 52 = .ok (.aload_n 0, 1) := by decide +kernel
theorem dX2_offer_53 : decode cX2_offer 53 = .ok (.getfield 31, 3) := by decide +kernel
theorem dX2_offer_56 : decode cX2_offer 56 = .ok (.iload_n 3, 1) := by decide +kernel
theorem dX2_offer_57 : decode cX2_offer 57 = .ok (.iaload, 1) := by decide +kernel
theorem dX2_offer_58 : decode cX2_offer 58 = .ok (.istore 4, 2) := by decide +kernel
theorem dX2_offer_60 : decode cX2_offer 60 = .ok (.aload_n 0, 1) := by decide +kernel
theorem dX2_offer_61 : decode cX2_offer 61 = .ok (.getfield 34, 3) := by decide +kernel
theorem dX2_offer_64 : decode cX2_offer 64 = .ok (.iload_n 1, 1) := by decide +kernel
theorem dX2_offer_65 : decode cX2_offer 65 = .ok (.iload 4, 2) := by decide +kernel
theorem dX2_offer_67 : decode cX2_offer 67 = .ok (.iastore, 1) := by decide +kernel
theorem dX2_offer_68 : decode cX2_offer 68 = .ok (.aload_n 0, 1) := by decide +kernel
theorem dX2_offer_69 : decode cX2_offer 69 = .ok (.getfield 37, 3) := by decide +kernel
theorem dX2_offer_72 : decode cX2_offer 72 = .ok (.iload_n 1, 1) := by decide +kernel
theorem dX2_offer_73 : decode cX2_offer 73 = .ok (.iconst (-1), 1) := by decide +kernel
theorem dX2_offer_74 : decode cX2_offer 74 = .ok (.iastore, 1) := by decide +kernel
theorem dX2_offer_75 : decode cX2_offer 75 = .ok (.iload 4, 2) := by decide +kernel
theorem dX2_offer_77 : decode cX2_offer 77 = .ok (.iconst (-1), 1) := by decide +kernel
theorem dX2_offer_78 : decode cX2_offer 78 = .ok (.if_icmp .eq 11, 3) := by decide +kernel
theorem dX2_offer_81 : decode cX2_offer 81 = .ok (.aload_n 0, 1) := by decide +kernel
theorem dX2_offer_82 : decode cX2_offer 82 = .ok (.getfield 37, 3) := by decide +kernel
theorem dX2_offer_85 : decode cX2_offer 85 = .ok (.iload 4, 2) := by decide +kernel
theorem dX2_offer_87 : decode cX2_offer 87 = .ok (.iload_n 1, 1) := by decide +kernel
theorem dX2_offer_88 : decode cX2_offer 88 = .ok (.iastore, 1) := by decide +kernel
theorem dX2_offer_89 : decode cX2_offer 89 = .ok (.aload_n 0, 1) := by decide +kernel
theorem dX2_offer_90 : decode cX2_offer 90 = .ok (.getfield 31, 3) := by decide +kernel
theorem dX2_offer_93 : decode cX2_offer 93 = .ok (.iload_n 3, 1) := by decide +kernel
theorem dX2_offer_94 : decode cX2_offer 94 = .ok (.iload_n 1, 1) := by decide +kernel
theorem dX2_offer_95 : decode cX2_offer 95 = .ok (.iastore, 1) := by decide +kernel
theorem dX2_offer_96 : decode cX2_offer 96 = .ok (.return_, 1) := by decide +kernel
theorem dX2_takeOut_0 : decode cX2_takeOut 0 = .ok (.aload_n 0, 1) := by decide +kernel
theorem dX2_takeOut_1 : decode cX2_takeOut 1 = .ok (.getfield 34, 3) := by decide +kernel
theorem dX2_takeOut_4 : decode cX2_takeOut 4 = .ok (.iload_n 1, 1) := by decide +kernel
theorem dX2_takeOut_5 : decode cX2_takeOut 5 = .ok (.iaload, 1) := by decide +kernel
theorem dX2_takeOut_6 : decode cX2_takeOut 6 = .ok (.istore_n 2, 1) := by decide +kernel
theorem dX2_takeOut_7 : decode cX2_takeOut 7 = .ok (.aload_n 0, 1) := by decide +kernel
theorem dX2_takeOut_8 : decode cX2_takeOut 8 = .ok (.getfield 37, 3) := by decide +kernel
theorem dX2_takeOut_11 : decode cX2_takeOut 11 = .ok (.iload_n 1, 1) := by decide +kernel
theorem dX2_takeOut_12 : decode cX2_takeOut 12 = .ok (.iaload, 1) := by decide +kernel
theorem dX2_takeOut_13 : decode cX2_takeOut 13 = .ok (.istore_n 3, 1) := by decide +kernel
theorem dX2_takeOut_14 : decode cX2_takeOut 14 = .ok (.iload_n 2, 1) := by decide +kernel
theorem dX2_takeOut_15 : decode cX2_takeOut 15 = .ok (.iconst (-1), 1) := by decide +kernel
theorem dX2_takeOut_16 : decode cX2_takeOut 16 = .ok (.if_icmp .eq 10, 3) := by decide +kernel
theorem dX2_takeOut_19 : decode cX2_takeOut 19 = .ok (.aload_n 0, 1) := by decide +kernel
theorem dX2_takeOut_20 : decode cX2_takeOut 20 = .ok (.getfield 37, 3) := by decide +kernel
theorem dX2_takeOut_23 : decode cX2_takeOut 23 = .ok (.iload_n 2, 1) := by decide +kernel
theorem dX2_takeOut_24 : decode cX2_takeOut 24 = .ok (.iload_n 3, 1) := by decide +kernel
theorem dX2_takeOut_25 : decode cX2_takeOut 25 = .ok (.iastore, 1) := by decide +kernel
theorem dX2_takeOut_26 : decode cX2_takeOut 26 = .ok (.iload_n 3, 1) := by decide +kernel
theorem dX2_takeOut_27 : decode cX2_takeOut 27 = .ok (.iconst (-1), 1) := by decide +kernel
theorem dX2_takeOut_28 : decode cX2_takeOut 28 = .ok (.if_icmp .eq 13, 3) := by decide +kernel
theorem dX2_takeOut_31 : decode cX2_takeOut 31 = .ok (.aload_n 0, 1) := by decide +kernel
theorem dX2_takeOut_32 : decode cX2_takeOut 32 = .ok (.getfield 34, 3) := by decide +kernel
theorem dX2_takeOut_35 : decode cX2_takeOut 35 = .ok (.iload_n 3, 1) := by decide +kernel
theorem dX2_takeOut_36 : decode cX2_takeOut 36 = .ok (.iload_n 2, 1) := by decide +kernel
theorem dX2_takeOut_37 : decode cX2_takeOut 37 = .ok (.iastore, 1) := by decide +kernel
theorem dX2_takeOut_38 : decode cX2_takeOut 38 = .ok (.goto 18, 3) := by decide +kernel
theorem dX2_takeOut_41 : decode cX2_takeOut 41 = .ok (.aload_n 0, 1) := by decide +kernel
theorem dX2_takeOut_42 : decode cX2_takeOut 42 = .ok (.getfield 31, 3) := by decide +kernel
theorem dX2_takeOut_45 : decode cX2_takeOut 45 = .ok (.aload_n 0, 1) := by decide +kernel
theorem dX2_takeOut_46 : decode cX2_takeOut 46 = .ok (.getfield 25, 3) := by decide +kernel
theorem dX2_takeOut_49 : decode cX2_takeOut 49 = .ok (.iload_n 1, 1) := by decide +kernel
theorem dX2_takeOut_50 : decode cX2_takeOut 50 = .ok (.iaload, 1) := by decide +kernel
theorem dX2_takeOut_51 : decode cX2_takeOut 51 = .ok (.bipush 32, 2) := by decide +kernel
theorem dX2_takeOut_53 : decode cX2_takeOut 53 = .ok (.irem, 1) := by decide +kernel
theorem dX2_takeOut_54 : decode cX2_takeOut 54 = .ok (.iload_n 2, 1) := by decide +kernel
theorem dX2_takeOut_55 : decode cX2_takeOut 55 = .ok (.iastore, 1) := by decide +kernel
theorem dX2_takeOut_56 : decode cX2_takeOut 56 = .ok (.return_, 1) := by decide +kernel
theorem dX2_layRow_0 : decode cX2_layRow 0 = .ok (.aload_n 0, 1) := by decide +kernel
theorem dX2_layRow_1 : decode cX2_layRow 1 = .ok (.invokevirtual 138, 3) := by decide +kernel
theorem dX2_layRow_4 : decode cX2_layRow 4 = .ok (.iconst 0, 1) := by decide +kernel
theorem dX2_layRow_5 : decode cX2_layRow 5 = .ok (.istore_n 2, 1) := by decide +kernel
theorem dX2_layRow_6 : decode cX2_layRow 6 = .ok (.iconst 0, 1) := by decide +kernel
theorem dX2_layRow_7 : decode cX2_layRow 7 = .ok (.istore_n 3, 1) := by decide +kernel
theorem dX2_layRow_8 : decode cX2_layRow 8 = .ok (.iconst 0, 1) := by decide +kernel
theorem dX2_layRow_9 : decode cX2_layRow 9 = .ok (.istore 4, 2) := by decide +kernel
theorem dX2_layRow_11 : decode cX2_layRow 11 = .ok (.iload 4, 2) := by decide +kernel
theorem dX2_layRow_13 : decode cX2_layRow 13 = .ok (.aload_n 1, 1) := by decide +kernel
theorem dX2_layRow_14 : decode cX2_layRow 14 = .ok (.arraylength, 1) := by decide +kernel
theorem dX2_layRow_15 : decode cX2_layRow 15 = .ok (.if_icmp .ge 72, 3) := by decide +kernel
theorem dX2_layRow_18 : decode cX2_layRow 18 = .ok (.iload_n 2, 1) := by decide +kernel
theorem dX2_layRow_19 : decode cX2_layRow 19 = .ok (.aload_n 0, 1) := by decide +kernel
theorem dX2_layRow_20 : decode cX2_layRow 20 = .ok (.getfield 60, 3) := by decide +kernel
theorem dX2_layRow_23 : decode cX2_layRow 23 = .ok (.if_icmp .eq 64, 3) := by decide +kernel
theorem dX2_layRow_26 : decode cX2_layRow 26 = .ok (.iload_n 2, 1) := by decide +kernel
theorem dX2_layRow_27 : decode cX2_layRow 27 = .ok (.iconst (-1), 1) := by decide +kernel
theorem dX2_layRow_28 : decode cX2_layRow 28 = .ok (.if_icmp .eq 59, 3) := by decide +kernel
theorem dX2_layRow_31 : decode cX2_layRow 31 = .ok (.aload_n 0, 1) := by decide +kernel
theorem dX2_layRow_32 : decode cX2_layRow 32 = .ok (.iload_n 2, 1) := by decide +kernel
theorem dX2_layRow_33 : decode cX2_layRow 33 = .ok (.invokevirtual 141, 3) := by decide +kernel
theorem dX2_layRow_36 : decode cX2_layRow 36 = .ok (.istore 5, 2) := by decide +kernel
theorem dX2_layRow_38 : decode cX2_layRow 38 = .ok (.iload 5, 2) := by decide +kernel
theorem dX2_layRow_40 : decode cX2_layRow 40 = .ok (.iconst (-1), 1) := by decide +kernel
theorem dX2_layRow_41 : decode cX2_layRow 41 = .ok (.if_icmp .ne 5, 3) := by decide +kernel
theorem dX2_layRow_44 : decode cX2_layRow 44 = .ok (.iload_n 3, 1) := by decide +kernel
theorem dX2_layRow_45 : decode cX2_layRow 45 = .ok (.ireturn, 1) := by decide +kernel
theorem dX2_layRow_46 : decode cX2_layRow 46 = .ok (.aload_n 1, 1) := by decide +kernel
theorem dX2_layRow_47 : decode cX2_layRow 47 = .ok (.iload 4, 2) := by decide +kernel
theorem dX2_layRow_49 : decode cX2_layRow 49 = .ok (.iload_n 2, 1) := by decide +kernel
theorem dX2_layRow_50 : decode cX2_layRow 50 = .ok (.iload 5, 2) := by decide +kernel
theorem dX2_layRow_52 : decode cX2_layRow 52 = .ok (.invokestatic 126, 3) := by decide +kernel
theorem dX2_layRow_55 : decode cX2_layRow 55 = .ok (.bipush 16, 2) := by decide +kernel
theorem dX2_layRow_57 : decode cX2_layRow 57 = .ok (.imul, 1) := by decide +kernel
theorem dX2_layRow_58 : decode cX2_layRow 58 = .ok (.iload 5, 2) := by decide +kernel
theorem dX2_layRow_60 : decode cX2_layRow 60 = .ok (.bipush 16, 2) := by decide +kernel
theorem dX2_layRow_62 : decode cX2_layRow 62 = .ok (.irem, 1) := by decide +kernel
theorem dX2_layRow_63 : decode cX2_layRow 63 = .ok (.iadd, 1) := by decide +kernel
theorem dX2_layRow_64 : decode cX2_layRow 64 = .ok (.iastore, 1) := by decide +kernel
theorem dX2_layRow_65 : decode cX2_layRow 65 = .ok (.iinc 3 1, 3) := by decide +kernel
theorem dX2_layRow_68 : decode cX2_layRow 68 = .ok (.aload_n 0, 1) := by decide +kernel
theorem dX2_layRow_69 : decode cX2_layRow 69 = .ok (.iload_n 2, 1) := by decide +kernel
theorem dX2_layRow_70 : decode cX2_layRow 70 = .ok (.aload_n 0, 1) := by decide +kernel
theorem dX2_layRow_71 : decode cX2_layRow 71 = .ok (.iload_n 2, 1) := by decide +kernel
theorem dX2_layRow_72 : decode cX2_layRow 72 = .ok (.invokevirtual 116, 3) := by decide +kernel
theorem dX2_layRow_75 : decode cX2_layRow 75 = .ok (.iload 5, 2) := by decide +kernel
theorem dX2_layRow_77 : decode cX2_layRow 77 = .ok (.invokevirtual 119, 3) := by decide +kernel
theorem dX2_layRow_80 : decode cX2_layRow 80 = .ok (.istore_n 2, 1) := by decide +kernel
theorem dX2_layRow_81 : decode cX2_layRow 81 = .ok (.iinc 4 1, 3) := by decide +kernel
theorem dX2_layRow_84 : decode cX2_layRow 84 = .ok (.goto (-73), 3) := by decide +kernel
theorem dX2_layRow_87 : decode cX2_layRow 87 = .ok (.iload_n 3, 1) := by decide +kernel
theorem dX2_layRow_88 : decode cX2_layRow 88 = .ok (.ireturn, 1) := by decide +kernel
theorem dX2_countTripsLeft_0 : decode cX2_countTripsLeft 0 = .ok (.aload_n 0, 1) := by decide +kernel
theorem dX2_countTripsLeft_1 : decode cX2_countTripsLeft 1 = .ok (.getfield 40, 3) := by decide +kernel
theorem dX2_countTripsLeft_4 : decode cX2_countTripsLeft 4 = .ok (.ldc 78, 2) := by decide +kernel
theorem dX2_countTripsLeft_6 : decode cX2_countTripsLeft 6 = .ok (.invokestatic 89, 3) := by decide +kernel
theorem dX2_countTripsLeft_9 : decode cX2_countTripsLeft 9 = .ok (.aload_n 0, 1) := by decide +kernel
theorem dX2_countTripsLeft_10 : decode cX2_countTripsLeft 10 = .ok (.getfield 86, 3) := by decide +kernel
theorem dX2_countTripsLeft_13 : decode cX2_countTripsLeft 13 = .ok (.iconst 1, 1) := by decide +kernel
theorem dX2_countTripsLeft_14 : decode cX2_countTripsLeft 14 = .ok (.isub, 1) := by decide +kernel
theorem dX2_countTripsLeft_15 : decode cX2_countTripsLeft 15 = .ok (.istore_n 1, 1) := by decide +kernel
theorem dX2_countTripsLeft_16 : decode cX2_countTripsLeft 16 = .ok (.iload_n 1, 1) := by decide +kernel
theorem dX2_countTripsLeft_17 : decode cX2_countTripsLeft 17 = .ok (.ifCond .lt 84, 3) := by decide +kernel
theorem dX2_countTripsLeft_20 : decode cX2_countTripsLeft 20 = .ok (.aload_n 0, 1) := by decide +kernel
theorem dX2_countTripsLeft_21 : decode cX2_countTripsLeft 21 = .ok (.getfield 28, 3) := by decide +kernel
theorem dX2_countTripsLeft_24 : decode cX2_countTripsLeft 24 = .ok (.iload_n 1, 1) := by decide +kernel
theorem dX2_countTripsLeft_25 : decode cX2_countTripsLeft 25 = .ok (.iaload, 1) := by decide +kernel
theorem dX2_countTripsLeft_26 : decode cX2_countTripsLeft 26 = .ok (.istore_n 2, 1) := by decide +kernel
theorem dX2_countTripsLeft_27 : decode cX2_countTripsLeft 27 = .ok (.aload_n 0, 1) := by decide +kernel
theorem dX2_countTripsLeft_28 : decode cX2_countTripsLeft 28 = .ok (.iload_n 2, 1) := by decide +kernel
theorem dX2_countTripsLeft_29 : decode cX2_countTripsLeft 29 = .ok (.invokevirtual 141, 3) := by decide +kernel
theorem dX2_countTripsLeft_32 : decode cX2_countTripsLeft 32 = .ok (.istore_n 3, 1) := by decide +kernel
theorem dX2_countTripsLeft_33 : decode cX2_countTripsLeft 33 = .ok (.iload_n 2, 1) := by decide +kernel
theorem dX2_countTripsLeft_34 : decode cX2_countTripsLeft 34 = .ok (.aload_n 0, 1) := by decide +kernel
theorem dX2_countTripsLeft_35 : decode cX2_countTripsLeft 35 = .ok (.getfield 60, 3) := by decide +kernel
theorem dX2_countTripsLeft_38 : decode cX2_countTripsLeft 38 = .ok (.if_icmp .ne 13, 3) := by decide +kernel
theorem dX2_countTripsLeft_41 : decode cX2_countTripsLeft 41 = .ok (.aload_n 0, 1) := by decide +kernel
theorem dX2_countTripsLeft_42 : decode cX2_countTripsLeft 42 = .ok (.getfield 40, 3) := by decide +kernel
theorem dX2_countTripsLeft_45 : decode cX2_countTripsLeft 45 = .ok (.iload_n 2, 1) := by decide +kernel
theorem dX2_countTripsLeft_46 : decode cX2_countTripsLeft 46 = .ok (.iconst 0, 1) := by decide +kernel
theorem dX2_countTripsLeft_47 : decode cX2_countTripsLeft 47 = .ok (.iastore, 1) := by decide +kernel
theorem dX2_countTripsLeft_48 : decode cX2_countTripsLeft 48 = .ok (.goto 47, 3) := by decide +kernel
theorem dX2_countTripsLeft_51 : decode cX2_countTripsLeft 51 = .ok (.iload_n 3, 1) := by decide +kernel
theorem dX2_countTripsLeft_52 : decode cX2_countTripsLeft 52 = .ok (.iconst (-1), 1) := by decide +kernel
theorem dX2_countTripsLeft_53 : decode cX2_countTripsLeft 53 = .ok (.if_icmp .eq 42, 3) := by decide +kernel
theorem dX2_countTripsLeft_56 : decode cX2_countTripsLeft 56 = .ok (.aload_n 0, 1) := by decide +kernel
theorem dX2_countTripsLeft_57 : decode cX2_countTripsLeft 57 = .ok (.iload_n 2, 1) := by decide +kernel
theorem dX2_countTripsLeft_58 : decode cX2_countTripsLeft 58 = .ok (.aload_n 0, 1) := by decide +kernel
theorem dX2_countTripsLeft_59 : decode cX2_countTripsLeft 59 = .ok (.iload_n 2, 1) := by decide +kernel
theorem dX2_countTripsLeft_60 : decode cX2_countTripsLeft 60 = .ok (.invokevirtual 116, 3) := by decide +kernel
theorem dX2_countTripsLeft_63 : decode cX2_countTripsLeft 63 = .ok (.iload_n 3, 1) := by decide +kernel
theorem dX2_countTripsLeft_64 : decode cX2_countTripsLeft 64 = .ok (.invokevirtual 119, 3) := by decide +kernel
theorem dX2_countTripsLeft_67 : decode cX2_countTripsLeft 67 = .ok (.istore 4, 2) := by decide +kernel
theorem dX2_countTripsLeft_69 : decode cX2_countTripsLeft 69 = .ok (.aload_n 0, 1) := by decide +kernel
theorem dX2_countTripsLeft_70 : decode cX2_countTripsLeft 70 = .ok (.getfield 40, 3) := by decide +kernel
theorem dX2_countTripsLeft_73 : decode cX2_countTripsLeft 73 = .ok (.iload_n 2, 1) := by decide +kernel
theorem dX2_countTripsLeft_74 : decode cX2_countTripsLeft 74 = .ok (.iload 4, 2) := by decide +kernel
theorem dX2_countTripsLeft_76 : decode cX2_countTripsLeft 76 = .ok (.iconst (-1), 1) := by decide +kernel
theorem dX2_countTripsLeft_77 : decode cX2_countTripsLeft 77 = .ok (.if_icmp .ne 8, 3) := by decide +kernel
theorem dX2_countTripsLeft_80 : decode cX2_countTripsLeft 80 = .ok (.ldc 78, 2) := by decide +kernel
theorem dX2_countTripsLeft_82 : decode cX2_countTripsLeft 82 = .ok (.goto 12, 3) := by decide +kernel
theorem dX2_countTripsLeft_85 : decode cX2_countTripsLeft 85 = .ok (.aload_n 0, 1) := by decide +kernel
theorem dX2_countTripsLeft_86 : decode cX2_countTripsLeft 86 = .ok (.getfield 40, 3) := by decide +kernel
theorem dX2_countTripsLeft_89 : decode cX2_countTripsLeft 89 = .ok (.iload 4, 2) := by decide +kernel
theorem dX2_countTripsLeft_91 : decode cX2_countTripsLeft 91 = .ok (.iaload, 1) := by decide +kernel
theorem dX2_countTripsLeft_92 : decode cX2_countTripsLeft 92 = .ok (.iconst 1, 1) := by decide +kernel
theorem dX2_countTripsLeft_93 : decode cX2_countTripsLeft 93 = .ok (.iadd, 1) := by decide +kernel
theorem dX2_countTripsLeft_94 : decode cX2_countTripsLeft 94 = .ok (.iastore, 1) := by decide +kernel
theorem dX2_countTripsLeft_95 : decode cX2_countTripsLeft 95 = .ok (.iinc 1 (-1), 3) := by decide +kernel
theorem dX2_countTripsLeft_98 : decode cX2_countTripsLeft 98 = .ok (.goto (-82), 3) := by decide +kernel
theorem dX2_countTripsLeft_101 : decode cX2_countTripsLeft 101 = .ok (.return_, 1) := by decide +kernel
theorem dX2_bestMove_0 : decode cX2_bestMove 0 = .ok (.aload_n 0, 1) := by decide +kernel
theorem dX2_bestMove_1 : decode cX2_bestMove 1 = .ok (.iload_n 1, 1) := by decide +kernel
theorem dX2_bestMove_2 : decode cX2_bestMove 2 = .ok (.invokevirtual 116, 3) := by decide +kernel
theorem dX2_bestMove_5 : decode cX2_bestMove 5 = .ok (.istore_n 2, 1) := by decide +kernel
theorem dX2_bestMove_6 : decode cX2_bestMove 6 = .ok (.iconst (-1), 1) := by decide +kernel
theorem dX2_bestMove_7 : decode cX2_bestMove 7 = .ok (.istore_n 3, 1) := by decide +kernel
theorem dX2_bestMove_8 : decode cX2_bestMove 8 = .ok (.ldc 78, 2) := by decide +kernel
theorem dX2_bestMove_10 : decode cX2_bestMove 10 = .ok (.istore 4, 2) := by decide +kernel
theorem dX2_bestMove_12 : decode cX2_bestMove 12 = .ok (.iconst 0, 1) := by decide +kernel
theorem dX2_bestMove_13 : decode cX2_bestMove 13 = .ok (.istore 5, 2) := by decide +kernel
theorem dX2_bestMove_15 : decode cX2_bestMove 15 = .ok (.iload 5, 2) := by decide +kernel
theorem dX2_bestMove_17 : decode cX2_bestMove 17 = .ok (.bipush 32, 2) := by decide +kernel
theorem dX2_bestMove_19 : decode cX2_bestMove 19 = .ok (.if_icmp .ge 61, 3) := by decide +kernel
theorem dX2_bestMove_22 : decode cX2_bestMove 22 = .ok (.aload_n 0, 1) := by decide +kernel
theorem dX2_bestMove_23 : decode cX2_bestMove 23 = .ok (.iload_n 1, 1) := by decide +kernel
theorem dX2_bestMove_24 : decode cX2_bestMove 24 = .ok (.iload_n 2, 1) := by decide +kernel
theorem dX2_bestMove_25 : decode cX2_bestMove 25 = .ok (.iload 5, 2) := by decide +kernel
theorem dX2_bestMove_27 : decode cX2_bestMove 27 = .ok (.invokevirtual 119, 3) := by decide +kernel
theorem dX2_bestMove_30 : decode cX2_bestMove 30 = .ok (.istore 6, 2) := by decide +kernel
theorem dX2_bestMove_32 : decode cX2_bestMove 32 = .ok (.iload 6, 2) := by decide +kernel
theorem dX2_bestMove_34 : decode cX2_bestMove 34 = .ok (.iconst (-1), 1) := by decide +kernel
theorem dX2_bestMove_35 : decode cX2_bestMove 35 = .ok (.if_icmp .eq 39, 3) := by decide +kernel
theorem dX2_bestMove_38 : decode cX2_bestMove 38 = .ok (.aload_n 0, 1) := by decide +kernel
theorem dX2_bestMove_39 : decode cX2_bestMove 39 = .ok (.getfield 40, 3) := by decide +kernel
theorem dX2_bestMove_42 : decode cX2_bestMove 42 = .ok (.iload 6, 2) := by decide +kernel
theorem dX2_bestMove_44 : decode cX2_bestMove 44 = .ok (.iaload, 1) := by decide +kernel
theorem dX2_bestMove_45 : decode cX2_bestMove 45 = .ok (.iload 4, 2) := by decide +kernel
theorem dX2_bestMove_47 : decode cX2_bestMove 47 = .ok (.if_icmp .ge 27, 3) := by decide +kernel
theorem dX2_bestMove_50 : decode cX2_bestMove 50 = .ok (.aload_n 0, 1) := by decide +kernel
theorem dX2_bestMove_51 : decode cX2_bestMove 51 = .ok (.iload_n 1, 1) := by decide +kernel
theorem dX2_bestMove_52 : decode cX2_bestMove 52 = .ok (.iload 5, 2) := by decide +kernel
theorem dX2_bestMove_54 : decode cX2_bestMove 54 = .ok (.iload 6, 2) := by decide +kernel
theorem dX2_bestMove_56 : decode cX2_bestMove 56 = .ok (.invokevirtual 144, 3) := by decide +kernel
theorem dX2_bestMove_59 : decode cX2_bestMove 59 = .ok (.ifCond .eq 15, 3) := by decide +kernel
theorem dX2_bestMove_62 : decode cX2_bestMove 62 = .ok (.iload 5, 2) := by decide +kernel
theorem dX2_bestMove_64 : decode cX2_bestMove 64 = .ok (.istore_n 3, 1) := by decide +kernel
theorem dX2_bestMove_65 : decode cX2_bestMove 65 = .ok (.aload_n 0, 1) := by decide +kernel
theorem dX2_bestMove_66 : decode cX2_bestMove 66 = .ok (.getfield 40, 3) := by decide +kernel
theorem dX2_bestMove_69 : decode cX2_bestMove 69 = .ok (.iload 6, 2) := by decide +kernel
theorem dX2_bestMove_71 : decode cX2_bestMove 71 = .ok (.iaload, 1) := by decide +kernel
theorem dX2_bestMove_72 : decode cX2_bestMove 72 = .ok (.istore 4, 2) := by decide +kernel
theorem dX2_bestMove_74 : decode cX2_bestMove 74 = .ok (.iinc 5 1, 3) := by decide +kernel
theorem dX2_bestMove_77 : decode cX2_bestMove 77 = .ok (.goto (-62), 3) := by decide +kernel
theorem dX2_bestMove_80 : decode cX2_bestMove 80 = .ok (.iload_n 3, 1) := by decide +kernel
theorem dX2_bestMove_81 : decode cX2_bestMove 81 = .ok (.ireturn, 1) := by decide +kernel
theorem dX2_isInTime_0 : decode cX2_isInTime 0 = .ok (.aload_n 0, 1) := by decide +kernel
theorem dX2_isInTime_1 : decode cX2_isInTime 1 = .ok (.getfield 25, 3) := by decide +kernel
theorem dX2_isInTime_4 : decode cX2_isInTime 4 = .ok (.iload_n 3, 1) := by decide +kernel
theorem dX2_isInTime_5 : decode cX2_isInTime 5 = .ok (.iaload, 1) := by decide +kernel
theorem dX2_isInTime_6 : decode cX2_isInTime 6 = .ok (.aload_n 0, 1) := by decide +kernel
theorem dX2_isInTime_7 : decode cX2_isInTime 7 = .ok (.getfield 25, 3) := by decide +kernel
theorem dX2_isInTime_10 : decode cX2_isInTime 10 = .ok (.iload_n 1, 1) := by decide +kernel
theorem dX2_isInTime_11 : decode cX2_isInTime 11 = .ok (.iaload, 1) := by decide +kernel
theorem dX2_isInTime_12 : decode cX2_isInTime 12 = .ok (.aload_n 0, 1) := by decide +kernel
theorem dX2_isInTime_13 : decode cX2_isInTime 13 = .ok (.iload_n 1, 1) := by decide +kernel
theorem dX2_isInTime_14 : decode cX2_isInTime 14 = .ok (.iload_n 2, 1) := by decide +kernel
theorem dX2_isInTime_15 : decode cX2_isInTime 15 = .ok (.aload_n 0, 1) := by decide +kernel
theorem dX2_isInTime_16 : decode cX2_isInTime 16 = .ok (.getfield 25, 3) := by decide +kernel
theorem dX2_isInTime_19 : decode cX2_isInTime 19 = .ok (.iload_n 1, 1) := by decide +kernel
theorem dX2_isInTime_20 : decode cX2_isInTime 20 = .ok (.iaload, 1) := by decide +kernel
theorem dX2_isInTime_21 : decode cX2_isInTime 21 = .ok (.invokevirtual 123, 3) := by decide +kernel
theorem dX2_isInTime_24 : decode cX2_isInTime 24 = .ok (.iadd, 1) := by decide +kernel
theorem dX2_isInTime_25 : decode cX2_isInTime 25 = .ok (.if_icmp .ne 7, 3) := by decide +kernel
theorem dX2_isInTime_28 : decode cX2_isInTime 28 = .ok (.iconst 1, 1) := by decide +kernel
theorem dX2_isInTime_29 : decode cX2_isInTime 29 = .ok (.goto 4, 3) := by decide +kernel
theorem dX2_isInTime_32 : decode cX2_isInTime 32 = .ok (.iconst 0, 1) := by decide +kernel
theorem dX2_isInTime_33 : decode cX2_isInTime 33 = .ok (.ireturn, 1) := by decide +kernel
end
section
theorem dX5_init_0 : decode cX5_init 0 = .ok (.aload_n 0, 1) := by decide +kernel
theorem dX5_init_1 : decode cX5_init 1 = .ok (.invokespecial 3, 3) := by decide +kernel
theorem dX5_init_4 : decode cX5_init 4 = .ok (.aload_n 0, 1) := by decide +kernel
theorem dX5_init_5 : decode cX5_init 5 = .ok (.new 9, 3) := by decide +kernel
theorem dX5_init_8 : decode cX5_init 8 = .ok (.dup, 1) := by decide +kernel
theorem dX5_init_9 : decode cX5_init 9 = .ok (.invokespecial 11, 3) := by decide +kernel
theorem dX5_init_12 : decode cX5_init 12 = .ok (.putfield 12, 3) := by decide +kernel
theorem dX5_init_15 : decode cX5_init 15 = .ok (.aload_n 0, 1) := by decide +kernel
theorem dX5_init_16 : decode cX5_init 16 = .ok (.new 9, 3) := by decide +kernel
theorem dX5_init_19 : decode cX5_init 19 = .ok (.dup, 1) := by decide +kernel
theorem dX5_init_20 : decode cX5_init 20 = .ok (.invokespecial 11, 3) := by decide +kernel
theorem dX5_init_23 : decode cX5_init 23 = .ok (.putfield 18, 3) := by decide +kernel
theorem dX5_init_26 : decode cX5_init 26 = .ok (.aload_n 0, 1) := by decide +kernel
theorem dX5_init_27 : decode cX5_init 27 = .ok (.iconst 4, 1) := by decide +kernel
theorem dX5_init_28 : decode cX5_init 28 = .ok (.anewarray 21, 3) := by decide +kernel
theorem dX5_init_31 : decode cX5_init 31 = .ok (.putfield 23, 3) := by decide +kernel
theorem dX5_init_34 : decode cX5_init 34 = .ok (.aload_n 0, 1) := by decide +kernel
theorem dX5_init_35 : decode cX5_init 35 = .ok (.new 27, 3) := by decide +kernel
theorem dX5_init_38 : decode cX5_init 38 = .ok (.dup, 1) := by decide +kernel
theorem dX5_init_39 : decode cX5_init 39 = .ok (.invokespecial 29, 3) := by decide +kernel
theorem dX5_init_42 : decode cX5_init 42 = .ok (.putfield 30, 3) := by decide +kernel
theorem dX5_init_45 : decode cX5_init 45 = .ok (.aload_n 0, 1) := by decide +kernel
theorem dX5_init_46 : decode cX5_init 46 = .ok (.new 34, 3) := by decide +kernel
theorem dX5_init_49 : decode cX5_init 49 = .ok (.dup, 1) := by decide +kernel
theorem dX5_init_50 : decode cX5_init 50 = .ok (.invokespecial 36, 3) := by decide +kernel
theorem dX5_init_53 : decode cX5_init 53 = .ok (.putfield 37, 3) := by decide +kernel
theorem dX5_init_56 : decode cX5_init 56 = .ok (.aload_n 0, 1) := by decide +kernel
theorem dX5_init_57 : decode cX5_init 57 = .ok (.new 41, 3) := by decide +kernel
theorem dX5_init_60 : decode cX5_init 60 = .ok (.dup, 1) := by decide +kernel
theorem dX5_init_61 : decode cX5_init 61 = .ok (.invokespecial 43, 3) := by decide +kernel
theorem dX5_init_64 : decode cX5_init 64 = .ok (.putfield 44, 3) := by decide +kernel
theorem dX5_init_67 : decode cX5_init 67 = .ok (.aload_n 0, 1) := by decide +kernel
theorem dX5_init_68 : decode cX5_init 68 = .ok (.sipush 1024, 3) := by decide +kernel
theorem dX5_init_71 : decode cX5_init 71 = .ok (.newarray .int, 2) := by decide +kernel
theorem dX5_init_73 : decode cX5_init 73 = .ok (.putfield 48, 3) := by decide +kernel
theorem dX5_init_76 : decode cX5_init 76 = .ok (.iconst 0, 1) := by decide +kernel
theorem dX5_init_77 : decode cX5_init 77 = .ok (.istore_n 1, 1) := by decide +kernel
theorem dX5_init_78 : decode cX5_init 78 = .ok (.iload_n 1, 1) := by decide +kernel
theorem dX5_init_79 : decode cX5_init 79 = .ok (.iconst 4, 1) := by decide +kernel
theorem dX5_init_80 : decode cX5_init 80 = .ok (.if_icmp .ge 22, 3) := by decide +kernel
theorem dX5_init_83 : decode cX5_init 83 = .ok (.aload_n 0, 1) := by decide +kernel
theorem dX5_init_84 : decode cX5_init 84 = .ok (.getfield 23, 3) := by decide +kernel
theorem dX5_init_87 : decode cX5_init 87 = .ok (.iload_n 1, 1) := by decide +kernel
theorem dX5_init_88 : decode cX5_init 88 = .ok (.new 21, 3) := by decide +kernel
theorem dX5_init_91 : decode cX5_init 91 = .ok (.dup, 1) := by decide +kernel
theorem dX5_init_92 : decode cX5_init 92 = .ok (.invokespecial 52, 3) := by decide +kernel
theorem dX5_init_95 : decode cX5_init 95 = .ok (.aastore, 1) := by decide +kernel
theorem dX5_init_96 : decode cX5_init 96 = .ok (.iinc 1 1, 3) := by decide +kernel
theorem dX5_init_99 : decode cX5_init 99 = .ok (.goto (-21), 3) := by decide +kernel
theorem dX5_init_102 : decode cX5_init 102 = .ok (.return_, 1) := by decide +kernel
theorem dX5_portage_0 : decode cX5_portage 0 = .ok (.aload_n 0, 1) := by decide +kernel
theorem dX5_portage_1 : decode cX5_portage 1 = .ok (.iconst 0, 1) := by decide +kernel
theorem dX5_portage_2 : decode cX5_portage 2 = .ok (.putfield 53, 3) := by decide +kernel
theorem dX5_portage_5 : decode cX5_portage 5 = .ok (.iload_n 1, 1) := by decide +kernel
theorem dX5_portage_6 : decode cX5_portage 6 = .ok (.invokestatic 57, 3) := by decide +kernel
theorem dX5_portage_9 : decode cX5_portage 9 = .ok (.ifCond .ne 5, 3) := by decide +kernel
theorem dX5_portage_12 : decode cX5_portage 12 = .ok (.iconst (-1), 1) := by decide +kernel
theorem dX5_portage_13 : decode cX5_portage 13 = .ok (.ireturn, 1) := by decide +kernel
theorem dX5_portage_14 : decode cX5_portage 14 = .ok (.iload_n 2, 1) := by decide +kernel
theorem dX5_portage_15 : decode cX5_portage 15 = .ok (.invokestatic 61, 3) := by decide +kernel
theorem dX5_portage_18 : decode cX5_portage 18 = .ok (.ifCond .ne 6, 3) := by decide +kernel
theorem dX5_portage_21 : decode cX5_portage 21 = .ok (.bipush (-2), 2) := by decide +kernel
theorem dX5_portage_23 : decode cX5_portage 23 = .ok (.ireturn, 1) := by decide +kernel
theorem dX5_portage_24 : decode cX5_portage 24 = .ok (.aload_n 0, 1) := by decide +kernel
theorem dX5_portage_25 : decode cX5_portage 25 = .ok (.getfield 23, 3) := by decide +kernel
theorem dX5_portage_28 : decode cX5_portage 28 = .ok (.iload_n 1, 1) := by decide +kernel
theorem dX5_portage_29 : decode cX5_portage 29 = .ok (.aaload, 1) := by decide +kernel
theorem dX5_portage_30 : decode cX5_portage 30 = .ok (.astore 5, 2) := by decide +kernel
theorem dX5_portage_32 : decode cX5_portage 32 = .ok (.aload 5, 2) := by decide +kernel
theorem dX5_portage_34 : decode cX5_portage 34 = .ok (.iload_n 2, 1) := by decide +kernel
theorem dX5_portage_35 : decode cX5_portage 35 = .ok (.invokevirtual 64, 3) := by decide +kernel
theorem dX5_portage_38 : decode cX5_portage 38 = .ok (.istore 6, 2) := by decide +kernel
theorem dX5_portage_40 : decode cX5_portage 40 = .ok (.iload 6, 2) := by decide +kernel
theorem dX5_portage_42 : decode cX5_portage 42 = .ok (.ifCond .eq 10, 3) := by decide +kernel
theorem dX5_portage_45 : decode cX5_portage 45 = .ok (.aload_n 0, 1) := by decide +kernel
theorem dX5_portage_46 : decode cX5_portage 46 = .ok (.iload 6, 2) := by decide +kernel
theorem dX5_portage_48 : decode cX5_portage 48 = .ok (.invokevirtual 68, 3) := by decide +kernel
theorem dX5_portage_51 : decode cX5_portage 51 = .ok (.ireturn, 1) := by decide +kernel
theorem dX5_portage_52 : decode cX5_portage 52 = .ok (.iload 4, 2) := by decide +kernel
theorem dX5_portage_54 : decode cX5_portage 54 = .ok (.ifCond .ge 9, 3) := by decide +kernel
theorem dX5_portage_57 : decode cX5_portage 57 = .ok (.aload_n 0, 1) := by decide +kernel
theorem dX5_portage_58 : decode cX5_portage 58 = .ok (.iconst 4, 1) := by decide +kernel
theorem dX5_portage_59 : decode cX5_portage 59 = .ok (.invokevirtual 68, 3) := by decide +kernel
theorem dX5_portage_62 : decode cX5_portage 62 = .ok (.ireturn, 1) := by decide +kernel
theorem dX5_portage_63 : decode cX5_portage 63 = .ok (.aload 5, 2) := by decide +kernel
theorem dX5_portage_65 : decode cX5_portage 65 = .ok (.iload_n 3, 1) := by decide +kernel
theorem dX5_portage_66 : decode cX5_portage 66 = .ok (.iload 4, 2) := by decide +kernel
theorem dX5_portage_68 : decode cX5_portage 68 = .ok (.invokevirtual 71, 3) := by decide +kernel
theorem dX5_portage_71 : decode cX5_portage 71 = .ok (.ifCond .ne 9, 3) := by decide +kernel
theorem dX5_portage_74 : decode cX5_portage 74 = .ok (.aload_n 0, 1) := by decide +kernel
theorem dX5_portage_75 : decode cX5_portage 75 = .ok (.iconst 3, 1) := by decide +kernel
theorem dX5_portage_76 : decode cX5_portage 76 = .ok (.invokevirtual 68, 3) := by decide +kernel
theorem dX5_portage_79 : decode cX5_portage 79 = .ok (.ireturn, 1) := by decide +kernel
theorem dX5_portage_80 : decode cX5_portage 80 = .ok (.aload_n 0, 1) := by decide +kernel
theorem dX5_portage_81 : decode cX5_portage 81 = .ok (.getfield 18, 3) := by decide +kernel
theorem dX5_portage_84 : decode cX5_portage 84 = .ok (.aload 5, 2) := by decide +kernel
theorem dX5_portage_86 : decode cX5_portage 86 = .ok (.iload_n 3, 1) := by decide +kernel
theorem dX5_portage_87 : decode cX5_portage 87 = .ok (.iload 4, 2) := by decide +kernel
theorem dX5_portage_89 : decode cX5_portage 89 = .ok (.invokevirtual 75, 3) := by decide +kernel
theorem dX5_portage_92 : decode cX5_portage 92 = .ok (.istore 7, 2) := by decide +kernel
theorem dX5_portage_94 : decode cX5_portage 94 = .ok (.iload 7, 2) := by decide +kernel
theorem dX5_portage_96 : decode cX5_portage 96 = .ok (.bipush (-9), 2) := by decide +kernel
theorem dX5_portage_98 : decode cX5_portage 98 = .ok (.if_icmp .eq 9, 3) := by decide +kernel
theorem dX5_portage_101 : decode cX5_portage 101 = .ok (.bipush (-100), 2) := by decide +kernel
theorem dX5_portage_103 : decode cX5_portage 103 = .ok (.iload 7, 2) := by decide +kernel
theorem dX5_portage_105 : decode cX5_portage 105 = .ok (.isub, 1) := by decide +kernel
theorem dX5_portage_106 : decode cX5_portage 106 = .ok (.ireturn, 1) := by decide +kernel
theorem dX5_portage_107 : decode cX5_portage 107 = .ok (.aload_n 0, 1) := by decide +kernel
theorem dX5_portage_108 : decode cX5_portage 108 = .ok (.getfield 12, 3) := by decide +kernel
theorem dX5_portage_111 : decode cX5_portage 111 = .ok (.aload_n 0, 1) := by decide +kernel
theorem dX5_portage_112 : decode cX5_portage 112 = .ok (.getfield 18, 3) := by decide +kernel
theorem dX5_portage_115 : decode cX5_portage 115 = .ok (.invokevirtual 79, 3) := by decide +kernel
theorem dX5_portage_118 : decode cX5_portage 118 = .ok (.aload_n 0, 1) := by decide +kernel
theorem dX5_portage_119 : decode cX5_portage 119 = .ok (.getfield 30, 3) := by decide +kernel
theorem dX5_portage_122 : decode cX5_portage 122 = .ok (.iconst 0, 1) := by decide +kernel
theorem dX5_portage_123 : decode cX5_portage 123 = .ok (.putfield 83, 3) := by decide +kernel
theorem dX5_portage_126 : decode cX5_portage 126 = .ok (.aload_n 0, 1) := by decide +kernel
theorem dX5_portage_127 : decode cX5_portage 127 = .ok (.invokevirtual 86, 3) := by decide +kernel
theorem dX5_portage_130 : decode cX5_portage 130 = .ok (.aload_n 0, 1) := by decide +kernel
theorem dX5_portage_131 : decode cX5_portage 131 = .ok (.getfield 12, 3) := by decide +kernel
theorem dX5_portage_134 : decode cX5_portage 134 = .ok (.getfield 89, 3) := by decide +kernel
theorem dX5_portage_137 : decode cX5_portage 137 = .ok (.ireturn, 1) := by decide +kernel
theorem dX5_ofStage_0 : decode cX5_ofStage 0 = .ok (.aload_n 0, 1) := by decide +kernel
theorem dX5_ofStage_1 : decode cX5_ofStage 1 = .ok (.getfield 12, 3) := by decide +kernel
theorem dX5_ofStage_4 : decode cX5_ofStage 4 = .ok (.iload_n 1, 1) := by decide +kernel
theorem dX5_ofStage_5 : decode cX5_ofStage 5 = .ok (.invokevirtual 92, 3) := by decide +kernel
theorem dX5_ofStage_8 : decode cX5_ofStage 8 = .ok (.ifCond .ne 5, 3) := by decide +kernel
theorem dX5_ofStage_11 : decode cX5_ofStage 11 = .ok (.iconst (-1), 1) := by decide +kernel
theorem dX5_ofStage_12 : decode cX5_ofStage 12 = .ok (.ireturn, 1) := by decide +kernel
theorem dX5_ofStage_13 : decode cX5_ofStage 13 = .ok (.iload_n 2, 1) := by decide +kernel
theorem dX5_ofStage_14 : decode cX5_ofStage 14 = .ok (.tableswitch 64 0 2 #[26, 36, 46], 26) := by decide +kernel
theorem dX5_ofStage_40 : decode cX5_ofStage 40 = .ok (.aload_n 0, 1) := by decide +kernel
theorem dX5_ofStage_41 : decode cX5_ofStage 41 = .ok (.getfield 12, 3) := by decide +kernel
theorem dX5_ofStage_44 : decode cX5_ofStage 44 = .ok (.getfield 95, 3) := by decide +kernel
theorem dX5_ofStage_47 : decode cX5_ofStage 47 = .ok (.iload_n 1, 1) := by decide +kernel
theorem dX5_ofStage_48 : decode cX5_ofStage 48 = .ok (.iaload, 1) := by decide +kernel
theorem dX5_ofStage_49 : decode cX5_ofStage 49 = .ok (.ireturn, 1) := by decide +kernel
theorem dX5_ofStage_50 : decode cX5_ofStage 50 = .ok (.aload_n 0, 1) := by decide +kernel
theorem dX5_ofStage_51 : decode cX5_ofStage 51 = .ok (.getfield 12, 3) := by decide +kernel
theorem dX5_ofStage_54 : decode cX5_ofStage 54 = .ok (.getfield 98, 3) := by decide +kernel
theorem dX5_ofStage_57 : decode cX5_ofStage 57 = .ok (.iload_n 1, 1) := by decide +kernel
theorem dX5_ofStage_58 : decode cX5_ofStage 58 = .ok (.iaload, 1) := by decide +kernel
theorem dX5_ofStage_59 : decode cX5_ofStage 59 = .ok (.ireturn, 1) := by decide +kernel
theorem dX5_ofStage_60 : decode cX5_ofStage 60 = .ok (.aload_n 0, 1) := by decide +kernel
theorem dX5_ofStage_61 : decode cX5_ofStage 61 = .ok (.getfield 12, 3) := by decide +kernel
theorem dX5_ofStage_64 : decode cX5_ofStage 64 = .ok (.getfield 101, 3) := by decide +kernel
theorem dX5_ofStage_67 : decode cX5_ofStage 67 = .ok (.iload_n 1, 1) := by decide +kernel
theorem dX5_ofStage_68 : decode cX5_ofStage 68 = .ok (.baload, 1) := by decide +kernel
theorem dX5_ofStage_69 : decode cX5_ofStage 69 = .ok (.ifCond .eq 7, 3) := by decide +kernel
theorem dX5_ofStage_72 : decode cX5_ofStage 72 = .ok (.iconst 1, 1) := by decide +kernel
theorem dX5_ofStage_73 : decode cX5_ofStage 73 = .ok (.goto 4, 3) := by decide +kernel
theorem dX5_ofStage_76 : decode cX5_ofStage 76 = .ok (.iconst 0, 1) := by decide +kernel
theorem dX5_ofStage_77 : decode cX5_ofStage 77 = .ok (.ireturn, 1) := by decide +kernel
theorem dX5_ofStage_78 : decode cX5_ofStage 78 = .ok (.bipush (-2), 2) := by decide +kernel
theorem dX5_ofStage_80 : decode cX5_ofStage 80 = .ok (.ireturn, 1) := by decide +kernel
theorem dX5_ofThing_0 : decode cX5_ofThing 0 = .ok (.aload_n 0, 1) := by decide +kernel
theorem dX5_ofThing_1 : decode cX5_ofThing 1 = .ok (.getfield 12, 3) := by decide +kernel
theorem dX5_ofThing_4 : decode cX5_ofThing 4 = .ok (.iload_n 1, 1) := by decide +kernel
theorem dX5_ofThing_5 : decode cX5_ofThing 5 = .ok (.invokevirtual 105, 3) := by decide +kernel
theorem dX5_ofThing_8 : decode cX5_ofThing 8 = .ok (.ifCond .ne 5, 3) := by decide +kernel
theorem dX5_ofThing_11 : decode cX5_ofThing 11 = .ok (.iconst (-1), 1) := by decide +kernel
theorem dX5_ofThing_12 : decode cX5_ofThing 12 = .ok (.ireturn, 1) := by decide +kernel
theorem dX5_ofThing_13 : decode cX5_ofThing 13 = .ok (.iload_n 2, 1) := by decide +kernel
theorem dX5_ofThing_14 : decode cX5_ofThing 14 = .ok (.lookupswitch 46 #[(0, 26), (1, 36)], 26) := by decide +kernel
theorem dX5_ofThing_40 : decode cX5_ofThing 40 = .ok (.aload_n 0, 1) := by decide +kernel
theorem dX5_ofThing_41 : decode cX5_ofThing 41 = .ok (.getfield 12, 3) := by decide +kernel
theorem dX5_ofThing_44 : decode cX5_ofThing 44 = .ok (.getfield 108, 3) := by decide +kernel
theorem dX5_ofThing_47 : decode cX5_ofThing 47 = .ok (.iload_n 1, 1) := by decide +kernel
theorem dX5_ofThing_48 : decode cX5_ofThing 48 = .ok (.iaload, 1) := by decide +kernel
theorem dX5_ofThing_49 : decode cX5_ofThing 49 = .ok (.ireturn, 1) := by decide +kernel
theorem dX5_ofThing_50 : decode cX5_ofThing 50 = .ok (.aload_n 0, 1) := by decide +kernel
theorem dX5_ofThing_51 : decode cX5_ofThing 51 = .ok (.getfield 12, 3) := by decide +kernel
theorem dX5_ofThing_54 : decode cX5_ofThing 54 = .ok (.getfield 111, 3) := by decide +kernel
theorem dX5_ofThing_57 : decode cX5_ofThing 57 = .ok (.iload_n 1, 1) := by decide +kernel
theorem dX5_ofThing_58 : decode cX5_ofThing 58 = .ok (.iaload, 1) := by decide +kernel
theorem dX5_ofThing_59 : decode cX5_ofThing 59 = .ok (.ireturn, 1) := by decide +kernel
theorem dX5_ofThing_60 : decode cX5_ofThing 60 = .ok (.bipush (-2), 2) := by decide +kernel
theorem dX5_ofThing_62 : decode cX5_ofThing 62 = .ok (.ireturn, 1) := by decide +kernel
theorem dX5_bears_0 : decode cX5_bears 0 = .ok (.iload_n 1, 1) := by decide +kernel
theorem dX5_bears_1 : decode cX5_bears 1 = .ok (.iconst 1, 1) := by decide +kernel
theorem dX5_bears_2 : decode cX5_bears 2 = .ok (.if_icmp .lt 9, 3) := by decide +kernel
theorem dX5_bears_5 : decode cX5_bears 5 = .ok (.iload_n 1, 1) := by decide +kernel
theorem dX5_bears_6 : decode cX5_bears 6 = .ok (.bipush 36, 2) := by decide +kernel
theorem dX5_bears_8 : decode cX5_bears 8 = .ok (.if_icmp .le 6, 3) := by decide +kernel
theorem dX5_bears_11 : decode cX5_bears 11 = .ok (.bipush (-2), 2) := by decide +kernel
theorem dX5_bears_13 : decode cX5_bears 13 = .ok (.ireturn, 1) := by decide +kernel
theorem dX5_bears_14 : decode cX5_bears 14 = .ok (.aload_n 0, 1) := by decide +kernel
theorem dX5_bears_15 : decode cX5_bears 15 = .ok (.getfield 12, 3) := by decide +kernel
theorem dX5_bears_18 : decode cX5_bears 18 = .ok (.invokevirtual 114, 3) := by decide +kernel
theorem dX5_bears_21 : decode cX5_bears 21 = .ok (.ifCond .ne 6, 3) := by decide +kernel
theorem dX5_bears_24 : decode cX5_bears 24 = .ok (.bipush (-3), 2) := by decide +kernel
theorem dX5_bears_26 : decode cX5_bears 26 = .ok (.ireturn, 1) := by decide +kernel
theorem dX5_bears_27 : decode cX5_bears 27 = .ok (.aload_n 0, 1) := by decide +kernel
theorem dX5_bears_28 : decode cX5_bears 28 = .ok (.getfield 12, 3) := by decide +kernel
theorem dX5_bears_31 : decode cX5_bears 31 = .ok (.getfield 118, 3) := by decide +kernel
theorem dX5_bears_34 : decode cX5_bears 34 = .ok (.istore_n 2, 1) := by decide +kernel
theorem dX5_bears_35 : decode cX5_bears 35 = .ok (.aload_n 0, 1) := by decide +kernel
theorem dX5_bears_36 : decode cX5_bears 36 = .ok (.getfield 12, 3) := by decide +kernel
theorem dX5_bears_39 : decode cX5_bears 39 = .ok (.iload_n 1, 1) := by decide +kernel
theorem dX5_bears_40 : decode cX5_bears 40 = .ok (.putfield 118, 3) := by decide +kernel
theorem dX5_bears_43 : decode cX5_bears 43 = .ok (.aload_n 0, 1) := by decide +kernel
theorem dX5_bears_44 : decode cX5_bears 44 = .ok (.invokevirtual 86, 3) := by decide +kernel
theorem dX5_bears_47 : decode cX5_bears 47 = .ok (.iload_n 2, 1) := by decide +kernel
theorem dX5_bears_48 : decode cX5_bears 48 = .ok (.ireturn, 1) := by decide +kernel
theorem dX5_rain_0 : decode cX5_rain 0 = .ok (.iload_n 1, 1) := by decide +kernel
theorem dX5_rain_1 : decode cX5_rain 1 = .ok (.bipush (-9), 2) := by decide +kernel
theorem dX5_rain_3 : decode cX5_rain 3 = .ok (.if_icmp .eq 16, 3) := by decide +kernel
theorem dX5_rain_6 : decode cX5_rain 6 = .ok (.iload_n 1, 1) := by decide +kernel
theorem dX5_rain_7 : decode cX5_rain 7 = .ok (.ifCond .lt 9, 3) := by decide +kernel
theorem dX5_rain_10 : decode cX5_rain 10 = .ok (.iload_n 1, 1) := by decide +kernel
theorem dX5_rain_11 : decode cX5_rain 11 = .ok (.bipush 99, 2) := by decide +kernel
theorem dX5_rain_13 : decode cX5_rain 13 = .ok (.if_icmp .le 6, 3) := by decide +kernel
theorem dX5_rain_16 : decode cX5_rain 16 = .ok (.bipush (-2), 2) := by decide +kernel
theorem dX5_rain_18 : decode cX5_rain 18 = .ok (.ireturn, 1) := by decide +kernel
theorem dX5_rain_19 : decode cX5_rain 19 = .ok (.aload_n 0, 1) := by decide +kernel
theorem dX5_rain_20 : decode cX5_rain 20 = .ok (.getfield 12, 3) := by decide +kernel
theorem dX5_rain_23 : decode cX5_rain 23 = .ok (.invokevirtual 114, 3) := by decide +kernel
theorem dX5_rain_26 : decode cX5_rain 26 = .ok (.ifCond .ne 6, 3) := by decide +kernel
theorem dX5_rain_29 : decode cX5_rain 29 = .ok (.bipush (-3), 2) := by decide +kernel
theorem dX5_rain_31 : decode cX5_rain 31 = .ok (.ireturn, 1) := by decide +kernel
theorem dX5_rain_32 : decode cX5_rain 32 = .ok (.aload_n 0, 1) := by decide +kernel
theorem dX5_rain_33 : decode cX5_rain 33 = .ok (.getfield 12, 3) := by decide +kernel
theorem dX5_rain_36 : decode cX5_rain 36 = .ok (.getfield 121, 3) := by decide +kernel
theorem dX5_rain_39 : decode cX5_rain 39 = .ok (.istore_n 2, 1) := by decide +kernel
theorem dX5_rain_40 : decode cX5_rain 40 = .ok (.aload_n 0, 1) := by decide +kernel
theorem dX5_rain_41 : decode cX5_rain 41 = .ok (.getfield 12, 3) := by decide +kernel
theorem dX5_rain_44 : decode cX5_rain 44 = .ok (.iload_n 1, 1) := by decide +kernel
theorem dX5_rain_45 : decode cX5_rain 45 = .ok (.putfield 121, 3) := by decide +kernel
theorem dX5_rain_48 : decode cX5_rain 48 = .ok (.aload_n 0, 1) := by decide +kernel
theorem dX5_rain_49 : decode cX5_rain 49 = .ok (.invokevirtual 86, 3) := by decide +kernel
theorem dX5_rain_52 : decode cX5_rain 52 = .ok (.iload_n 2, 1) := by decide +kernel
theorem dX5_rain_53 : decode cX5_rain 53 = .ok (.ireturn, 1) := by decide +kernel
theorem dX5_boards_0 : decode cX5_boards 0 = .ok (.aload_n 0, 1) := by decide +kernel
theorem dX5_boards_1 : decode cX5_boards 1 = .ok (.getfield 12, 3) := by decide +kernel
theorem dX5_boards_4 : decode cX5_boards 4 = .ok (.iload_n 1, 1) := by decide +kernel
theorem dX5_boards_5 : decode cX5_boards 5 = .ok (.invokevirtual 92, 3) := by decide +kernel
theorem dX5_boards_8 : decode cX5_boards 8 = .ok (.ifCond .ne 5, 3) := by decide +kernel
theorem dX5_boards_11 : decode cX5_boards 11 = .ok (.iconst (-1), 1) := by decide +kernel
theorem dX5_boards_12 : decode cX5_boards 12 = .ok (.ireturn, 1) := by decide +kernel
theorem dX5_boards_13 : decode cX5_boards 13 = .ok (.aload_n 0, 1) := by decide +kernel
theorem dX5_boards_14 : decode cX5_boards 14 = .ok (.getfield 12, 3) := by decide +kernel
theorem dX5_boards_17 : decode cX5_boards 17 = .ok (.getfield 101, 3) := by decide +kernel
theorem dX5_boards_20 : decode cX5_boards 20 = .ok (.iload_n 1, 1) := by decide +kernel
theorem dX5_boards_21 : decode cX5_boards 21 = .ok (.baload, 1) := by decide +kernel
theorem dX5_boards_22 : decode cX5_boards 22 = .ok (.iload_n 2, 1) := by decide +kernel
theorem dX5_boards_23 : decode cX5_boards 23 = .ok (.if_icmp .ne 5, 3) := by decide +kernel
theorem dX5_boards_26 : decode cX5_boards 26 = .ok (.iconst 0, 1) := by decide +kernel
theorem dX5_boards_27 : decode cX5_boards 27 = .ok (.ireturn, 1) := by decide +kernel
theorem dX5_boards_28 : decode cX5_boards 28 = .ok (.aload_n 0, 1) := by decide +kernel
theorem dX5_boards_29 : decode cX5_boards 29 = .ok (.getfield 12, 3) := by decide +kernel
theorem dX5_boards_32 : decode cX5_boards 32 = .ok (.getfield 101, 3) := by decide +kernel
theorem dX5_boards_35 : decode cX5_boards 35 = .ok (.iload_n 1, 1) := by decide +kernel
theorem dX5_boards_36 : decode cX5_boards 36 = .ok (.iload_n 2, 1) := by decide +kernel
theorem dX5_boards_37 : decode cX5_boards 37 = .ok (.bastore, 1) := by decide +kernel
theorem dX5_boards_38 : decode cX5_boards 38 = .ok (.aload_n 0, 1) := by decide +kernel
theorem dX5_boards_39 : decode cX5_boards 39 = .ok (.invokevirtual 86, 3) := by decide +kernel
theorem dX5_boards_42 : decode cX5_boards 42 = .ok (.iconst 1, 1) := by decide +kernel
theorem dX5_boards_43 : decode cX5_boards 43 = .ok (.ireturn, 1) := by decide +kernel
theorem dX5_well_0 : decode cX5_well 0 = .ok (.aload_n 0, 1) := by decide +kernel
theorem dX5_well_1 : decode cX5_well 1 = .ok (.getfield 12, 3) := by decide +kernel
theorem dX5_well_4 : decode cX5_well 4 = .ok (.iload_n 1, 1) := by decide +kernel
theorem dX5_well_5 : decode cX5_well 5 = .ok (.invokevirtual 124, 3) := by decide +kernel
theorem dX5_well_8 : decode cX5_well 8 = .ok (.ifCond .ne 6, 3) := by decide +kernel
theorem dX5_well_11 : decode cX5_well 11 = .ok (.bipush (-2), 2) := by decide +kernel
theorem dX5_well_13 : decode cX5_well 13 = .ok (.ireturn, 1) := by decide +kernel
theorem dX5_well_14 : decode cX5_well 14 = .ok (.aload_n 0, 1) := by decide +kernel
theorem dX5_well_15 : decode cX5_well 15 = .ok (.getfield 12, 3) := by decide +kernel
theorem dX5_well_18 : decode cX5_well 18 = .ok (.invokevirtual 114, 3) := by decide +kernel
theorem dX5_well_21 : decode cX5_well 21 = .ok (.ifCond .ne 6, 3) := by decide +kernel
theorem dX5_well_24 : decode cX5_well 24 = .ok (.bipush (-3), 2) := by decide +kernel
theorem dX5_well_26 : decode cX5_well 26 = .ok (.ireturn, 1) := by decide +kernel
theorem dX5_well_27 : decode cX5_well 27 = .ok (.aload_n 0, 1) := by decide +kernel
theorem dX5_well_28 : decode cX5_well 28 = .ok (.getfield 12, 3) := by decide +kernel
theorem dX5_well_31 : decode cX5_well 31 = .ok (.iload_n 1, 1) := by decide +kernel
theorem dX5_well_32 : decode cX5_well 32 = .ok (.invokevirtual 127, 3) := by decide +kernel
theorem dX5_well_35 : decode cX5_well 35 = .ok (.ireturn, 1) := by decide +kernel
theorem dX5_trips_0 : decode cX5_trips 0 = .ok (.aload_n 0, 1) := by decide +kernel
theorem dX5_trips_1 : decode cX5_trips 1 = .ok (.iconst 0, 1) := by decide +kernel
theorem dX5_trips_2 : decode cX5_trips 2 = .ok (.putfield 53, 3) := by decide +kernel
theorem dX5_trips_5 : decode cX5_trips 5 = .ok (.iload 5, 2) := by decide +kernel
theorem dX5_trips_7 : decode cX5_trips 7 = .ok (.ifCond .lt 9, 3) := by decide +kernel
theorem dX5_trips_10 : decode cX5_trips 10 = .ok (.iload 5, 2) := by decide +kernel
theorem dX5_trips_12 : decode cX5_trips 12 = .ok (.iconst 2, 1) := by decide +kernel
theorem dX5_trips_13 : decode cX5_trips 13 = .ok (.if_icmp .le 17, 3) := by decide +kernel
theorem dX5_trips_16 : decode cX5_trips 16 = .ok (.iload 5, 2) := by decide +kernel
theorem dX5_trips_18 : decode cX5_trips 18 = .ok (.bipush 10, 2) := by decide +kernel
theorem dX5_trips_20 : decode cX5_trips 20 = .ok (.if_icmp .lt 14, 3) := by decide +kernel
theorem dX5_trips_23 : decode cX5_trips 23 = .ok (.iload 5, 2) := by decide +kernel
theorem dX5_trips_25 : decode cX5_trips 25 = .ok (.bipush 13, 2) := by decide +kernel
theorem dX5_trips_27 : decode cX5_trips 27 = .ok (.if_icmp .gt 7, 3) := by decide +kernel
theorem dX5_trips_30 : decode cX5_trips 30 = .ok (.iconst 1, 1) := by decide +kernel
theorem dX5_trips_31 : decode cX5_trips 31 = .ok (.goto 4, 3) := by decide +kernel
theorem dX5_trips_34 : decode cX5_trips 34 = .ok (.iconst 0, 1) := by decide +kernel
theorem dX5_trips_35 : decode cX5_trips 35 = .ok (.istore 6, 2) := by decide +kernel
theorem dX5_trips_37 : decode cX5_trips 37 = .ok (.aload_n 0, 1) := by decide +kernel
theorem dX5_trips_38 : decode cX5_trips 38 = .ok (.iload_n 1, 1) := by decide +kernel
theorem dX5_trips_39 : decode cX5_trips 39 = .ok (.iload_n 2, 1) := by decide +kernel
theorem dX5_trips_40 : decode cX5_trips 40 = .ok (.iload_n 3, 1) := by decide +kernel
theorem dX5_trips_41 : decode cX5_trips 41 = .ok (.iload 4, 2) := by decide +kernel
theorem dX5_trips_43 : decode cX5_trips 43 = .ok (.iload 6, 2) := by decide +kernel
theorem dX5_trips_45 : decode cX5_trips 45 = .ok (.invokevirtual 130, 3) := by decide +kernel
theorem dX5_trips_48 : decode cX5_trips 48 = .ok (.istore 7, 2) := by decide +kernel
theorem dX5_trips_50 : decode cX5_trips 50 = .ok (.iload 7, 2) := by decide +kernel
theorem dX5_trips_52 : decode cX5_trips 52 = .ok (.ifCond .eq 6, 3) := by decide +kernel
theorem dX5_trips_55 : decode cX5_trips 55 = .ok (.iload 7, 2) := by decide +kernel
theorem dX5_trips_57 : decode cX5_trips 57 = .ok (.ireturn, 1) := by decide +kernel
theorem dX5_trips_58 : decode cX5_trips 58 = .ok (.aload_n 0, 1) := by decide +kernel
theorem dX5_trips_59 : decode cX5_trips 59 = .ok (.getfield 37, 3) := by decide +kernel
theorem dX5_trips_62 : decode cX5_trips 62 = .ok (.aload_n 0, 1) := by decide +kernel
theorem dX5_trips_63 : decode cX5_trips 63 = .ok (.getfield 12, 3) := by decide +kernel
theorem dX5_trips_66 : decode cX5_trips 66 = .ok (.invokevirtual 134, 3) := by decide +kernel
theorem dX5_trips_69 : decode cX5_trips 69 = .ok (.iload 5, 2) := by decide +kernel
theorem dX5_trips_71 : decode cX5_trips 71 = .ok (.iconst 1, 1) := by decide +kernel
theorem dX5_trips_72 : decode cX5_trips 72 = .ok (.if_icmp .ne 11, 3) := by decide +kernel
theorem dX5_trips_75 : decode cX5_trips 75 = .ok (.aload_n 0, 1) := by decide +kernel
theorem dX5_trips_76 : decode cX5_trips 76 = .ok (.getfield 37, 3) := by decide +kernel
theorem dX5_trips_79 : decode cX5_trips 79 = .ok (.getfield 137, 3) := by decide +kernel
theorem dX5_trips_82 : decode cX5_trips 82 = .ok (.ireturn, 1) := by decide +kernel
theorem dX5_trips_83 : decode cX5_trips 83 = .ok (.aload_n 0, 1) := by decide +kernel
theorem dX5_trips_84 : decode cX5_trips 84 = .ok (.getfield 37, 3) := by decide +kernel
theorem dX5_trips_87 : decode cX5_trips 87 = .ok (.getfield 137, 3) := by decide +kernel
theorem dX5_trips_90 : decode cX5_trips 90 = .ok (.bipush (-9), 2) := by decide +kernel
theorem dX5_trips_92 : decode cX5_trips 92 = .ok (.if_icmp .eq 14, 3) := by decide +kernel
theorem dX5_trips_95 : decode cX5_trips 95 = .ok (.bipush (-100), 2) := by decide +kernel
theorem dX5_trips_97 : decode cX5_trips 97 = .ok (.aload_n 0, 1) := by decide +kernel
theorem dX5_trips_98 : decode cX5_trips 98 = .ok (.getfield 37, 3) := by decide +kernel
theorem dX5_trips_101 : decode cX5_trips 101 = .ok (.getfield 137, 3) := by decide +kernel
theorem dX5_trips_104 : decode cX5_trips 104 = .ok (.isub, 1) := by decide +kernel
theorem dX5_trips_105 : decode cX5_trips 105 = .ok (.ireturn, 1) := by decide +kernel
theorem dX5_trips_106 : decode cX5_trips 106 = .ok (.iload 5, 2) := by decide +kernel
theorem dX5_trips_108 : decode cX5_trips 108 = .ok (.ifCond .ne 11, 3) := by decide +kernel
theorem dX5_trips_111 : decode cX5_trips 111 = .ok (.aload_n 0, 1) := by decide +kernel
theorem dX5_trips_112 : decode cX5_trips 112 = .ok (.getfield 37, 3) := by decide +kernel
theorem dX5_trips_115 : decode cX5_trips 115 = .ok (.invokevirtual 140, 3) := by decide +kernel
theorem dX5_trips_118 : decode cX5_trips 118 = .ok (.ireturn, 1) := by decide +kernel
theorem dX5_trips_119 : decode cX5_trips 119 = .ok (.iload 5, 2) := by decide +kernel
theorem dX5_trips_121 : decode cX5_trips 121 = .ok (.iconst 2, 1) := by decide +kernel
theorem dX5_trips_122 : decode cX5_trips 122 = .ok (.if_icmp .ne 11, 3) := by decide +kernel
theorem dX5_trips_125 : decode cX5_trips 125 = .ok (.aload_n 0, 1) := by decide +kernel
theorem dX5_trips_126 : decode cX5_trips 126 = .ok (.getfield 37, 3) := by decide +kernel
theorem dX5_trips_129 : decode cX5_trips 129 = .ok (.getfield 144, 3) := by decide +kernel
theorem dX5_trips_132 : decode cX5_trips 132 = .ok (.ireturn, 1) := by decide +kernel
theorem dX5_trips_133 : decode cX5_trips 133 = .ok (.iload 5, 2) := by decide +kernel
theorem dX5_trips_135 : decode cX5_trips 135 = .ok (.bipush 10, 2) := by decide +kernel
theorem dX5_trips_137 : decode cX5_trips 137 = .ok (.isub, 1) := by decide +kernel
theorem dX5_trips_138 : decode cX5_trips 138 = .ok (.istore 8, 2) := by decide +kernel
theorem dX5_trips_140 : decode cX5_trips 140 = .ok (.aload_n 0, 1) := by decide +kernel
theorem dX5_trips_141 : decode cX5_trips 141 = .ok (.getfield 12, 3) := by decide +kernel
theorem dX5_trips_144 : decode cX5_trips 144 = .ok (.iload 8, 2) := by decide +kernel
theorem dX5_trips_146 : decode cX5_trips 146 = .ok (.invokevirtual 147, 3) := by decide +kernel
theorem dX5_trips_149 : decode cX5_trips 149 = .ok (.ifCond .eq 15, 3) := by decide +kernel
theorem dX5_trips_152 : decode cX5_trips 152 = .ok (.aload_n 0, 1) := by decide +kernel
theorem dX5_trips_153 : decode cX5_trips 153 = .ok (.getfield 37, 3) := by decide +kernel
theorem dX5_trips_156 : decode cX5_trips 156 = .ok (.iload 8, 2) := by decide +kernel
theorem dX5_trips_158 : decode cX5_trips 158 = .ok (.invokevirtual 150, 3) := by decide +kernel
theorem dX5_trips_161 : decode cX5_trips 161 = .ok (.goto 5, 3) := by decide +kernel
theorem dX5_trips_164 : decode cX5_trips 164 = .ok (.bipush (-9), 2) := by decide +kernel
theorem dX5_trips_166 : decode cX5_trips 166 = .ok (.ireturn, 1) := by decide +kernel
theorem dX5_at_0 : decode cX5_at 0 = .ok (.aload_n 0, 1) := by decide +kernel
theorem dX5_at_1 : decode cX5_at 1 = .ok (.iconst 0, 1) := by decide +kernel
theorem dX5_at_2 : decode cX5_at 2 = .ok (.putfield 53, 3) := by decide +kernel
theorem dX5_at_5 : decode cX5_at 5 = .ok (.aload_n 0, 1) := by decide +kernel
theorem dX5_at_6 : decode cX5_at 6 = .ok (.getfield 12, 3) := by decide +kernel
theorem dX5_at_9 : decode cX5_at 9 = .ok (.iload_n 1, 1) := by decide +kernel
theorem dX5_at_10 : decode cX5_at 10 = .ok (.invokevirtual 105, 3) := by decide +kernel
theorem dX5_at_13 : decode cX5_at 13 = .ok (.ifCond .ne 5, 3) := by decide +kernel
theorem dX5_at_16 : decode cX5_at 16 = .ok (.iconst (-1), 1) := by decide +kernel
theorem dX5_at_17 : decode cX5_at 17 = .ok (.ireturn, 1) := by decide +kernel
theorem dX5_at_18 : decode cX5_at 18 = .ok (.iload_n 2, 1) := by decide +kernel
theorem dX5_at_19 : decode cX5_at 19 = .ok (.ifCond .lt 10, 3) := by decide +kernel
theorem dX5_at_22 : decode cX5_at 22 = .ok (.iload_n 2, 1) := by decide +kernel
theorem dX5_at_23 : decode cX5_at 23 = .ok (.sipush 999, 3) := by decide +kernel
theorem dX5_at_26 : decode cX5_at 26 = .ok (.if_icmp .le 6, 3) := by decide +kernel
theorem dX5_at_29 : decode cX5_at 29 = .ok (.bipush (-2), 2) := by decide +kernel
theorem dX5_at_31 : decode cX5_at 31 = .ok (.ireturn, 1) := by decide +kernel
theorem dX5_at_32 : decode cX5_at 32 = .ok (.aload_n 0, 1) := by decide +kernel
theorem dX5_at_33 : decode cX5_at 33 = .ok (.iload_n 3, 1) := by decide +kernel
theorem dX5_at_34 : decode cX5_at 34 = .ok (.iload 4, 2) := by decide +kernel
theorem dX5_at_36 : decode cX5_at 36 = .ok (.iload 5, 2) := by decide +kernel
theorem dX5_at_38 : decode cX5_at 38 = .ok (.iload 6, 2) := by decide +kernel
theorem dX5_at_40 : decode cX5_at 40 = .ok (.iconst 1, 1) := by decide +kernel
theorem dX5_at_41 : decode cX5_at 41 = .ok (.invokevirtual 130, 3) := by decide +kernel
theorem dX5_at_44 : decode cX5_at 44 = .ok (.istore 7, 2) := by decide +kernel
theorem dX5_at_46 : decode cX5_at 46 = .ok (.iload 7, 2) := by decide +kernel
theorem dX5_at_48 : decode cX5_at 48 = .ok (.ifCond .eq 6, 3) := by decide +kernel
theorem dX5_at_51 : decode cX5_at 51 = .ok (.iload 7, 2) := by decide +kernel
theorem dX5_at_53 : decode cX5_at 53 = .ok (.ireturn, 1) := by decide +kernel
theorem dX5_at_54 : decode cX5_at 54 = .ok (.aload_n 0, 1) := by decide +kernel
theorem dX5_at_55 : decode cX5_at 55 = .ok (.getfield 37, 3) := by decide +kernel
theorem dX5_at_58 : decode cX5_at 58 = .ok (.aload_n 0, 1) := by decide +kernel
theorem dX5_at_59 : decode cX5_at 59 = .ok (.getfield 12, 3) := by decide +kernel
theorem dX5_at_62 : decode cX5_at 62 = .ok (.invokevirtual 134, 3) := by decide +kernel
theorem dX5_at_65 : decode cX5_at 65 = .ok (.aload_n 0, 1) := by decide +kernel
theorem dX5_at_66 : decode cX5_at 66 = .ok (.getfield 37, 3) := by decide +kernel
theorem dX5_at_69 : decode cX5_at 69 = .ok (.getfield 137, 3) := by decide +kernel
theorem dX5_at_72 : decode cX5_at 72 = .ok (.bipush (-9), 2) := by decide +kernel
theorem dX5_at_74 : decode cX5_at 74 = .ok (.if_icmp .ne 15, 3) := by decide +kernel
theorem dX5_at_77 : decode cX5_at 77 = .ok (.aload_n 0, 1) := by decide +kernel
theorem dX5_at_78 : decode cX5_at 78 = .ok (.getfield 37, 3) := by decide +kernel
theorem dX5_at_81 : decode cX5_at 81 = .ok (.iload_n 1, 1) := by decide +kernel
theorem dX5_at_82 : decode cX5_at 82 = .ok (.iload_n 2, 1) := by decide +kernel
theorem dX5_at_83 : decode cX5_at 83 = .ok (.invokevirtual 153, 3) := by decide +kernel
theorem dX5_at_86 : decode cX5_at 86 = .ok (.goto 13, 3) := by decide +kernel
theorem dX5_at_89 : decode cX5_at 89 = .ok (.bipush (-100), 2) := by decide +kernel
theorem dX5_at_91 : decode cX5_at 91 = .ok (.aload_n 0, 1) := by decide +kernel
theorem dX5_at_92 : decode cX5_at 92 = .ok (.getfield 37, 3) := by decide +kernel
theorem dX5_at_95 : decode cX5_at 95 = .ok (.getfield 137, 3) := by decide +kernel
theorem dX5_at_98 : decode cX5_at 98 = .ok (.isub, 1) := by decide +kernel
theorem dX5_at_99 : decode cX5_at 99 = .ok (.ireturn, 1) := by decide +kernel
theorem dX5_dry_0 : decode cX5_dry 0 = .ok (.aload_n 0, 1) := by decide +kernel
theorem dX5_dry_1 : decode cX5_dry 1 = .ok (.iconst 0, 1) := by decide +kernel
theorem dX5_dry_2 : decode cX5_dry 2 = .ok (.putfield 53, 3) := by decide +kernel
theorem dX5_dry_5 : decode cX5_dry 5 = .ok (.aload_n 0, 1) := by decide +kernel
theorem dX5_dry_6 : decode cX5_dry 6 = .ok (.iload_n 1, 1) := by decide +kernel
theorem dX5_dry_7 : decode cX5_dry 7 = .ok (.iload_n 2, 1) := by decide +kernel
theorem dX5_dry_8 : decode cX5_dry 8 = .ok (.iload_n 3, 1) := by decide +kernel
theorem dX5_dry_9 : decode cX5_dry 9 = .ok (.iload 4, 2) := by decide +kernel
theorem dX5_dry_11 : decode cX5_dry 11 = .ok (.iload 5, 2) := by decide +kernel
theorem dX5_dry_13 : decode cX5_dry 13 = .ok (.ifCond .eq 9, 3) := by decide +kernel
theorem dX5_dry_16 : decode cX5_dry 16 = .ok (.iload 5, 2) := by decide +kernel
theorem dX5_dry_18 : decode cX5_dry 18 = .ok (.iconst 1, 1) := by decide +kernel
theorem dX5_dry_19 : decode cX5_dry 19 = .ok (.if_icmp .ne 7, 3) := by decide +kernel
theorem dX5_dry_22 : decode cX5_dry 22 = .ok (.iconst 1, 1) := by decide +kernel
theorem dX5_dry_23 : decode cX5_dry 23 = .ok (.goto 4, 3) := by decide +kernel
theorem dX5_dry_26 : decode cX5_dry 26 = .ok (.iconst 0, 1) := by decide +kernel
theorem dX5_dry_27 : decode cX5_dry 27 = .ok (.invokevirtual 130, 3) := by decide +kernel
theorem dX5_dry_30 : decode cX5_dry 30 = .ok (.ifCond .eq 7, 3) := by decide +kernel
theorem dX5_dry_33 : decode cX5_dry 33 = .ok (.ldc2_w 157, 3) := by decide +kernel
theorem dX5_dry_36 : decode cX5_dry 36 = .ok (.lreturn, 1) := by decide +kernel
theorem dX5_dry_37 : decode cX5_dry 37 = .ok (.aload_n 0, 1) := by decide +kernel
theorem dX5_dry_38 : decode cX5_dry 38 = .ok (.getfield 37, 3) := by decide +kernel
theorem dX5_dry_41 : decode cX5_dry 41 = .ok (.aload_n 0, 1) := by decide +kernel
theorem dX5_dry_42 : decode cX5_dry 42 = .ok (.getfield 12, 3) := by decide +kernel
theorem dX5_dry_45 : decode cX5_dry 45 = .ok (.invokevirtual 134, 3) := by decide +kernel
theorem dX5_dry_48 : decode cX5_dry 48 = .ok (.aload_n 0, 1) := by decide +kernel
theorem dX5_dry_49 : decode cX5_dry 49 = .ok (.getfield 37, 3) := by decide +kernel
theorem dX5_dry_52 : decode cX5_dry 52 = .ok (.getfield 137, 3) := by decide +kernel
theorem dX5_dry_55 : decode cX5_dry 55 = .ok (.bipush (-9), 2) := by decide +kernel
theorem dX5_dry_57 : decode cX5_dry 57 = .ok (.if_icmp .eq 7, 3) := by decide +kernel
theorem dX5_dry_60 : decode cX5_dry 60 = .ok (.ldc2_w 157, 3) := by decide +kernel
theorem dX5_dry_63 : decode cX5_dry 63 = .ok (.lreturn, 1) := by decide +kernel
theorem dX5_dry_64 : decode cX5_dry 64 = .ok (.iload 5, 2) := by decide +kernel
theorem dX5_dry_66 : decode cX5_dry 66 = .ok (.ifCond .ne 13, 3) := by decide +kernel
theorem dX5_dry_69 : decode cX5_dry 69 = .ok (.aload_n 0, 1) := by decide +kernel
theorem dX5_dry_70 : decode cX5_dry 70 = .ok (.getfield 37, 3) := by decide +kernel
theorem dX5_dry_73 : decode cX5_dry 73 = .ok (.getfield 159, 3) := by decide +kernel
theorem dX5_dry_76 : decode cX5_dry 76 = .ok (.goto 10, 3) := by decide +kernel
theorem dX5_dry_79 : decode cX5_dry 79 = .ok (.aload_n 0, 1) := by decide +kernel
theorem dX5_dry_80 : decode cX5_dry 80 = .ok (.getfield 37, 3) := by decide +kernel
theorem dX5_dry_83 : decode cX5_dry 83 = .ok (.getfield 163, 3) := by decide +kernel
theorem dX5_dry_86 : decode cX5_dry 86 = .ok (.lreturn, 1) := by decide +kernel
theorem dX5_takeTrips_0 : decode cX5_takeTrips 0 = .ok (.iload_n 1, 1) := by decide +kernel
theorem dX5_takeTrips_1 : decode cX5_takeTrips 1 = .ok (.invokestatic 57, 3) := by decide +kernel
theorem dX5_takeTrips_4 : decode cX5_takeTrips 4 = .ok (.ifCond .ne 5, 3) := by decide +kernel
theorem dX5_takeTrips_7 : decode cX5_takeTrips 7 = .ok (.iconst (-1), 1) := by decide +kernel
theorem dX5_takeTrips_8 : decode cX5_takeTrips 8 = .ok (.ireturn, 1) := by decide +kernel
theorem dX5_takeTrips_9 : decode cX5_takeTrips 9 = .ok (.iload_n 2, 1) := by decide +kernel
theorem dX5_takeTrips_10 : decode cX5_takeTrips 10 = .ok (.invokestatic 61, 3) := by decide +kernel
theorem dX5_takeTrips_13 : decode cX5_takeTrips 13 = .ok (.ifCond .eq 20, 3) := by decide +kernel
theorem dX5_takeTrips_16 : decode cX5_takeTrips 16 = .ok (.iload 4, 2) := by decide +kernel
theorem dX5_takeTrips_18 : decode cX5_takeTrips 18 = .ok (.ifCond .lt 15, 3) := by decide +kernel
theorem dX5_takeTrips_21 : decode cX5_takeTrips 21 = .ok (.iload 4, 2) := by decide +kernel
theorem dX5_takeTrips_23 : decode cX5_takeTrips 23 = .ok (.bipush 18, 2) := by decide +kernel
theorem dX5_takeTrips_25 : decode cX5_takeTrips 25 = .ok (.if_icmp .gt 8, 3) := by decide +kernel
theorem dX5_takeTrips_28 : decode cX5_takeTrips 28 = .ok (.iload 5, 2) := by decide +kernel
theorem dX5_takeTrips_30 : decode cX5_takeTrips 30 = .ok (.ifCond .ne 6, 3) := by decide +kernel
theorem dX5_takeTrips_33 : decode cX5_takeTrips 33 = .ok (.bipush (-2), 2) := by decide +kernel
theorem dX5_takeTrips_35 : decode cX5_takeTrips 35 = .ok (.ireturn, 1) := by decide +kernel
theorem dX5_takeTrips_36 : decode cX5_takeTrips 36 = .ok (.aload_n 0, 1) := by decide +kernel
theorem dX5_takeTrips_37 : decode cX5_takeTrips 37 = .ok (.getfield 23, 3) := by decide +kernel
theorem dX5_takeTrips_40 : decode cX5_takeTrips 40 = .ok (.iload_n 1, 1) := by decide +kernel
theorem dX5_takeTrips_41 : decode cX5_takeTrips 41 = .ok (.aaload, 1) := by decide +kernel
theorem dX5_takeTrips_42 : decode cX5_takeTrips 42 = .ok (.astore 6, 2) := by decide +kernel
theorem dX5_takeTrips_44 : decode cX5_takeTrips 44 = .ok (.aload 6, 2) := by decide +kernel
theorem dX5_takeTrips_46 : decode cX5_takeTrips 46 = .ok (.iload_n 2, 1) := by decide +kernel
theorem dX5_takeTrips_47 : decode cX5_takeTrips 47 = .ok (.invokevirtual 64, 3) := by decide +kernel
theorem dX5_takeTrips_50 : decode cX5_takeTrips 50 = .ok (.istore 7, 2) := by decide +kernel
theorem dX5_takeTrips_52 : decode cX5_takeTrips 52 = .ok (.iload 7, 2) := by decide +kernel
theorem dX5_takeTrips_54 : decode cX5_takeTrips 54 = .ok (.ifCond .eq 10, 3) := by decide +kernel
theorem dX5_takeTrips_57 : decode cX5_takeTrips 57 = .ok (.aload_n 0, 1) := by decide +kernel
theorem dX5_takeTrips_58 : decode cX5_takeTrips 58 = .ok (.iload 7, 2) := by decide +kernel
theorem dX5_takeTrips_60 : decode cX5_takeTrips 60 = .ok (.invokevirtual 68, 3) := by decide +kernel
theorem dX5_takeTrips_63 : decode cX5_takeTrips 63 = .ok (.ireturn, 1) := by decide +kernel
theorem dX5_takeTrips_64 : decode cX5_takeTrips 64 = .ok (.aload 6, 2) := by decide +kernel
theorem dX5_takeTrips_66 : decode cX5_takeTrips 66 = .ok (.iload_n 3, 1) := by decide +kernel
theorem dX5_takeTrips_67 : decode cX5_takeTrips 67 = .ok (.iconst 2, 1) := by decide +kernel
theorem dX5_takeTrips_68 : decode cX5_takeTrips 68 = .ok (.iload 4, 2) := by decide +kernel
theorem dX5_takeTrips_70 : decode cX5_takeTrips 70 = .ok (.imul, 1) := by decide +kernel
theorem dX5_takeTrips_71 : decode cX5_takeTrips 71 = .ok (.invokevirtual 71, 3) := by decide +kernel
theorem dX5_takeTrips_74 : decode cX5_takeTrips 74 = .ok (.ifCond .ne 9, 3) := by decide +kernel
theorem dX5_takeTrips_77 : decode cX5_takeTrips 77 = .ok (.aload_n 0, 1) := by decide +kernel
theorem dX5_takeTrips_78 : decode cX5_takeTrips 78 = .ok (.iconst 3, 1) := by decide +kernel
theorem dX5_takeTrips_79 : decode cX5_takeTrips 79 = .ok (.invokevirtual 68, 3) := by decide +kernel
theorem dX5_takeTrips_82 : decode cX5_takeTrips 82 = .ok (.ireturn, 1) := by decide +kernel
theorem dX5_takeTrips_83 : decode cX5_takeTrips 83 = .ok (.aload_n 0, 1) := by decide +kernel
theorem dX5_takeTrips_84 : decode cX5_takeTrips 84 = .ok (.getfield 12, 3) := by decide +kernel
theorem dX5_takeTrips_87 : decode cX5_takeTrips 87 = .ok (.invokevirtual 114, 3) := by decide +kernel
theorem dX5_takeTrips_90 : decode cX5_takeTrips 90 = .ok (.ifCond .ne 6, 3) := by decide +kernel
theorem dX5_takeTrips_93 : decode cX5_takeTrips 93 = .ok (.bipush (-3), 2) := by decide +kernel
theorem dX5_takeTrips_95 : decode cX5_takeTrips 95 = .ok (.ireturn, 1) := by decide +kernel
theorem dX5_takeTrips_96 : decode cX5_takeTrips 96 = .ok (.aload_n 0, 1) := by decide +kernel
theorem dX5_takeTrips_97 : decode cX5_takeTrips 97 = .ok (.getfield 37, 3) := by decide +kernel
theorem dX5_takeTrips_100 : decode cX5_takeTrips 100 = .ok (.iconst 0, 1) := by decide +kernel
theorem dX5_takeTrips_101 : decode cX5_takeTrips 101 = .ok (.putfield 166, 3) := by decide +kernel
theorem dX5_takeTrips_104 : decode cX5_takeTrips 104 = .ok (.iconst 0, 1) := by decide +kernel
theorem dX5_takeTrips_105 : decode cX5_takeTrips 105 = .ok (.istore 8, 2) := by decide +kernel
theorem dX5_takeTrips_107 : decode cX5_takeTrips 107 = .ok (.iload 8, 2) := by decide +kernel
theorem dX5_takeTrips_109 : decode cX5_takeTrips 109 = .ok (.iload 4, 2) := by decide +kernel
theorem dX5_takeTrips_111 : decode cX5_takeTrips 111 = .ok (.if_icmp .ge 79, 3) := by decide +kernel
theorem dX5_takeTrips_114 : decode cX5_takeTrips 114 = .ok (.aload 6, 2) := by decide +kernel
theorem dX5_takeTrips_116 : decode cX5_takeTrips 116 = .ok (.getfield 167, 3) := by decide +kernel
theorem dX5_takeTrips_119 : decode cX5_takeTrips 119 = .ok (.iload_n 3, 1) := by decide +kernel
theorem dX5_takeTrips_120 : decode cX5_takeTrips 120 = .ok (.iconst 2, 1) := by decide +kernel
theorem dX5_takeTrips_121 : decode cX5_takeTrips 121 = .ok (.iload 8, 2) := by decide +kernel
theorem dX5_takeTrips_123 : decode cX5_takeTrips 123 = .ok (.imul, 1) := by decide +kernel
theorem dX5_takeTrips_124 : decode cX5_takeTrips 124 = .ok (.iadd, 1) := by decide +kernel
theorem dX5_takeTrips_125 : decode cX5_takeTrips 125 = .ok (.iaload, 1) := by decide +kernel
theorem dX5_takeTrips_126 : decode cX5_takeTrips 126 = .ok (.istore 9, 2) := by decide +kernel
theorem dX5_takeTrips_128 : decode cX5_takeTrips 128 = .ok (.aload 6, 2) := by decide +kernel
theorem dX5_takeTrips_130 : decode cX5_takeTrips 130 = .ok (.getfield 167, 3) := by decide +kernel
theorem dX5_takeTrips_133 : decode cX5_takeTrips 133 = .ok (.iload_n 3, 1) := by decide +kernel
theorem dX5_takeTrips_134 : decode cX5_takeTrips 134 = .ok (.iconst 2, 1) := by decide +kernel
theorem dX5_takeTrips_135 : decode cX5_takeTrips 135 = .ok (.iload 8, 2) := by decide +kernel
theorem dX5_takeTrips_137 : decode cX5_takeTrips 137 = .ok (.imul, 1) := by decide +kernel
theorem dX5_takeTrips_138 : decode cX5_takeTrips 138 = .ok (.iadd, 1) := by decide +kernel
theorem dX5_takeTrips_139 : decode cX5_takeTrips 139 = .ok (.iconst 1, 1) := by decide +kernel
theorem dX5_takeTrips_140 : decode cX5_takeTrips 140 = .ok (.iadd, 1) := by decide +kernel
theorem dX5_takeTrips_141 : decode cX5_takeTrips 141 = .ok (.iaload, 1) := by decide +kernel
theorem dX5_takeTrips_142 : decode cX5_takeTrips 142 = .ok (.istore 10, 2) := by decide +kernel
theorem dX5_takeTrips_144 : decode cX5_takeTrips 144 = .ok (.aload_n 0, 1) := by decide +kernel
theorem dX5_takeTrips_145 : decode cX5_takeTrips 145 = .ok (.getfield 12, 3) := by decide +kernel
theorem dX5_takeTrips_148 : decode cX5_takeTrips 148 = .ok (.iload 9, 2) := by decide +kernel
theorem dX5_takeTrips_150 : decode cX5_takeTrips 150 = .ok (.invokevirtual 147, 3) := by decide +kernel
theorem dX5_takeTrips_153 : decode cX5_takeTrips 153 = .ok (.ifCond .ne 5, 3) := by decide +kernel
theorem dX5_takeTrips_156 : decode cX5_takeTrips 156 = .ok (.iconst (-1), 1) := by decide +kernel
theorem dX5_takeTrips_157 : decode cX5_takeTrips 157 = .ok (.ireturn, 1) := by decide +kernel
theorem dX5_takeTrips_158 : decode cX5_takeTrips 158 = .ok (.aload_n 0, 1) := by decide +kernel
theorem dX5_takeTrips_159 : decode cX5_takeTrips 159 = .ok (.getfield 12, 3) := by decide +kernel
theorem dX5_takeTrips_162 : decode cX5_takeTrips 162 = .ok (.iload 10, 2) := by decide +kernel
theorem dX5_takeTrips_164 : decode cX5_takeTrips 164 = .ok (.invokevirtual 124, 3) := by decide +kernel
theorem dX5_takeTrips_167 : decode cX5_takeTrips 167 = .ok (.ifCond .ne 6, 3) := by decide +kernel
theorem dX5_takeTrips_170 : decode cX5_takeTrips 170 = .ok (.bipush (-2), 2) := by decide +kernel
theorem dX5_takeTrips_172 : decode cX5_takeTrips 172 = .ok (.ireturn, 1) := by decide +kernel
theorem dX5_takeTrips_173 : decode cX5_takeTrips 173 = .ok (.aload_n 0, 1) := by decide +kernel
theorem dX5_takeTrips_174 : decode cX5_takeTrips 174 = .ok (.getfield 37, 3) := by decide +kernel
theorem dX5_takeTrips_177 : decode cX5_takeTrips 177 = .ok (.iload 9, 2) := by decide +kernel
theorem dX5_takeTrips_179 : decode cX5_takeTrips 179 = .ok (.iload 10, 2) := by decide +kernel
theorem dX5_takeTrips_181 : decode cX5_takeTrips 181 = .ok (.invokevirtual 170, 3) := by decide +kernel
theorem dX5_takeTrips_184 : decode cX5_takeTrips 184 = .ok (.iinc 8 1, 3) := by decide +kernel
theorem dX5_takeTrips_187 : decode cX5_takeTrips 187 = .ok (.goto (-80), 3) := by decide +kernel
theorem dX5_takeTrips_190 : decode cX5_takeTrips 190 = .ok (.iconst 0, 1) := by decide +kernel
theorem dX5_takeTrips_191 : decode cX5_takeTrips 191 = .ok (.ireturn, 1) := by decide +kernel
theorem dX5_soonest_0 : decode cX5_soonest 0 = .ok (.aload_n 0, 1) := by decide +kernel
theorem dX5_soonest_1 : decode cX5_soonest 1 = .ok (.getfield 12, 3) := by decide +kernel
theorem dX5_soonest_4 : decode cX5_soonest 4 = .ok (.invokevirtual 114, 3) := by decide +kernel
theorem dX5_soonest_7 : decode cX5_soonest 7 = .ok (.ifCond .ne 6, 3) := by decide +kernel
theorem dX5_soonest_10 : decode cX5_soonest 10 = .ok (.bipush (-3), 2) := by decide +kernel
theorem dX5_soonest_12 : decode cX5_soonest 12 = .ok (.ireturn, 1) := by decide +kernel
theorem dX5_soonest_13 : decode cX5_soonest 13 = .ok (.aload_n 0, 1) := by decide +kernel
theorem dX5_soonest_14 : decode cX5_soonest 14 = .ok (.invokevirtual 174, 3) := by decide +kernel
theorem dX5_soonest_17 : decode cX5_soonest 17 = .ok (.aload_n 0, 1) := by decide +kernel
theorem dX5_soonest_18 : decode cX5_soonest 18 = .ok (.getfield 177, 3) := by decide +kernel
theorem dX5_soonest_21 : decode cX5_soonest 21 = .ok (.ireturn, 1) := by decide +kernel
theorem dX5_trip_0 : decode cX5_trip 0 = .ok (.iload_n 1, 1) := by decide +kernel
theorem dX5_trip_1 : decode cX5_trip 1 = .ok (.ifCond .ge 5, 3) := by decide +kernel
theorem dX5_trip_4 : decode cX5_trip 4 = .ok (.iconst (-1), 1) := by decide +kernel
theorem dX5_trip_5 : decode cX5_trip 5 = .ok (.ireturn, 1) := by decide +kernel
theorem dX5_trip_6 : decode cX5_trip 6 = .ok (.iload_n 2, 1) := by decide +kernel
theorem dX5_trip_7 : decode cX5_trip 7 = .ok (.ifCond .lt 8, 3) := by decide +kernel
theorem dX5_trip_10 : decode cX5_trip 10 = .ok (.iload_n 2, 1) := by decide +kernel
theorem dX5_trip_11 : decode cX5_trip 11 = .ok (.iconst 1, 1) := by decide +kernel
theorem dX5_trip_12 : decode cX5_trip 12 = .ok (.if_icmp .le 6, 3) := by decide +kernel
theorem dX5_trip_15 : decode cX5_trip 15 = .ok (.bipush (-2), 2) := by decide +kernel
theorem dX5_trip_17 : decode cX5_trip 17 = .ok (.ireturn, 1) := by decide +kernel
theorem dX5_trip_18 : decode cX5_trip 18 = .ok (.aload_n 0, 1) := by decide +kernel
theorem dX5_trip_19 : decode cX5_trip 19 = .ok (.getfield 12, 3) := by decide +kernel
theorem dX5_trip_22 : decode cX5_trip 22 = .ok (.invokevirtual 114, 3) := by decide +kernel
theorem dX5_trip_25 : decode cX5_trip 25 = .ok (.ifCond .ne 6, 3) := by decide +kernel
theorem dX5_trip_28 : decode cX5_trip 28 = .ok (.bipush (-3), 2) := by decide +kernel
theorem dX5_trip_30 : decode cX5_trip 30 = .ok (.ireturn, 1) := by decide +kernel
theorem dX5_trip_31 : decode cX5_trip 31 = .ok (.aload_n 0, 1) := by decide +kernel
theorem dX5_trip_32 : decode cX5_trip 32 = .ok (.invokevirtual 174, 3) := by decide +kernel
theorem dX5_trip_35 : decode cX5_trip 35 = .ok (.iload_n 1, 1) := by decide +kernel
theorem dX5_trip_36 : decode cX5_trip 36 = .ok (.aload_n 0, 1) := by decide +kernel
theorem dX5_trip_37 : decode cX5_trip 37 = .ok (.getfield 180, 3) := by decide +kernel
theorem dX5_trip_40 : decode cX5_trip 40 = .ok (.if_icmp .lt 6, 3) := by decide +kernel
theorem dX5_trip_43 : decode cX5_trip 43 = .ok (.bipush (-9), 2) := by decide +kernel
theorem dX5_trip_45 : decode cX5_trip 45 = .ok (.ireturn, 1) := by decide +kernel
theorem dX5_trip_46 : decode cX5_trip 46 = .ok (.iload_n 2, 1) := by decide +kernel
theorem dX5_trip_47 : decode cX5_trip 47 = .ok (.ifCond .ne 15, 3) := by decide +kernel
theorem dX5_trip_50 : decode cX5_trip 50 = .ok (.aload_n 0, 1) := by decide +kernel
theorem dX5_trip_51 : decode cX5_trip 51 = .ok (.getfield 48, 3) := by decide +kernel
theorem dX5_trip_54 : decode cX5_trip 54 = .ok (.iload_n 1, 1) := by decide +kernel
theorem dX5_trip_55 : decode cX5_trip 55 = .ok (.iaload, 1) := by decide +kernel
theorem dX5_trip_56 : decode cX5_trip 56 = .ok (.bipush 16, 2) := by decide +kernel
theorem dX5_trip_58 : decode cX5_trip 58 = .ok (.idiv, 1) := by decide +kernel
theorem dX5_trip_59 : decode cX5_trip 59 = .ok (.goto 12, 3) := by decide +kernel
theorem dX5_trip_62 : decode cX5_trip 62 = .ok (.aload_n 0, 1) := by decide +kernel
theorem dX5_trip_63 : decode cX5_trip 63 = .ok (.getfield 48, 3) := by decide +kernel
theorem dX5_trip_66 : decode cX5_trip 66 = .ok (.iload_n 1, 1) := by decide +kernel
theorem dX5_trip_67 : decode cX5_trip 67 = .ok (.iaload, 1) := by decide +kernel
theorem dX5_trip_68 : decode cX5_trip 68 = .ok (.bipush 16, 2) := by decide +kernel
theorem dX5_trip_70 : decode cX5_trip 70 = .ok (.irem, 1) := by decide +kernel
theorem dX5_trip_71 : decode cX5_trip 71 = .ok (.ireturn, 1) := by decide +kernel
theorem dX5_fewest_0 : decode cX5_fewest 0 = .ok (.aload_n 0, 1) := by decide +kernel
theorem dX5_fewest_1 : decode cX5_fewest 1 = .ok (.getfield 12, 3) := by decide +kernel
theorem dX5_fewest_4 : decode cX5_fewest 4 = .ok (.invokevirtual 114, 3) := by decide +kernel
theorem dX5_fewest_7 : decode cX5_fewest 7 = .ok (.ifCond .ne 6, 3) := by decide +kernel
theorem dX5_fewest_10 : decode cX5_fewest 10 = .ok (.bipush (-3), 2) := by decide +kernel
theorem dX5_fewest_12 : decode cX5_fewest 12 = .ok (.ireturn, 1) := by decide +kernel
theorem dX5_fewest_13 : decode cX5_fewest 13 = .ok (.aload_n 0, 1) := by decide +kernel
theorem dX5_fewest_14 : decode cX5_fewest 14 = .ok (.getfield 183, 3) := by decide +kernel
theorem dX5_fewest_17 : decode cX5_fewest 17 = .ok (.ifCond .ne 24, 3) := by decide +kernel
theorem dX5_fewest_20 : decode cX5_fewest 20 = .ok (.aload_n 0, 1) := by decide +kernel
theorem dX5_fewest_21 : decode cX5_fewest 21 = .ok (.aload_n 0, 1) := by decide +kernel
theorem dX5_fewest_22 : decode cX5_fewest 22 = .ok (.getfield 44, 3) := by decide +kernel
theorem dX5_fewest_25 : decode cX5_fewest 25 = .ok (.aload_n 0, 1) := by decide +kernel
theorem dX5_fewest_26 : decode cX5_fewest 26 = .ok (.getfield 12, 3) := by decide +kernel
theorem dX5_fewest_29 : decode cX5_fewest 29 = .ok (.iconst 1, 1) := by decide +kernel
theorem dX5_fewest_30 : decode cX5_fewest 30 = .ok (.invokevirtual 187, 3) := by decide +kernel
theorem dX5_fewest_33 : decode cX5_fewest 33 = .ok (.putfield 191, 3) := by decide +kernel
theorem dX5_fewest_36 : decode cX5_fewest 36 = .ok (.aload_n 0, 1) := by decide +kernel
theorem dX5_fewest_37 : decode cX5_fewest 37 = .ok (.iconst 1, 1) := by decide +kernel
theorem dX5_fewest_38 : decode cX5_fewest 38 = .ok (.putfield 183, 3) := by decide +kernel
theorem dX5_fewest_41 : decode cX5_fewest 41 = .ok (.aload_n 0, 1) := by decide +kernel
theorem dX5_fewest_42 : decode cX5_fewest 42 = .ok (.getfield 191, 3) := by decide +kernel
theorem dX5_fewest_45 : decode cX5_fewest 45 = .ok (.ireturn, 1) := by decide +kernel
theorem dX5_cost_0 : decode cX5_cost 0 = .ok (.aload_n 0, 1) := by decide +kernel
theorem dX5_cost_1 : decode cX5_cost 1 = .ok (.getfield 12, 3) := by decide +kernel
theorem dX5_cost_4 : decode cX5_cost 4 = .ok (.iload_n 1, 1) := by decide +kernel
theorem dX5_cost_5 : decode cX5_cost 5 = .ok (.invokevirtual 105, 3) := by decide +kernel
theorem dX5_cost_8 : decode cX5_cost 8 = .ok (.ifCond .ne 5, 3) := by decide +kernel
theorem dX5_cost_11 : decode cX5_cost 11 = .ok (.iconst (-1), 1) := by decide +kernel
theorem dX5_cost_12 : decode cX5_cost 12 = .ok (.ireturn, 1) := by decide +kernel
theorem dX5_cost_13 : decode cX5_cost 13 = .ok (.aload_n 0, 1) := by decide +kernel
theorem dX5_cost_14 : decode cX5_cost 14 = .ok (.getfield 12, 3) := by decide +kernel
theorem dX5_cost_17 : decode cX5_cost 17 = .ok (.getfield 89, 3) := by decide +kernel
theorem dX5_cost_20 : decode cX5_cost 20 = .ok (.iconst 1, 1) := by decide +kernel
theorem dX5_cost_21 : decode cX5_cost 21 = .ok (.if_icmp .ne 6, 3) := by decide +kernel
theorem dX5_cost_24 : decode cX5_cost 24 = .ok (.bipush (-9), 2) := by decide +kernel
theorem dX5_cost_26 : decode cX5_cost 26 = .ok (.ireturn, 1) := by decide +kernel
theorem dX5_cost_27 : decode cX5_cost 27 = .ok (.aload_n 0, 1) := by decide +kernel
theorem dX5_cost_28 : decode cX5_cost 28 = .ok (.invokevirtual 174, 3) := by decide +kernel
theorem dX5_cost_31 : decode cX5_cost 31 = .ok (.aload_n 0, 1) := by decide +kernel
theorem dX5_cost_32 : decode cX5_cost 32 = .ok (.getfield 177, 3) := by decide +kernel
theorem dX5_cost_35 : decode cX5_cost 35 = .ok (.bipush (-9), 2) := by decide +kernel
theorem dX5_cost_37 : decode cX5_cost 37 = .ok (.if_icmp .ne 6, 3) := by decide +kernel
theorem dX5_cost_40 : decode cX5_cost 40 = .ok (.bipush (-9), 2) := by decide +kernel
theorem dX5_cost_42 : decode cX5_cost 42 = .ok (.ireturn, 1) := by decide +kernel
theorem dX5_cost_43 : decode cX5_cost 43 = .ok (.aload_n 0, 1) := by decide +kernel
theorem dX5_cost_44 : decode cX5_cost 44 = .ok (.getfield 18, 3) := by decide +kernel
theorem dX5_cost_47 : decode cX5_cost 47 = .ok (.aload_n 0, 1) := by decide +kernel
theorem dX5_cost_48 : decode cX5_cost 48 = .ok (.getfield 12, 3) := by decide +kernel
theorem dX5_cost_51 : decode cX5_cost 51 = .ok (.invokevirtual 79, 3) := by decide +kernel
theorem dX5_cost_54 : decode cX5_cost 54 = .ok (.aload_n 0, 1) := by decide +kernel
theorem dX5_cost_55 : decode cX5_cost 55 = .ok (.getfield 18, 3) := by decide +kernel
theorem dX5_cost_58 : decode cX5_cost 58 = .ok (.iload_n 1, 1) := by decide +kernel
theorem dX5_cost_59 : decode cX5_cost 59 = .ok (.invokevirtual 194, 3) := by decide +kernel
theorem dX5_cost_62 : decode cX5_cost 62 = .ok (.aload_n 0, 1) := by decide +kernel
theorem dX5_cost_63 : decode cX5_cost 63 = .ok (.getfield 44, 3) := by decide +kernel
theorem dX5_cost_66 : decode cX5_cost 66 = .ok (.aload_n 0, 1) := by decide +kernel
theorem dX5_cost_67 : decode cX5_cost 67 = .ok (.getfield 18, 3) := by decide +kernel
theorem dX5_cost_70 : decode cX5_cost 70 = .ok (.iconst 0, 1) := by decide +kernel
theorem dX5_cost_71 : decode cX5_cost 71 = .ok (.invokevirtual 187, 3) := by decide +kernel
theorem dX5_cost_74 : decode cX5_cost 74 = .ok (.istore_n 2, 1) := by decide +kernel
theorem dX5_cost_75 : decode cX5_cost 75 = .ok (.iload_n 2, 1) := by decide +kernel
theorem dX5_cost_76 : decode cX5_cost 76 = .ok (.bipush (-9), 2) := by decide +kernel
theorem dX5_cost_78 : decode cX5_cost 78 = .ok (.if_icmp .ne 8, 3) := by decide +kernel
theorem dX5_cost_81 : decode cX5_cost 81 = .ok (.bipush (-9), 2) := by decide +kernel
theorem dX5_cost_83 : decode cX5_cost 83 = .ok (.goto 13, 3) := by decide +kernel
theorem dX5_cost_86 : decode cX5_cost 86 = .ok (.aload_n 0, 1) := by decide +kernel
theorem dX5_cost_87 : decode cX5_cost 87 = .ok (.getfield 177, 3) := by decide +kernel
theorem dX5_cost_90 : decode cX5_cost 90 = .ok (.iload_n 2, 1) := by decide +kernel
theorem dX5_cost_91 : decode cX5_cost 91 = .ok (.isub, 1) := by decide +kernel
theorem dX5_cost_92 : decode cX5_cost 92 = .ok (.sipush 1000, 3) := by decide +kernel
theorem dX5_cost_95 : decode cX5_cost 95 = .ok (.iadd, 1) := by decide +kernel
theorem dX5_cost_96 : decode cX5_cost 96 = .ok (.ireturn, 1) := by decide +kernel
theorem dX5_help_0 : decode cX5_help 0 = .ok (.iload_n 1, 1) := by decide +kernel
theorem dX5_help_1 : decode cX5_help 1 = .ok (.ifCond .lt 9, 3) := by decide +kernel
theorem dX5_help_4 : decode cX5_help 4 = .ok (.iload_n 1, 1) := by decide +kernel
theorem dX5_help_5 : decode cX5_help 5 = .ok (.bipush 36, 2) := by decide +kernel
theorem dX5_help_7 : decode cX5_help 7 = .ok (.if_icmp .le 6, 3) := by decide +kernel
theorem dX5_help_10 : decode cX5_help 10 = .ok (.bipush (-2), 2) := by decide +kernel
theorem dX5_help_12 : decode cX5_help 12 = .ok (.ireturn, 1) := by decide +kernel
theorem dX5_help_13 : decode cX5_help 13 = .ok (.aload_n 0, 1) := by decide +kernel
theorem dX5_help_14 : decode cX5_help 14 = .ok (.getfield 12, 3) := by decide +kernel
theorem dX5_help_17 : decode cX5_help 17 = .ok (.invokevirtual 114, 3) := by decide +kernel
theorem dX5_help_20 : decode cX5_help 20 = .ok (.ifCond .ne 6, 3) := by decide +kernel
theorem dX5_help_23 : decode cX5_help 23 = .ok (.bipush (-3), 2) := by decide +kernel
theorem dX5_help_25 : decode cX5_help 25 = .ok (.ireturn, 1) := by decide +kernel
theorem dX5_help_26 : decode cX5_help 26 = .ok (.aload_n 0, 1) := by decide +kernel
theorem dX5_help_27 : decode cX5_help 27 = .ok (.invokevirtual 174, 3) := by decide +kernel
theorem dX5_help_30 : decode cX5_help 30 = .ok (.aload_n 0, 1) := by decide +kernel
theorem dX5_help_31 : decode cX5_help 31 = .ok (.getfield 177, 3) := by decide +kernel
theorem dX5_help_34 : decode cX5_help 34 = .ok (.bipush (-9), 2) := by decide +kernel
theorem dX5_help_36 : decode cX5_help 36 = .ok (.if_icmp .ne 6, 3) := by decide +kernel
theorem dX5_help_39 : decode cX5_help 39 = .ok (.bipush (-9), 2) := by decide +kernel
theorem dX5_help_41 : decode cX5_help 41 = .ok (.ireturn, 1) := by decide +kernel
theorem dX5_help_42 : decode cX5_help 42 = .ok (.aload_n 0, 1) := by decide +kernel
theorem dX5_help_43 : decode cX5_help 43 = .ok (.getfield 18, 3) := by decide +kernel
theorem dX5_help_46 : decode cX5_help 46 = .ok (.aload_n 0, 1) := by decide +kernel
theorem dX5_help_47 : decode cX5_help 47 = .ok (.getfield 12, 3) := by decide +kernel
theorem dX5_help_50 : decode cX5_help 50 = .ok (.invokevirtual 79, 3) := by decide +kernel
theorem dX5_help_53 : decode cX5_help 53 = .ok (.aload_n 0, 1) := by decide +kernel
theorem dX5_help_54 : decode cX5_help 54 = .ok (.getfield 18, 3) := by decide +kernel
theorem dX5_help_57 : decode cX5_help 57 = .ok (.dup, 1) := by decide +kernel
theorem dX5_help_58 : decode cX5_help 58 = .ok (.getfield 118, 3) := by decide +kernel
theorem dX5_help_61 : decode cX5_help 61 = .ok (.iload_n 1, 1) := by decide +kernel
theorem dX5_help_62 : decode cX5_help 62 = .ok (.iadd, 1) := by decide +kernel
theorem dX5_help_63 : decode cX5_help 63 = .ok (.putfield 118, 3) := by decide +kernel
theorem dX5_help_66 : decode cX5_help 66 = .ok (.aload_n 0, 1) := by decide +kernel
theorem dX5_help_67 : decode cX5_help 67 = .ok (.getfield 44, 3) := by decide +kernel
theorem dX5_help_70 : decode cX5_help 70 = .ok (.aload_n 0, 1) := by decide +kernel
theorem dX5_help_71 : decode cX5_help 71 = .ok (.getfield 18, 3) := by decide +kernel
theorem dX5_help_74 : decode cX5_help 74 = .ok (.iconst 0, 1) := by decide +kernel
theorem dX5_help_75 : decode cX5_help 75 = .ok (.invokevirtual 187, 3) := by decide +kernel
theorem dX5_help_78 : decode cX5_help 78 = .ok (.istore_n 2, 1) := by decide +kernel
theorem dX5_help_79 : decode cX5_help 79 = .ok (.iload_n 2, 1) := by decide +kernel
theorem dX5_help_80 : decode cX5_help 80 = .ok (.bipush (-9), 2) := by decide +kernel
theorem dX5_help_82 : decode cX5_help 82 = .ok (.if_icmp .ne 8, 3) := by decide +kernel
theorem dX5_help_85 : decode cX5_help 85 = .ok (.bipush (-9), 2) := by decide +kernel
theorem dX5_help_87 : decode cX5_help 87 = .ok (.goto 9, 3) := by decide +kernel
theorem dX5_help_90 : decode cX5_help 90 = .ok (.aload_n 0, 1) := by decide +kernel
theorem dX5_help_91 : decode cX5_help 91 = .ok (.getfield 177, 3) := by decide +kernel
theorem dX5_help_94 : decode cX5_help 94 = .ok (.iload_n 2, 1) := by decide +kernel
theorem dX5_help_95 : decode cX5_help 95 = .ok (.isub, 1) := by decide +kernel
theorem dX5_help_96 : decode cX5_help 96 = .ok (.ireturn, 1) := by decide +kernel
theorem dX5_makePlan_0 : decode cX5_makePlan 0 = .ok (.aload_n 0, 1) := by decide +kernel
theorem dX5_makePlan_1 : decode cX5_makePlan 1 = .ok (.getfield 198, 3) := by decide +kernel
theorem dX5_makePlan_4 : decode cX5_makePlan 4 = .ok (.ifCond .eq 4, 3) := by decide +kernel
theorem dX5_makePlan_7 : decode cX5_makePlan 7 = .ok (.return_, 1) := by decide +kernel
theorem dX5_makePlan_8 : decode cX5_makePlan 8 = .ok (.aload_n 0, 1) := by decide +kernel
theorem dX5_makePlan_9 : decode cX5_makePlan 9 = .ok (.aload_n 0, 1) := by decide +kernel
theorem dX5_makePlan_10 : decode cX5_makePlan 10 = .ok (.getfield 44, 3) := by decide +kernel
theorem dX5_makePlan_13 : decode cX5_makePlan 13 = .ok (.aload_n 0, 1) := by decide +kernel
theorem dX5_makePlan_14 : decode cX5_makePlan 14 = .ok (.getfield 12, 3) := by decide +kernel
theorem dX5_makePlan_17 : decode cX5_makePlan 17 = .ok (.iconst 0, 1) := by decide +kernel
theorem dX5_makePlan_18 : decode cX5_makePlan 18 = .ok (.invokevirtual 187, 3) := by decide +kernel
theorem dX5_makePlan_21 : decode cX5_makePlan 21 = .ok (.putfield 177, 3) := by decide +kernel
theorem dX5_makePlan_24 : decode cX5_makePlan 24 = .ok (.aload_n 0, 1) := by decide +kernel
theorem dX5_makePlan_25 : decode cX5_makePlan 25 = .ok (.aload_n 0, 1) := by decide +kernel
theorem dX5_makePlan_26 : decode cX5_makePlan 26 = .ok (.getfield 177, 3) := by decide +kernel
theorem dX5_makePlan_29 : decode cX5_makePlan 29 = .ok (.bipush (-9), 2) := by decide +kernel
theorem dX5_makePlan_31 : decode cX5_makePlan 31 = .ok (.if_icmp .ne 7, 3) := by decide +kernel
theorem dX5_makePlan_34 : decode cX5_makePlan 34 = .ok (.iconst 0, 1) := by decide +kernel
theorem dX5_makePlan_35 : decode cX5_makePlan 35 = .ok (.goto 14, 3) := by decide +kernel
theorem dX5_makePlan_38 : decode cX5_makePlan 38 = .ok (.aload_n 0, 1) := by decide +kernel
theorem dX5_makePlan_39 : decode cX5_makePlan 39 = .ok (.getfield 44, 3) := by decide +kernel
theorem dX5_makePlan_42 : decode cX5_makePlan 42 = .ok (.aload_n 0, 1) := by decide +kernel
theorem dX5_makePlan_43 : decode cX5_makePlan 43 = .ok (.getfield 48, 3) := by decide +kernel
theorem dX5_makePlan_46 : decode cX5_makePlan 46 = .ok (.invokevirtual 201, 3) := by decide +kernel
theorem dX5_makePlan_49 : decode cX5_makePlan 49 = .ok (.putfield 180, 3) := by decide +kernel
theorem dX5_makePlan_52 : decode cX5_makePlan 52 = .ok (.aload_n 0, 1) := by decide +kernel
theorem dX5_makePlan_53 : decode cX5_makePlan 53 = .ok (.iconst 1, 1) := by decide +kernel
theorem dX5_makePlan_54 : decode cX5_makePlan 54 = .ok (.putfield 198, 3) := by decide +kernel
theorem dX5_makePlan_57 : decode cX5_makePlan 57 = .ok (.return_, 1) := by decide +kernel
theorem dX5_forgetSearches_0 : decode cX5_forgetSearches 0 = .ok (.aload_n 0, 1) := by decide +kernel
theorem dX5_forgetSearches_1 : decode cX5_forgetSearches 1 = .ok (.iconst 0, 1) := by decide +kernel
theorem dX5_forgetSearches_2 : decode cX5_forgetSearches 2 = .ok (.putfield 198, 3) := by decide +kernel
theorem dX5_forgetSearches_5 : decode cX5_forgetSearches 5 = .ok (.aload_n 0, 1) := by decide +kernel
theorem dX5_forgetSearches_6 : decode cX5_forgetSearches 6 = .ok (.iconst 0, 1) := by decide +kernel
theorem dX5_forgetSearches_7 : decode cX5_forgetSearches 7 = .ok (.putfield 183, 3) := by decide +kernel
theorem dX5_forgetSearches_10 : decode cX5_forgetSearches 10 = .ok (.return_, 1) := by decide +kernel
theorem dX5_reading_0 : decode cX5_reading 0 = .ok (.aload_n 0, 1) := by decide +kernel
theorem dX5_reading_1 : decode cX5_reading 1 = .ok (.getfield 12, 3) := by decide +kernel
theorem dX5_reading_4 : decode cX5_reading 4 = .ok (.iload_n 1, 1) := by decide +kernel
theorem dX5_reading_5 : decode cX5_reading 5 = .ok (.invokevirtual 105, 3) := by decide +kernel
theorem dX5_reading_8 : decode cX5_reading 8 = .ok (.ifCond .eq 14, 3) := by decide +kernel
theorem dX5_reading_11 : decode cX5_reading 11 = .ok (.aload_n 0, 1) := by decide +kernel
theorem dX5_reading_12 : decode cX5_reading 12 = .ok (.getfield 12, 3) := by decide +kernel
theorem dX5_reading_15 : decode cX5_reading 15 = .ok (.iload_n 2, 1) := by decide +kernel
theorem dX5_reading_16 : decode cX5_reading 16 = .ok (.invokevirtual 147, 3) := by decide +kernel
theorem dX5_reading_19 : decode cX5_reading 19 = .ok (.ifCond .ne 5, 3) := by decide +kernel
theorem dX5_reading_22 : decode cX5_reading 22 = .ok (.iconst (-1), 1) := by decide +kernel
theorem dX5_reading_23 : decode cX5_reading 23 = .ok (.ireturn, 1) := by decide +kernel
theorem dX5_reading_24 : decode cX5_reading 24 = .ok (.iload_n 3, 1) := by decide +kernel
theorem dX5_reading_25 : decode cX5_reading 25 = .ok (.ifCond .lt 9, 3) := by decide +kernel
theorem dX5_reading_28 : decode cX5_reading 28 = .ok (.iload_n 3, 1) := by decide +kernel
theorem dX5_reading_29 : decode cX5_reading 29 = .ok (.bipush 99, 2) := by decide +kernel
theorem dX5_reading_31 : decode cX5_reading 31 = .ok (.if_icmp .le 6, 3) := by decide +kernel
theorem dX5_reading_34 : decode cX5_reading 34 = .ok (.bipush (-2), 2) := by decide +kernel
theorem dX5_reading_36 : decode cX5_reading 36 = .ok (.ireturn, 1) := by decide +kernel
theorem dX5_reading_37 : decode cX5_reading 37 = .ok (.aload_n 0, 1) := by decide +kernel
theorem dX5_reading_38 : decode cX5_reading 38 = .ok (.getfield 30, 3) := by decide +kernel
theorem dX5_reading_41 : decode cX5_reading 41 = .ok (.iload_n 1, 1) := by decide +kernel
theorem dX5_reading_42 : decode cX5_reading 42 = .ok (.iload_n 2, 1) := by decide +kernel
theorem dX5_reading_43 : decode cX5_reading 43 = .ok (.iload_n 3, 1) := by decide +kernel
theorem dX5_reading_44 : decode cX5_reading 44 = .ok (.invokevirtual 205, 3) := by decide +kernel
theorem dX5_reading_47 : decode cX5_reading 47 = .ok (.ireturn, 1) := by decide +kernel
theorem dX5_back_0 : decode cX5_back 0 = .ok (.iload_n 1, 1) := by decide +kernel
theorem dX5_back_1 : decode cX5_back 1 = .ok (.ifCond .lt 14, 3) := by decide +kernel
theorem dX5_back_4 : decode cX5_back 4 = .ok (.iload_n 1, 1) := by decide +kernel
theorem dX5_back_5 : decode cX5_back 5 = .ok (.aload_n 0, 1) := by decide +kernel
theorem dX5_back_6 : decode cX5_back 6 = .ok (.getfield 30, 3) := by decide +kernel
theorem dX5_back_9 : decode cX5_back 9 = .ok (.getfield 83, 3) := by decide +kernel
theorem dX5_back_12 : decode cX5_back 12 = .ok (.if_icmp .le 6, 3) := by decide +kernel
theorem dX5_back_15 : decode cX5_back 15 = .ok (.bipush (-2), 2) := by decide +kernel
theorem dX5_back_17 : decode cX5_back 17 = .ok (.ireturn, 1) := by decide +kernel
theorem dX5_back_18 : decode cX5_back 18 = .ok (.aload_n 0, 1) := by decide +kernel
theorem dX5_back_19 : decode cX5_back 19 = .ok (.getfield 30, 3) := by decide +kernel
theorem dX5_back_22 : decode cX5_back 22 = .ok (.dup, 1) := by decide +kernel
theorem dX5_back_23 : decode cX5_back 23 = .ok (.getfield 83, 3) := by decide +kernel
theorem dX5_back_26 : decode cX5_back 26 = .ok (.iload_n 1, 1) := by decide +kernel
theorem dX5_back_27 : decode cX5_back 27 = .ok (.isub, 1) := by decide +kernel
theorem dX5_back_28 : decode cX5_back 28 = .ok (.putfield 83, 3) := by decide +kernel
theorem dX5_back_31 : decode cX5_back 31 = .ok (.aload_n 0, 1) := by decide +kernel
theorem dX5_back_32 : decode cX5_back 32 = .ok (.getfield 30, 3) := by decide +kernel
theorem dX5_back_35 : decode cX5_back 35 = .ok (.getfield 83, 3) := by decide +kernel
theorem dX5_back_38 : decode cX5_back 38 = .ok (.ireturn, 1) := by decide +kernel
theorem dX5_since_0 : decode cX5_since 0 = .ok (.aload_n 0, 1) := by decide +kernel
theorem dX5_since_1 : decode cX5_since 1 = .ok (.iconst 0, 1) := by decide +kernel
theorem dX5_since_2 : decode cX5_since 2 = .ok (.putfield 53, 3) := by decide +kernel
theorem dX5_since_5 : decode cX5_since 5 = .ok (.aload_n 0, 1) := by decide +kernel
theorem dX5_since_6 : decode cX5_since 6 = .ok (.iload_n 1, 1) := by decide +kernel
theorem dX5_since_7 : decode cX5_since 7 = .ok (.iload_n 2, 1) := by decide +kernel
theorem dX5_since_8 : decode cX5_since 8 = .ok (.iload_n 3, 1) := by decide +kernel
theorem dX5_since_9 : decode cX5_since 9 = .ok (.iload 4, 2) := by decide +kernel
theorem dX5_since_11 : decode cX5_since 11 = .ok (.iconst 1, 1) := by decide +kernel
theorem dX5_since_12 : decode cX5_since 12 = .ok (.invokevirtual 130, 3) := by decide +kernel
theorem dX5_since_15 : decode cX5_since 15 = .ok (.istore 5, 2) := by decide +kernel
theorem dX5_since_17 : decode cX5_since 17 = .ok (.iload 5, 2) := by decide +kernel
theorem dX5_since_19 : decode cX5_since 19 = .ok (.ifCond .eq 6, 3) := by decide +kernel
theorem dX5_since_22 : decode cX5_since 22 = .ok (.iload 5, 2) := by decide +kernel
theorem dX5_since_24 : decode cX5_since 24 = .ok (.ireturn, 1) := by decide +kernel
theorem dX5_since_25 : decode cX5_since 25 = .ok (.aload_n 0, 1) := by decide +kernel
theorem dX5_since_26 : decode cX5_since 26 = .ok (.getfield 18, 3) := by decide +kernel
theorem dX5_since_29 : decode cX5_since 29 = .ok (.aload_n 0, 1) := by decide +kernel
theorem dX5_since_30 : decode cX5_since 30 = .ok (.getfield 12, 3) := by decide +kernel
theorem dX5_since_33 : decode cX5_since 33 = .ok (.invokevirtual 79, 3) := by decide +kernel
theorem dX5_since_36 : decode cX5_since 36 = .ok (.iconst 0, 1) := by decide +kernel
theorem dX5_since_37 : decode cX5_since 37 = .ok (.istore 6, 2) := by decide +kernel
theorem dX5_since_39 : decode cX5_since 39 = .ok (.iconst 0, 1) := by decide +kernel
theorem dX5_since_40 : decode cX5_since 40 = .ok (.istore 7, 2) := by decide +kernel
theorem dX5_since_42 : decode cX5_since 42 = .ok (.iload 7, 2) := by decide +kernel
theorem dX5_since_44 : decode cX5_since 44 = .ok (.bipush 30, 2) := by decide +kernel
theorem dX5_since_46 : decode cX5_since 46 = .ok (.if_icmp .gt 34, 3) := by decide +kernel
theorem dX5_since_49 : decode cX5_since 49 = .ok (.aload_n 0, 1) := by decide +kernel
theorem dX5_since_50 : decode cX5_since 50 = .ok (.getfield 18, 3) := by decide +kernel
theorem dX5_since_53 : decode cX5_since 53 = .ok (.iload 7, 2) := by decide +kernel
theorem dX5_since_55 : decode cX5_since 55 = .ok (.putfield 121, 3) := by decide +kernel
theorem dX5_since_58 : decode cX5_since 58 = .ok (.aload_n 0, 1) := by decide +kernel
theorem dX5_since_59 : decode cX5_since 59 = .ok (.invokevirtual 208, 3) := by decide +kernel
theorem dX5_since_62 : decode cX5_since 62 = .ok (.ifCond .eq 12, 3) := by decide +kernel
theorem dX5_since_65 : decode cX5_since 65 = .ok (.iload 6, 2) := by decide +kernel
theorem dX5_since_67 : decode cX5_since 67 = .ok (.iconst 1, 1) := by decide +kernel
theorem dX5_since_68 : decode cX5_since 68 = .ok (.iload 7, 2) := by decide +kernel
theorem dX5_since_70 : decode cX5_since 70 = .ok (.ishl, 1) := by decide +kernel
theorem dX5_since_71 : decode cX5_since 71 = .ok (.ior, 1) := by decide +kernel
theorem dX5_since_72 : decode cX5_since 72 = .ok (.istore 6, 2) := by decide +kernel
theorem dX5_since_74 : decode cX5_since 74 = .ok (.iinc 7 1, 3) := by decide +kernel
theorem dX5_since_77 : decode cX5_since 77 = .ok (.goto (-35), 3) := by decide +kernel
theorem dX5_since_80 : decode cX5_since 80 = .ok (.iload 6, 2) := by decide +kernel
theorem dX5_since_82 : decode cX5_since 82 = .ok (.ireturn, 1) := by decide +kernel
theorem dX5_kinds_0 : decode cX5_kinds 0 = .ok (.aload_n 0, 1) := by decide +kernel
theorem dX5_kinds_1 : decode cX5_kinds 1 = .ok (.iconst 0, 1) := by decide +kernel
theorem dX5_kinds_2 : decode cX5_kinds 2 = .ok (.putfield 53, 3) := by decide +kernel
theorem dX5_kinds_5 : decode cX5_kinds 5 = .ok (.aload_n 0, 1) := by decide +kernel
theorem dX5_kinds_6 : decode cX5_kinds 6 = .ok (.getfield 12, 3) := by decide +kernel
theorem dX5_kinds_9 : decode cX5_kinds 9 = .ok (.iload_n 1, 1) := by decide +kernel
theorem dX5_kinds_10 : decode cX5_kinds 10 = .ok (.invokevirtual 105, 3) := by decide +kernel
theorem dX5_kinds_13 : decode cX5_kinds 13 = .ok (.ifCond .ne 5, 3) := by decide +kernel
theorem dX5_kinds_16 : decode cX5_kinds 16 = .ok (.iconst (-1), 1) := by decide +kernel
theorem dX5_kinds_17 : decode cX5_kinds 17 = .ok (.ireturn, 1) := by decide +kernel
theorem dX5_kinds_18 : decode cX5_kinds 18 = .ok (.aload_n 0, 1) := by decide +kernel
theorem dX5_kinds_19 : decode cX5_kinds 19 = .ok (.iload_n 2, 1) := by decide +kernel
theorem dX5_kinds_20 : decode cX5_kinds 20 = .ok (.iload_n 3, 1) := by decide +kernel
theorem dX5_kinds_21 : decode cX5_kinds 21 = .ok (.iload 4, 2) := by decide +kernel
theorem dX5_kinds_23 : decode cX5_kinds 23 = .ok (.iload 5, 2) := by decide +kernel
theorem dX5_kinds_25 : decode cX5_kinds 25 = .ok (.iconst 1, 1) := by decide +kernel
theorem dX5_kinds_26 : decode cX5_kinds 26 = .ok (.invokevirtual 130, 3) := by decide +kernel
theorem dX5_kinds_29 : decode cX5_kinds 29 = .ok (.istore 6, 2) := by decide +kernel
theorem dX5_kinds_31 : decode cX5_kinds 31 = .ok (.iload 6, 2) := by decide +kernel
theorem dX5_kinds_33 : decode cX5_kinds 33 = .ok (.ifCond .eq 6, 3) := by decide +kernel
theorem dX5_kinds_36 : decode cX5_kinds 36 = .ok (.iload 6, 2) := by decide +kernel
theorem dX5_kinds_38 : decode cX5_kinds 38 = .ok (.ireturn, 1) := by decide +kernel
theorem dX5_kinds_39 : decode cX5_kinds 39 = .ok (.aload_n 0, 1) := by decide +kernel
theorem dX5_kinds_40 : decode cX5_kinds 40 = .ok (.getfield 18, 3) := by decide +kernel
theorem dX5_kinds_43 : decode cX5_kinds 43 = .ok (.aload_n 0, 1) := by decide +kernel
theorem dX5_kinds_44 : decode cX5_kinds 44 = .ok (.getfield 12, 3) := by decide +kernel
theorem dX5_kinds_47 : decode cX5_kinds 47 = .ok (.invokevirtual 79, 3) := by decide +kernel
theorem dX5_kinds_50 : decode cX5_kinds 50 = .ok (.iconst 0, 1) := by decide +kernel
theorem dX5_kinds_51 : decode cX5_kinds 51 = .ok (.istore 7, 2) := by decide +kernel
theorem dX5_kinds_53 : decode cX5_kinds 53 = .ok (.iconst 0, 1) := by decide +kernel
theorem dX5_kinds_54 : decode cX5_kinds 54 = .ok (.istore 8, 2) := by decide +kernel
theorem dX5_kinds_56 : decode cX5_kinds 56 = .ok (.iload 8, 2) := by decide +kernel
theorem dX5_kinds_58 : decode cX5_kinds 58 = .ok (.iconst 3, 1) := by decide +kernel
theorem dX5_kinds_59 : decode cX5_kinds 59 = .ok (.if_icmp .ge 36, 3) := by decide +kernel
theorem dX5_kinds_62 : decode cX5_kinds 62 = .ok (.aload_n 0, 1) := by decide +kernel
theorem dX5_kinds_63 : decode cX5_kinds 63 = .ok (.getfield 18, 3) := by decide +kernel
theorem dX5_kinds_66 : decode cX5_kinds 66 = .ok (.getfield 108, 3) := by decide +kernel
theorem dX5_kinds_69 : decode cX5_kinds 69 = .ok (.iload_n 1, 1) := by decide +kernel
theorem dX5_kinds_70 : decode cX5_kinds 70 = .ok (.iload 8, 2) := by decide +kernel
theorem dX5_kinds_72 : decode cX5_kinds 72 = .ok (.iastore, 1) := by decide +kernel
theorem dX5_kinds_73 : decode cX5_kinds 73 = .ok (.aload_n 0, 1) := by decide +kernel
theorem dX5_kinds_74 : decode cX5_kinds 74 = .ok (.invokevirtual 208, 3) := by decide +kernel
theorem dX5_kinds_77 : decode cX5_kinds 77 = .ok (.ifCond .eq 12, 3) := by decide +kernel
theorem dX5_kinds_80 : decode cX5_kinds 80 = .ok (.iload 7, 2) := by decide +kernel
theorem dX5_kinds_82 : decode cX5_kinds 82 = .ok (.iconst 1, 1) := by decide +kernel
theorem dX5_kinds_83 : decode cX5_kinds 83 = .ok (.iload 8, 2) := by decide +kernel
theorem dX5_kinds_85 : decode cX5_kinds 85 = .ok (.ishl, 1) := by decide +kernel
theorem dX5_kinds_86 : decode cX5_kinds 86 = .ok (.ior, 1) := by decide +kernel
theorem dX5_kinds_87 : decode cX5_kinds 87 = .ok (.istore 7, 2) := by decide +kernel
theorem dX5_kinds_89 : decode cX5_kinds 89 = .ok (.iinc 8 1, 3) := by decide +kernel
theorem dX5_kinds_92 : decode cX5_kinds 92 = .ok (.goto (-36), 3) := by decide +kernel
theorem dX5_kinds_95 : decode cX5_kinds 95 = .ok (.iload 7, 2) := by decide +kernel
theorem dX5_kinds_97 : decode cX5_kinds 97 = .ok (.ireturn, 1) := by decide +kernel
theorem dX5_draftIsAsRead_0 : decode cX5_draftIsAsRead 0 = .ok (.aload_n 0, 1) := by decide +kernel
theorem dX5_draftIsAsRead_1 : decode cX5_draftIsAsRead 1 = .ok (.getfield 37, 3) := by decide +kernel
theorem dX5_draftIsAsRead_4 : decode cX5_draftIsAsRead 4 = .ok (.aload_n 0, 1) := by decide +kernel
theorem dX5_draftIsAsRead_5 : decode cX5_draftIsAsRead 5 = .ok (.getfield 18, 3) := by decide +kernel
theorem dX5_draftIsAsRead_8 : decode cX5_draftIsAsRead 8 = .ok (.invokevirtual 134, 3) := by decide +kernel
theorem dX5_draftIsAsRead_11 : decode cX5_draftIsAsRead 11 = .ok (.aload_n 0, 1) := by decide +kernel
theorem dX5_draftIsAsRead_12 : decode cX5_draftIsAsRead 12 = .ok (.getfield 37, 3) := by decide +kernel
theorem dX5_draftIsAsRead_15 : decode cX5_draftIsAsRead 15 = .ok (.getfield 137, 3) := by decide +kernel
theorem dX5_draftIsAsRead_18 : decode cX5_draftIsAsRead 18 = .ok (.bipush (-9), 2) := by decide +kernel
theorem dX5_draftIsAsRead_20 : decode cX5_draftIsAsRead 20 = .ok (.if_icmp .ne 21, 3) := by decide +kernel
theorem dX5_draftIsAsRead_23 : decode cX5_draftIsAsRead 23 = .ok (.aload_n 0, 1) := by decide +kernel
theorem dX5_draftIsAsRead_24 : decode cX5_draftIsAsRead 24 = .ok (.getfield 30, 3) := by decide +kernel
theorem dX5_draftIsAsRead_27 : decode cX5_draftIsAsRead 27 = .ok (.aload_n 0, 1) := by decide +kernel
theorem dX5_draftIsAsRead_28 : decode cX5_draftIsAsRead 28 = .ok (.getfield 37, 3) := by decide +kernel
theorem dX5_draftIsAsRead_31 : decode cX5_draftIsAsRead 31 = .ok (.invokevirtual 211, 3) := by decide +kernel
theorem dX5_draftIsAsRead_34 : decode cX5_draftIsAsRead 34 = .ok (.ifCond .eq 7, 3) := by decide +kernel
theorem dX5_draftIsAsRead_37 : decode cX5_draftIsAsRead 37 = .ok (.iconst 1, 1) := by decide +kernel
theorem dX5_draftIsAsRead_38 : decode cX5_draftIsAsRead 38 = .ok (.goto 4, 3) := by decide +kernel
theorem dX5_draftIsAsRead_41 : decode cX5_draftIsAsRead 41 = .ok (.iconst 0, 1) := by decide +kernel
theorem dX5_draftIsAsRead_42 : decode cX5_draftIsAsRead 42 = .ok (.ireturn, 1) := by decide +kernel
theorem dX5_sheet_0 : decode cX5_sheet 0 = .ok (.aload_n 0, 1) := by decide +kernel
theorem dX5_sheet_1 : decode cX5_sheet 1 = .ok (.iconst 0, 1) := by decide +kernel
theorem dX5_sheet_2 : decode cX5_sheet 2 = .ok (.putfield 53, 3) := by decide +kernel
theorem dX5_sheet_5 : decode cX5_sheet 5 = .ok (.iload_n 1, 1) := by decide +kernel
theorem dX5_sheet_6 : decode cX5_sheet 6 = .ok (.invokestatic 57, 3) := by decide +kernel
theorem dX5_sheet_9 : decode cX5_sheet 9 = .ok (.ifCond .ne 5, 3) := by decide +kernel
theorem dX5_sheet_12 : decode cX5_sheet 12 = .ok (.iconst (-1), 1) := by decide +kernel
theorem dX5_sheet_13 : decode cX5_sheet 13 = .ok (.ireturn, 1) := by decide +kernel
theorem dX5_sheet_14 : decode cX5_sheet 14 = .ok (.iload_n 2, 1) := by decide +kernel
theorem dX5_sheet_15 : decode cX5_sheet 15 = .ok (.invokestatic 61, 3) := by decide +kernel
theorem dX5_sheet_18 : decode cX5_sheet 18 = .ok (.ifCond .eq 9, 3) := by decide +kernel
theorem dX5_sheet_21 : decode cX5_sheet 21 = .ok (.iload_n 3, 1) := by decide +kernel
theorem dX5_sheet_22 : decode cX5_sheet 22 = .ok (.bipush 60, 2) := by decide +kernel
theorem dX5_sheet_24 : decode cX5_sheet 24 = .ok (.if_icmp .le 6, 3) := by decide +kernel
theorem dX5_sheet_27 : decode cX5_sheet 27 = .ok (.bipush (-2), 2) := by decide +kernel
theorem dX5_sheet_29 : decode cX5_sheet 29 = .ok (.ireturn, 1) := by decide +kernel
theorem dX5_sheet_30 : decode cX5_sheet 30 = .ok (.iload_n 3, 1) := by decide +kernel
theorem dX5_sheet_31 : decode cX5_sheet 31 = .ok (.ifCond .ge 9, 3) := by decide +kernel
theorem dX5_sheet_34 : decode cX5_sheet 34 = .ok (.aload_n 0, 1) := by decide +kernel
theorem dX5_sheet_35 : decode cX5_sheet 35 = .ok (.iconst 4, 1) := by decide +kernel
theorem dX5_sheet_36 : decode cX5_sheet 36 = .ok (.invokevirtual 68, 3) := by decide +kernel
theorem dX5_sheet_39 : decode cX5_sheet 39 = .ok (.ireturn, 1) := by decide +kernel
theorem dX5_sheet_40 : decode cX5_sheet 40 = .ok (.aload_n 0, 1) := by decide +kernel
theorem dX5_sheet_41 : decode cX5_sheet 41 = .ok (.getfield 23, 3) := by decide +kernel
theorem dX5_sheet_44 : decode cX5_sheet 44 = .ok (.iload_n 1, 1) := by decide +kernel
theorem dX5_sheet_45 : decode cX5_sheet 45 = .ok (.aaload, 1) := by decide +kernel
theorem dX5_sheet_46 : decode cX5_sheet 46 = .ok (.iload_n 2, 1) := by decide +kernel
theorem dX5_sheet_47 : decode cX5_sheet 47 = .ok (.iload_n 3, 1) := by decide +kernel
theorem dX5_sheet_48 : decode cX5_sheet 48 = .ok (.invokevirtual 215, 3) := by decide +kernel
theorem dX5_sheet_51 : decode cX5_sheet 51 = .ok (.iconst 1, 1) := by decide +kernel
theorem dX5_sheet_52 : decode cX5_sheet 52 = .ok (.ireturn, 1) := by decide +kernel
theorem dX5_lose_0 : decode cX5_lose 0 = .ok (.iload_n 1, 1) := by decide +kernel
theorem dX5_lose_1 : decode cX5_lose 1 = .ok (.invokestatic 57, 3) := by decide +kernel
theorem dX5_lose_4 : decode cX5_lose 4 = .ok (.ifCond .ne 5, 3) := by decide +kernel
theorem dX5_lose_7 : decode cX5_lose 7 = .ok (.iconst (-1), 1) := by decide +kernel
theorem dX5_lose_8 : decode cX5_lose 8 = .ok (.ireturn, 1) := by decide +kernel
theorem dX5_lose_9 : decode cX5_lose 9 = .ok (.aload_n 0, 1) := by decide +kernel
theorem dX5_lose_10 : decode cX5_lose 10 = .ok (.getfield 23, 3) := by decide +kernel
theorem dX5_lose_13 : decode cX5_lose 13 = .ok (.iload_n 1, 1) := by decide +kernel
theorem dX5_lose_14 : decode cX5_lose 14 = .ok (.aaload, 1) := by decide +kernel
theorem dX5_lose_15 : decode cX5_lose 15 = .ok (.invokevirtual 218, 3) := by decide +kernel
theorem dX5_lose_18 : decode cX5_lose 18 = .ok (.ifCond .eq 5, 3) := by decide +kernel
theorem dX5_lose_21 : decode cX5_lose 21 = .ok (.iconst 0, 1) := by decide +kernel
theorem dX5_lose_22 : decode cX5_lose 22 = .ok (.ireturn, 1) := by decide +kernel
theorem dX5_lose_23 : decode cX5_lose 23 = .ok (.aload_n 0, 1) := by decide +kernel
theorem dX5_lose_24 : decode cX5_lose 24 = .ok (.getfield 23, 3) := by decide +kernel
theorem dX5_lose_27 : decode cX5_lose 27 = .ok (.iload_n 1, 1) := by decide +kernel
theorem dX5_lose_28 : decode cX5_lose 28 = .ok (.aaload, 1) := by decide +kernel
theorem dX5_lose_29 : decode cX5_lose 29 = .ok (.bipush (-9), 2) := by decide +kernel
theorem dX5_lose_31 : decode cX5_lose 31 = .ok (.iconst 0, 1) := by decide +kernel
theorem dX5_lose_32 : decode cX5_lose 32 = .ok (.invokevirtual 215, 3) := by decide +kernel
theorem dX5_lose_35 : decode cX5_lose 35 = .ok (.iconst 1, 1) := by decide +kernel
theorem dX5_lose_36 : decode cX5_lose 36 = .ok (.ireturn, 1) := by decide +kernel
theorem dX5_put_0 : decode cX5_put 0 = .ok (.aload_n 0, 1) := by decide +kernel
theorem dX5_put_1 : decode cX5_put 1 = .ok (.iconst 0, 1) := by decide +kernel
theorem dX5_put_2 : decode cX5_put 2 = .ok (.putfield 53, 3) := by decide +kernel
theorem dX5_put_5 : decode cX5_put 5 = .ok (.iload_n 1, 1) := by decide +kernel
theorem dX5_put_6 : decode cX5_put 6 = .ok (.invokestatic 57, 3) := by decide +kernel
theorem dX5_put_9 : decode cX5_put 9 = .ok (.ifCond .ne 5, 3) := by decide +kernel
theorem dX5_put_12 : decode cX5_put 12 = .ok (.iconst (-1), 1) := by decide +kernel
theorem dX5_put_13 : decode cX5_put 13 = .ok (.ireturn, 1) := by decide +kernel
theorem dX5_put_14 : decode cX5_put 14 = .ok (.aload_n 0, 1) := by decide +kernel
theorem dX5_put_15 : decode cX5_put 15 = .ok (.getfield 23, 3) := by decide +kernel
theorem dX5_put_18 : decode cX5_put 18 = .ok (.iload_n 1, 1) := by decide +kernel
theorem dX5_put_19 : decode cX5_put 19 = .ok (.aaload, 1) := by decide +kernel
theorem dX5_put_20 : decode cX5_put 20 = .ok (.astore 4, 2) := by decide +kernel
theorem dX5_put_22 : decode cX5_put 22 = .ok (.aload 4, 2) := by decide +kernel
theorem dX5_put_24 : decode cX5_put 24 = .ok (.invokevirtual 218, 3) := by decide +kernel
theorem dX5_put_27 : decode cX5_put 27 = .ok (.ifCond .eq 9, 3) := by decide +kernel
theorem dX5_put_30 : decode cX5_put 30 = .ok (.aload_n 0, 1) := by decide +kernel
theorem dX5_put_31 : decode cX5_put 31 = .ok (.iconst 1, 1) := by decide +kernel
theorem dX5_put_32 : decode cX5_put 32 = .ok (.invokevirtual 68, 3) := by decide +kernel
theorem dX5_put_35 : decode cX5_put 35 = .ok (.ireturn, 1) := by decide +kernel
theorem dX5_put_36 : decode cX5_put 36 = .ok (.aload 4, 2) := by decide +kernel
theorem dX5_put_38 : decode cX5_put 38 = .ok (.iload_n 2, 1) := by decide +kernel
theorem dX5_put_39 : decode cX5_put 39 = .ok (.invokevirtual 221, 3) := by decide +kernel
theorem dX5_put_42 : decode cX5_put 42 = .ok (.ifCond .ne 9, 3) := by decide +kernel
theorem dX5_put_45 : decode cX5_put 45 = .ok (.aload_n 0, 1) := by decide +kernel
theorem dX5_put_46 : decode cX5_put 46 = .ok (.iconst 3, 1) := by decide +kernel
theorem dX5_put_47 : decode cX5_put 47 = .ok (.invokevirtual 68, 3) := by decide +kernel
theorem dX5_put_50 : decode cX5_put 50 = .ok (.ireturn, 1) := by decide +kernel
theorem dX5_put_51 : decode cX5_put 51 = .ok (.aload 4, 2) := by decide +kernel
theorem dX5_put_53 : decode cX5_put 53 = .ok (.iload_n 2, 1) := by decide +kernel
theorem dX5_put_54 : decode cX5_put 54 = .ok (.iload_n 3, 1) := by decide +kernel
theorem dX5_put_55 : decode cX5_put 55 = .ok (.invokevirtual 224, 3) := by decide +kernel
theorem dX5_put_58 : decode cX5_put 58 = .ok (.iconst 1, 1) := by decide +kernel
theorem dX5_put_59 : decode cX5_put 59 = .ok (.ireturn, 1) := by decide +kernel
theorem dX5_cell_0 : decode cX5_cell 0 = .ok (.aload_n 0, 1) := by decide +kernel
theorem dX5_cell_1 : decode cX5_cell 1 = .ok (.iconst 0, 1) := by decide +kernel
theorem dX5_cell_2 : decode cX5_cell 2 = .ok (.putfield 53, 3) := by decide +kernel
theorem dX5_cell_5 : decode cX5_cell 5 = .ok (.iload_n 1, 1) := by decide +kernel
theorem dX5_cell_6 : decode cX5_cell 6 = .ok (.invokestatic 57, 3) := by decide +kernel
theorem dX5_cell_9 : decode cX5_cell 9 = .ok (.ifCond .eq 10, 3) := by decide +kernel
theorem dX5_cell_12 : decode cX5_cell 12 = .ok (.iload_n 3, 1) := by decide +kernel
theorem dX5_cell_13 : decode cX5_cell 13 = .ok (.invokestatic 61, 3) := by decide +kernel
theorem dX5_cell_16 : decode cX5_cell 16 = .ok (.ifCond .ne 7, 3) := by decide +kernel
theorem dX5_cell_19 : decode cX5_cell 19 = .ok (.ldc2_w 157, 3) := by decide +kernel
theorem dX5_cell_22 : decode cX5_cell 22 = .ok (.lreturn, 1) := by decide +kernel
theorem dX5_cell_23 : decode cX5_cell 23 = .ok (.aload_n 0, 1) := by decide +kernel
theorem dX5_cell_24 : decode cX5_cell 24 = .ok (.getfield 23, 3) := by decide +kernel
theorem dX5_cell_27 : decode cX5_cell 27 = .ok (.iload_n 1, 1) := by decide +kernel
theorem dX5_cell_28 : decode cX5_cell 28 = .ok (.aaload, 1) := by decide +kernel
theorem dX5_cell_29 : decode cX5_cell 29 = .ok (.astore 4, 2) := by decide +kernel
theorem dX5_cell_31 : decode cX5_cell 31 = .ok (.aload_n 0, 1) := by decide +kernel
theorem dX5_cell_32 : decode cX5_cell 32 = .ok (.aload 4, 2) := by decide +kernel
theorem dX5_cell_34 : decode cX5_cell 34 = .ok (.iload_n 3, 1) := by decide +kernel
theorem dX5_cell_35 : decode cX5_cell 35 = .ok (.invokevirtual 64, 3) := by decide +kernel
theorem dX5_cell_38 : decode cX5_cell 38 = .ok (.putfield 53, 3) := by decide +kernel
theorem dX5_cell_41 : decode cX5_cell 41 = .ok (.aload_n 0, 1) := by decide +kernel
theorem dX5_cell_42 : decode cX5_cell 42 = .ok (.getfield 53, 3) := by decide +kernel
theorem dX5_cell_45 : decode cX5_cell 45 = .ok (.ifCond .ne 17, 3) := by decide +kernel
theorem dX5_cell_48 : decode cX5_cell 48 = .ok (.aload 4, 2) := by decide +kernel
theorem dX5_cell_50 : decode cX5_cell 50 = .ok (.iload_n 2, 1) := by decide +kernel
theorem dX5_cell_51 : decode cX5_cell 51 = .ok (.invokevirtual 221, 3) := by decide +kernel
theorem dX5_cell_54 : decode cX5_cell 54 = .ok (.ifCond .ne 8, 3) := by decide +kernel
theorem dX5_cell_57 : decode cX5_cell 57 = .ok (.aload_n 0, 1) := by decide +kernel
theorem dX5_cell_58 : decode cX5_cell 58 = .ok (.iconst 3, 1) := by decide +kernel
theorem dX5_cell_59 : decode cX5_cell 59 = .ok (.putfield 53, 3) := by decide +kernel
theorem dX5_cell_62 : decode cX5_cell 62 = .ok (.aload_n 0, 1) := by decide +kernel
theorem dX5_cell_63 : decode cX5_cell 63 = .ok (.getfield 53, 3) := by decide +kernel
theorem dX5_cell_66 : decode cX5_cell 66 = .ok (.ifCond .ne 14, 3) := by decide +kernel
theorem dX5_cell_69 : decode cX5_cell 69 = .ok (.aload 4, 2) := by decide +kernel
theorem dX5_cell_71 : decode cX5_cell 71 = .ok (.getfield 167, 3) := by decide +kernel
theorem dX5_cell_74 : decode cX5_cell 74 = .ok (.iload_n 2, 1) := by decide +kernel
theorem dX5_cell_75 : decode cX5_cell 75 = .ok (.iaload, 1) := by decide +kernel
theorem dX5_cell_76 : decode cX5_cell 76 = .ok (.i2l, 1) := by decide +kernel
theorem dX5_cell_77 : decode cX5_cell 77 = .ok (.goto 6, 3) := by decide +kernel
theorem dX5_cell_80 : decode cX5_cell 80 = .ok (.ldc2_w 157, 3) := by decide +kernel
theorem dX5_cell_83 : decode cX5_cell 83 = .ok (.lreturn, 1) := by decide +kernel
theorem dX5_copy_0 : decode cX5_copy 0 = .ok (.aload_n 0, 1) := by decide +kernel
theorem dX5_copy_1 : decode cX5_copy 1 = .ok (.iconst 0, 1) := by decide +kernel
theorem dX5_copy_2 : decode cX5_copy 2 = .ok (.putfield 53, 3) := by decide +kernel
theorem dX5_copy_5 : decode cX5_copy 5 = .ok (.iload_n 1, 1) := by decide +kernel
theorem dX5_copy_6 : decode cX5_copy 6 = .ok (.invokestatic 57, 3) := by decide +kernel
theorem dX5_copy_9 : decode cX5_copy 9 = .ok (.ifCond .eq 10, 3) := by decide +kernel
theorem dX5_copy_12 : decode cX5_copy 12 = .ok (.iload_n 3, 1) := by decide +kernel
theorem dX5_copy_13 : decode cX5_copy 13 = .ok (.invokestatic 57, 3) := by decide +kernel
theorem dX5_copy_16 : decode cX5_copy 16 = .ok (.ifCond .ne 5, 3) := by decide +kernel
theorem dX5_copy_19 : decode cX5_copy 19 = .ok (.iconst (-1), 1) := by decide +kernel
theorem dX5_copy_20 : decode cX5_copy 20 = .ok (.ireturn, 1) := by decide +kernel
theorem dX5_copy_21 : decode cX5_copy 21 = .ok (.aload_n 0, 1) := by decide +kernel
theorem dX5_copy_22 : decode cX5_copy 22 = .ok (.getfield 23, 3) := by decide +kernel
theorem dX5_copy_25 : decode cX5_copy 25 = .ok (.iload_n 1, 1) := by decide +kernel
theorem dX5_copy_26 : decode cX5_copy 26 = .ok (.aaload, 1) := by decide +kernel
theorem dX5_copy_27 : decode cX5_copy 27 = .ok (.astore 6, 2) := by decide +kernel
theorem dX5_copy_29 : decode cX5_copy 29 = .ok (.aload_n 0, 1) := by decide +kernel
theorem dX5_copy_30 : decode cX5_copy 30 = .ok (.getfield 23, 3) := by decide +kernel
theorem dX5_copy_33 : decode cX5_copy 33 = .ok (.iload_n 3, 1) := by decide +kernel
theorem dX5_copy_34 : decode cX5_copy 34 = .ok (.aaload, 1) := by decide +kernel
theorem dX5_copy_35 : decode cX5_copy 35 = .ok (.astore 7, 2) := by decide +kernel
theorem dX5_copy_37 : decode cX5_copy 37 = .ok (.aload 6, 2) := by decide +kernel
theorem dX5_copy_39 : decode cX5_copy 39 = .ok (.invokevirtual 218, 3) := by decide +kernel
theorem dX5_copy_42 : decode cX5_copy 42 = .ok (.ifCond .ne 11, 3) := by decide +kernel
theorem dX5_copy_45 : decode cX5_copy 45 = .ok (.aload 7, 2) := by decide +kernel
theorem dX5_copy_47 : decode cX5_copy 47 = .ok (.invokevirtual 218, 3) := by decide +kernel
theorem dX5_copy_50 : decode cX5_copy 50 = .ok (.ifCond .eq 9, 3) := by decide +kernel
theorem dX5_copy_53 : decode cX5_copy 53 = .ok (.aload_n 0, 1) := by decide +kernel
theorem dX5_copy_54 : decode cX5_copy 54 = .ok (.iconst 1, 1) := by decide +kernel
theorem dX5_copy_55 : decode cX5_copy 55 = .ok (.invokevirtual 68, 3) := by decide +kernel
theorem dX5_copy_58 : decode cX5_copy 58 = .ok (.ireturn, 1) := by decide +kernel
theorem dX5_copy_59 : decode cX5_copy 59 = .ok (.aload 6, 2) := by decide +kernel
theorem dX5_copy_61 : decode cX5_copy 61 = .ok (.getfield 227, 3) := by decide +kernel
theorem dX5_copy_64 : decode cX5_copy 64 = .ok (.aload 7, 2) := by decide +kernel
theorem dX5_copy_66 : decode cX5_copy 66 = .ok (.getfield 227, 3) := by decide +kernel
theorem dX5_copy_69 : decode cX5_copy 69 = .ok (.if_icmp .eq 9, 3) := by decide +kernel
theorem dX5_copy_72 : decode cX5_copy 72 = .ok (.aload_n 0, 1) := by decide +kernel
theorem dX5_copy_73 : decode cX5_copy 73 = .ok (.iconst 2, 1) := by decide +kernel
theorem dX5_copy_74 : decode cX5_copy 74 = .ok (.invokevirtual 68, 3) := by decide +kernel
theorem dX5_copy_77 : decode cX5_copy 77 = .ok (.ireturn, 1) := by decide +kernel
theorem dX5_copy_78 : decode cX5_copy 78 = .ok (.aload 6, 2) := by decide +kernel
theorem dX5_copy_80 : decode cX5_copy 80 = .ok (.iload_n 2, 1) := by decide +kernel
theorem dX5_copy_81 : decode cX5_copy 81 = .ok (.iload 5, 2) := by decide +kernel
theorem dX5_copy_83 : decode cX5_copy 83 = .ok (.invokevirtual 71, 3) := by decide +kernel
theorem dX5_copy_86 : decode cX5_copy 86 = .ok (.ifCond .eq 15, 3) := by decide +kernel
theorem dX5_copy_89 : decode cX5_copy 89 = .ok (.aload 7, 2) := by decide +kernel
theorem dX5_copy_91 : decode cX5_copy 91 = .ok (.iload 4, 2) := by decide +kernel
theorem dX5_copy_93 : decode cX5_copy 93 = .ok (.iload 5, 2) := by decide +kernel
theorem dX5_copy_95 : decode cX5_copy 95 = .ok (.invokevirtual 71, 3) := by decide +kernel
theorem dX5_copy_98 : decode cX5_copy 98 = .ok (.ifCond .ne 9, 3) := by decide +kernel
theorem dX5_copy_101 : decode cX5_copy 101 = .ok (.aload_n 0, 1) := by decide +kernel
theorem dX5_copy_102 : decode cX5_copy 102 = .ok (.iconst 3, 1) := by decide +kernel
theorem dX5_copy_103 : decode cX5_copy 103 = .ok (.invokevirtual 68, 3) := by decide +kernel
theorem dX5_copy_106 : decode cX5_copy 106 = .ok (.ireturn, 1) := by decide +kernel
theorem dX5_copy_107 : decode cX5_copy 107 = .ok (.aload 6, 2) := by decide +kernel
theorem dX5_copy_109 : decode cX5_copy 109 = .ok (.getfield 167, 3) := by decide +kernel
theorem dX5_copy_112 : decode cX5_copy 112 = .ok (.iload_n 2, 1) := by decide +kernel
theorem dX5_copy_113 : decode cX5_copy 113 = .ok (.aload 7, 2) := by decide +kernel
theorem dX5_copy_115 : decode cX5_copy 115 = .ok (.getfield 167, 3) := by decide +kernel
theorem dX5_copy_118 : decode cX5_copy 118 = .ok (.iload 4, 2) := by decide +kernel
theorem dX5_copy_120 : decode cX5_copy 120 = .ok (.iload 5, 2) := by decide +kernel
theorem dX5_copy_122 : decode cX5_copy 122 = .ok (.invokestatic 230, 3) := by decide +kernel
theorem dX5_copy_125 : decode cX5_copy 125 = .ok (.iload 5, 2) := by decide +kernel
theorem dX5_copy_127 : decode cX5_copy 127 = .ok (.ireturn, 1) := by decide +kernel
theorem dX5_tell_0 : decode cX5_tell 0 = .ok (.aload_n 0, 1) := by decide +kernel
theorem dX5_tell_1 : decode cX5_tell 1 = .ok (.getfield 12, 3) := by decide +kernel
theorem dX5_tell_4 : decode cX5_tell 4 = .ok (.iload_n 1, 1) := by decide +kernel
theorem dX5_tell_5 : decode cX5_tell 5 = .ok (.invokevirtual 105, 3) := by decide +kernel
theorem dX5_tell_8 : decode cX5_tell 8 = .ok (.ifCond .ne 5, 3) := by decide +kernel
theorem dX5_tell_11 : decode cX5_tell 11 = .ok (.iconst (-1), 1) := by decide +kernel
theorem dX5_tell_12 : decode cX5_tell 12 = .ok (.ireturn, 1) := by decide +kernel
theorem dX5_tell_13 : decode cX5_tell 13 = .ok (.aload_n 0, 1) := by decide +kernel
theorem dX5_tell_14 : decode cX5_tell 14 = .ok (.getfield 12, 3) := by decide +kernel
theorem dX5_tell_17 : decode cX5_tell 17 = .ok (.getfield 108, 3) := by decide +kernel
theorem dX5_tell_20 : decode cX5_tell 20 = .ok (.iload_n 1, 1) := by decide +kernel
theorem dX5_tell_21 : decode cX5_tell 21 = .ok (.iaload, 1) := by decide +kernel
theorem dX5_tell_22 : decode cX5_tell 22 = .ok (.lookupswitch 38 #[(1, 32), (2, 26)], 26) := by decide +kernel
theorem dX5_tell_48 : decode cX5_tell 48 = .ok (.aload_n 0, 1) := by decide +kernel
theorem dX5_tell_49 : decode cX5_tell 49 = .ok (.iload_n 1, 1) := by decide +kernel
theorem dX5_tell_50 : decode cX5_tell 50 = .ok (.invokevirtual 236, 3) := by decide +kernel
theorem dX5_tell_53 : decode cX5_tell 53 = .ok (.ireturn, 1) := by decide +kernel
theorem dX5_tell_54 : decode cX5_tell 54 = .ok (.aload_n 0, 1) := by decide +kernel
theorem dX5_tell_55 : decode cX5_tell 55 = .ok (.iload_n 1, 1) := by decide +kernel
theorem dX5_tell_56 : decode cX5_tell 56 = .ok (.invokevirtual 239, 3) := by decide +kernel
theorem dX5_tell_59 : decode cX5_tell 59 = .ok (.ireturn, 1) := by decide +kernel
theorem dX5_tell_60 : decode cX5_tell 60 = .ok (.aload_n 0, 1) := by decide +kernel
theorem dX5_tell_61 : decode cX5_tell 61 = .ok (.iload_n 1, 1) := by decide +kernel
theorem dX5_tell_62 : decode cX5_tell 62 = .ok (.invokevirtual 242, 3) := by decide +kernel
theorem dX5_tell_65 : decode cX5_tell 65 = .ok (.ireturn, 1) := by decide +kernel
theorem dX5_hail_0 : decode cX5_hail 0 = .ok (.aload_n 0, 1) := by decide +kernel
theorem dX5_hail_1 : decode cX5_hail 1 = .ok (.getfield 12, 3) := by decide +kernel
theorem dX5_hail_4 : decode cX5_hail 4 = .ok (.iload_n 1, 1) := by decide +kernel
theorem dX5_hail_5 : decode cX5_hail 5 = .ok (.invokevirtual 105, 3) := by decide +kernel
theorem dX5_hail_8 : decode cX5_hail 8 = .ok (.ifCond .ne 5, 3) := by decide +kernel
theorem dX5_hail_11 : decode cX5_hail 11 = .ok (.iconst (-1), 1) := by decide +kernel
theorem dX5_hail_12 : decode cX5_hail 12 = .ok (.ireturn, 1) := by decide +kernel
theorem dX5_hail_13 : decode cX5_hail 13 = .ok (.aload_n 0, 1) := by decide +kernel
theorem dX5_hail_14 : decode cX5_hail 14 = .ok (.getfield 12, 3) := by decide +kernel
theorem dX5_hail_17 : decode cX5_hail 17 = .ok (.getfield 108, 3) := by decide +kernel
theorem dX5_hail_20 : decode cX5_hail 20 = .ok (.iload_n 1, 1) := by decide +kernel
theorem dX5_hail_21 : decode cX5_hail 21 = .ok (.iaload, 1) := by decide +kernel
theorem dX5_hail_22 : decode cX5_hail 22 = .ok (.iconst 2, 1) := by decide +kernel
theorem dX5_hail_23 : decode cX5_hail 23 = .ok (.if_icmp .ne 11, 3) := by decide +kernel
theorem dX5_hail_26 : decode cX5_hail 26 = .ok (.aload_n 0, 1) := by decide +kernel
theorem dX5_hail_27 : decode cX5_hail 27 = .ok (.iconst 5, 1) := by decide +kernel
theorem dX5_hail_28 : decode cX5_hail 28 = .ok (.invokevirtual 245, 3) := by decide +kernel
theorem dX5_hail_31 : decode cX5_hail 31 = .ok (.bipush 60, 2) := by decide +kernel
theorem dX5_hail_33 : decode cX5_hail 33 = .ok (.ireturn, 1) := by decide +kernel
theorem dX5_hail_34 : decode cX5_hail 34 = .ok (.aload_n 0, 1) := by decide +kernel
theorem dX5_hail_35 : decode cX5_hail 35 = .ok (.iconst 4, 1) := by decide +kernel
theorem dX5_hail_36 : decode cX5_hail 36 = .ok (.invokevirtual 245, 3) := by decide +kernel
theorem dX5_hail_39 : decode cX5_hail 39 = .ok (.iload_n 1, 1) := by decide +kernel
theorem dX5_hail_40 : decode cX5_hail 40 = .ok (.ireturn, 1) := by decide +kernel
theorem dX5_as_0 : decode cX5_as 0 = .ok (.aload_n 0, 1) := by decide +kernel
theorem dX5_as_1 : decode cX5_as 1 = .ok (.iconst 0, 1) := by decide +kernel
theorem dX5_as_2 : decode cX5_as 2 = .ok (.putfield 53, 3) := by decide +kernel
theorem dX5_as_5 : decode cX5_as 5 = .ok (.aload_n 0, 1) := by decide +kernel
theorem dX5_as_6 : decode cX5_as 6 = .ok (.getfield 12, 3) := by decide +kernel
theorem dX5_as_9 : decode cX5_as 9 = .ok (.iload_n 1, 1) := by decide +kernel
theorem dX5_as_10 : decode cX5_as 10 = .ok (.invokevirtual 105, 3) := by decide +kernel
theorem dX5_as_13 : decode cX5_as 13 = .ok (.ifCond .ne 5, 3) := by decide +kernel
theorem dX5_as_16 : decode cX5_as 16 = .ok (.iconst (-1), 1) := by decide +kernel
theorem dX5_as_17 : decode cX5_as 17 = .ok (.ireturn, 1) := by decide +kernel
theorem dX5_as_18 : decode cX5_as 18 = .ok (.iload_n 2, 1) := by decide +kernel
theorem dX5_as_19 : decode cX5_as 19 = .ok (.ifCond .lt 8, 3) := by decide +kernel
theorem dX5_as_22 : decode cX5_as 22 = .ok (.iload_n 2, 1) := by decide +kernel
theorem dX5_as_23 : decode cX5_as 23 = .ok (.iconst 3, 1) := by decide +kernel
theorem dX5_as_24 : decode cX5_as 24 = .ok (.if_icmp .lt 6, 3) := by decide +kernel
theorem dX5_as_27 : decode cX5_as 27 = .ok (.bipush (-2), 2) := by decide +kernel
theorem dX5_as_29 : decode cX5_as 29 = .ok (.ireturn, 1) := by decide +kernel
theorem dX5_as_30 : decode cX5_as 30 = .ok (.aload_n 0, 1) := by decide +kernel
theorem dX5_as_31 : decode cX5_as 31 = .ok (.getfield 12, 3) := by decide +kernel
theorem dX5_as_34 : decode cX5_as 34 = .ok (.getfield 108, 3) := by decide +kernel
theorem dX5_as_37 : decode cX5_as 37 = .ok (.iload_n 1, 1) := by decide +kernel
theorem dX5_as_38 : decode cX5_as 38 = .ok (.iaload, 1) := by decide +kernel
theorem dX5_as_39 : decode cX5_as 39 = .ok (.iload_n 2, 1) := by decide +kernel
theorem dX5_as_40 : decode cX5_as 40 = .ok (.if_icmp .ge 11, 3) := by decide +kernel
theorem dX5_as_43 : decode cX5_as 43 = .ok (.aload_n 0, 1) := by decide +kernel
theorem dX5_as_44 : decode cX5_as 44 = .ok (.iconst 2, 1) := by decide +kernel
theorem dX5_as_45 : decode cX5_as 45 = .ok (.invokevirtual 68, 3) := by decide +kernel
theorem dX5_as_48 : decode cX5_as 48 = .ok (.goto 4, 3) := by decide +kernel
theorem dX5_as_51 : decode cX5_as 51 = .ok (.iconst 1, 1) := by decide +kernel
theorem dX5_as_52 : decode cX5_as 52 = .ok (.ireturn, 1) := by decide +kernel
theorem dX5_trace_0 : decode cX5_trace 0 = .ok (.aload_n 0, 1) := by decide +kernel
theorem dX5_trace_1 : decode cX5_trace 1 = .ok (.getfield 248, 3) := by decide +kernel
theorem dX5_trace_4 : decode cX5_trace 4 = .ok (.ireturn, 1) := by decide +kernel
theorem dX5_fault_0 : decode cX5_fault 0 = .ok (.aload_n 0, 1) := by decide +kernel
theorem dX5_fault_1 : decode cX5_fault 1 = .ok (.getfield 53, 3) := by decide +kernel
theorem dX5_fault_4 : decode cX5_fault 4 = .ok (.ireturn, 1) := by decide +kernel
theorem dX5_many_0 : decode cX5_many 0 = .ok (.iload_n 1, 1) := by decide +kernel
theorem dX5_many_1 : decode cX5_many 1 = .ok (.tableswitch 63 0 3 #[31, 39, 47, 55], 31) := by decide +kernel
theorem dX5_many_32 : decode cX5_many 32 = .ok (.aload_n 0, 1) := by decide +kernel
theorem dX5_many_33 : decode cX5_many 33 = .ok (.getfield 12, 3) := by decide +kernel
theorem dX5_many_36 : decode cX5_many 36 = .ok (.getfield 251, 3) := by decide +kernel
theorem dX5_many_39 : decode cX5_many 39 = .ok (.ireturn, 1) := by decide +kernel
theorem dX5_many_40 : decode cX5_many 40 = .ok (.aload_n 0, 1) := by decide +kernel
theorem dX5_many_41 : decode cX5_many 41 = .ok (.getfield 12, 3) := by decide +kernel
theorem dX5_many_44 : decode cX5_many 44 = .ok (.getfield 89, 3) := by decide +kernel
theorem dX5_many_47 : decode cX5_many 47 = .ok (.ireturn, 1) := by decide +kernel
theorem dX5_many_48 : decode cX5_many 48 = .ok (.aload_n 0, 1) := by decide +kernel
theorem dX5_many_49 : decode cX5_many 49 = .ok (.getfield 12, 3) := by decide +kernel
theorem dX5_many_52 : decode cX5_many 52 = .ok (.getfield 118, 3) := by decide +kernel
theorem dX5_many_55 : decode cX5_many 55 = .ok (.ireturn, 1) := by decide +kernel
theorem dX5_many_56 : decode cX5_many 56 = .ok (.aload_n 0, 1) := by decide +kernel
theorem dX5_many_57 : decode cX5_many 57 = .ok (.getfield 30, 3) := by decide +kernel
theorem dX5_many_60 : decode cX5_many 60 = .ok (.getfield 83, 3) := by decide +kernel
theorem dX5_many_63 : decode cX5_many 63 = .ok (.ireturn, 1) := by decide +kernel
theorem dX5_many_64 : decode cX5_many 64 = .ok (.bipush (-2), 2) := by decide +kernel
theorem dX5_many_66 : decode cX5_many 66 = .ok (.ireturn, 1) := by decide +kernel
theorem dX5_tellAsThing_0 : decode cX5_tellAsThing 0 = .ok (.aload_n 0, 1) := by decide +kernel
theorem dX5_tellAsThing_1 : decode cX5_tellAsThing 1 = .ok (.iconst 1, 1) := by decide +kernel
theorem dX5_tellAsThing_2 : decode cX5_tellAsThing 2 = .ok (.invokevirtual 245, 3) := by decide +kernel
theorem dX5_tellAsThing_5 : decode cX5_tellAsThing 5 = .ok (.aload_n 0, 1) := by decide +kernel
theorem dX5_tellAsThing_6 : decode cX5_tellAsThing 6 = .ok (.getfield 12, 3) := by decide +kernel
theorem dX5_tellAsThing_9 : decode cX5_tellAsThing 9 = .ok (.getfield 111, 3) := by decide +kernel
theorem dX5_tellAsThing_12 : decode cX5_tellAsThing 12 = .ok (.iload_n 1, 1) := by decide +kernel
theorem dX5_tellAsThing_13 : decode cX5_tellAsThing 13 = .ok (.iaload, 1) := by decide +kernel
theorem dX5_tellAsThing_14 : decode cX5_tellAsThing 14 = .ok (.ireturn, 1) := by decide +kernel
theorem dX5_tellAsFood_0 : decode cX5_tellAsFood 0 = .ok (.aload_n 0, 1) := by decide +kernel
theorem dX5_tellAsFood_1 : decode cX5_tellAsFood 1 = .ok (.iconst 2, 1) := by decide +kernel
theorem dX5_tellAsFood_2 : decode cX5_tellAsFood 2 = .ok (.invokevirtual 245, 3) := by decide +kernel
theorem dX5_tellAsFood_5 : decode cX5_tellAsFood 5 = .ok (.aload_n 0, 1) := by decide +kernel
theorem dX5_tellAsFood_6 : decode cX5_tellAsFood 6 = .ok (.iload_n 1, 1) := by decide +kernel
theorem dX5_tellAsFood_7 : decode cX5_tellAsFood 7 = .ok (.invokevirtual 242, 3) := by decide +kernel
theorem dX5_tellAsFood_10 : decode cX5_tellAsFood 10 = .ok (.bipush 100, 2) := by decide +kernel
theorem dX5_tellAsFood_12 : decode cX5_tellAsFood 12 = .ok (.iadd, 1) := by decide +kernel
theorem dX5_tellAsFood_13 : decode cX5_tellAsFood 13 = .ok (.ireturn, 1) := by decide +kernel
theorem dX5_tellAsChild_0 : decode cX5_tellAsChild 0 = .ok (.aload_n 0, 1) := by decide +kernel
theorem dX5_tellAsChild_1 : decode cX5_tellAsChild 1 = .ok (.iconst 3, 1) := by decide +kernel
theorem dX5_tellAsChild_2 : decode cX5_tellAsChild 2 = .ok (.invokevirtual 245, 3) := by decide +kernel
theorem dX5_tellAsChild_5 : decode cX5_tellAsChild 5 = .ok (.aload_n 0, 1) := by decide +kernel
theorem dX5_tellAsChild_6 : decode cX5_tellAsChild 6 = .ok (.iload_n 1, 1) := by decide +kernel
theorem dX5_tellAsChild_7 : decode cX5_tellAsChild 7 = .ok (.invokevirtual 239, 3) := by decide +kernel
theorem dX5_tellAsChild_10 : decode cX5_tellAsChild 10 = .ok (.istore_n 2, 1) := by decide +kernel
theorem dX5_tellAsChild_11 : decode cX5_tellAsChild 11 = .ok (.iload_n 2, 1) := by decide +kernel
theorem dX5_tellAsChild_12 : decode cX5_tellAsChild 12 = .ok (.aload_n 0, 1) := by decide +kernel
theorem dX5_tellAsChild_13 : decode cX5_tellAsChild 13 = .ok (.iload_n 1, 1) := by decide +kernel
theorem dX5_tellAsChild_14 : decode cX5_tellAsChild 14 = .ok (.invokevirtual 242, 3) := by decide +kernel
theorem dX5_tellAsChild_17 : decode cX5_tellAsChild 17 = .ok (.iadd, 1) := by decide +kernel
theorem dX5_tellAsChild_18 : decode cX5_tellAsChild 18 = .ok (.ireturn, 1) := by decide +kernel
theorem dX5_leave_0 : decode cX5_leave 0 = .ok (.aload_n 0, 1) := by decide +kernel
theorem dX5_leave_1 : decode cX5_leave 1 = .ok (.bipush 31, 2) := by decide +kernel
theorem dX5_leave_3 : decode cX5_leave 3 = .ok (.aload_n 0, 1) := by decide +kernel
theorem dX5_leave_4 : decode cX5_leave 4 = .ok (.getfield 248, 3) := by decide +kernel
theorem dX5_leave_7 : decode cX5_leave 7 = .ok (.imul, 1) := by decide +kernel
theorem dX5_leave_8 : decode cX5_leave 8 = .ok (.iload_n 1, 1) := by decide +kernel
theorem dX5_leave_9 : decode cX5_leave 9 = .ok (.iadd, 1) := by decide +kernel
theorem dX5_leave_10 : decode cX5_leave 10 = .ok (.putfield 248, 3) := by decide +kernel
theorem dX5_leave_13 : decode cX5_leave 13 = .ok (.return_, 1) := by decide +kernel
theorem dX5_faulted_0 : decode cX5_faulted 0 = .ok (.aload_n 0, 1) := by decide +kernel
theorem dX5_faulted_1 : decode cX5_faulted 1 = .ok (.iload_n 1, 1) := by decide +kernel
theorem dX5_faulted_2 : decode cX5_faulted 2 = .ok (.putfield 53, 3) := by decide +kernel
theorem dX5_faulted_5 : decode cX5_faulted 5 = .ok (.bipush (-10), 2) := by decide +kernel
theorem dX5_faulted_7 : decode cX5_faulted 7 = .ok (.iload_n 1, 1) := by decide +kernel
theorem dX5_faulted_8 : decode cX5_faulted 8 = .ok (.isub, 1) := by decide +kernel
theorem dX5_faulted_9 : decode cX5_faulted 9 = .ok (.ireturn, 1) := by decide +kernel
theorem dX5_isSheet_0 : decode cX5_isSheet 0 = .ok (.iload_n 0, 1) := by decide +kernel
theorem dX5_isSheet_1 : decode cX5_isSheet 1 = .ok (.ifCond .lt 12, 3) := by decide +kernel
theorem dX5_isSheet_4 : decode cX5_isSheet 4 = .ok (.iload_n 0, 1) := by decide +kernel
theorem dX5_isSheet_5 : decode cX5_isSheet 5 = .ok (.iconst 4, 1) := by decide +kernel
theorem dX5_isSheet_6 : decode cX5_isSheet 6 = .ok (.if_icmp .ge 7, 3) := by decide +kernel
theorem dX5_isSheet_9 : decode cX5_isSheet 9 = .ok (.iconst 1, 1) := by decide +kernel
theorem dX5_isSheet_10 : decode cX5_isSheet 10 = .ok (.goto 4, 3) := by decide +kernel
theorem dX5_isSheet_13 : decode cX5_isSheet 13 = .ok (.iconst 0, 1) := by decide +kernel
theorem dX5_isSheet_14 : decode cX5_isSheet 14 = .ok (.ireturn, 1) := by decide +kernel
theorem dX5_isLane_0 : decode cX5_isLane 0 = .ok (.iload_n 0, 1) := by decide +kernel
theorem dX5_isLane_1 : decode cX5_isLane 1 = .ok (.ifCond .lt 12, 3) := by decide +kernel
theorem dX5_isLane_4 : decode cX5_isLane 4 = .ok (.iload_n 0, 1) := by decide +kernel
theorem dX5_isLane_5 : decode cX5_isLane 5 = .ok (.iconst 3, 1) := by decide +kernel
theorem dX5_isLane_6 : decode cX5_isLane 6 = .ok (.if_icmp .ge 7, 3) := by decide +kernel
theorem dX5_isLane_9 : decode cX5_isLane 9 = .ok (.iconst 1, 1) := by decide +kernel
theorem dX5_isLane_10 : decode cX5_isLane 10 = .ok (.goto 4, 3) := by decide +kernel
theorem dX5_isLane_13 : decode cX5_isLane 13 = .ok (.iconst 0, 1) := by decide +kernel
theorem dX5_isLane_14 : decode cX5_isLane 14 = .ok (.ireturn, 1) := by decide +kernel
end
section
theorem dX6_init_0 : decode cX6_init 0 = .ok (.aload_n 0, 1) := by decide +kernel
theorem dX6_init_1 : decode cX6_init 1 = .ok (.invokespecial 1, 3) := by decide +kernel
theorem dX6_init_4 : decode cX6_init 4 = .ok (.aload_n 0, 1) := by decide +kernel
theorem dX6_init_5 : decode cX6_init 5 = .ok (.iconst 4, 1) := by decide +kernel
theorem dX6_init_6 : decode cX6_init 6 = .ok (.newarray .int, 2) := by decide +kernel
theorem dX6_init_8 : decode cX6_init 8 = .ok (.dup, 1) := by decide +kernel
theorem dX6_init_9 : decode cX6_init 9 = .ok (.iconst 0, 1) := by decide +kernel
theorem dX6_init_10 : decode cX6_init 10 = .ok (.bipush (-9), 2) := by decide +kernel
theorem dX6_init_12 : decode cX6_init 12 = .ok (.iastore, 1) := by decide +kernel
theorem dX6_init_13 : decode cX6_init 13 = .ok (.dup, 1) := by decide +kernel
theorem dX6_init_14 : decode cX6_init 14 = .ok (.iconst 1, 1) := by decide +kernel
theorem dX6_init_15 : decode cX6_init 15 = .ok (.bipush (-9), 2) := by decide +kernel
theorem dX6_init_17 : decode cX6_init 17 = .ok (.iastore, 1) := by decide +kernel
theorem dX6_init_18 : decode cX6_init 18 = .ok (.dup, 1) := by decide +kernel
theorem dX6_init_19 : decode cX6_init 19 = .ok (.iconst 2, 1) := by decide +kernel
theorem dX6_init_20 : decode cX6_init 20 = .ok (.bipush (-9), 2) := by decide +kernel
theorem dX6_init_22 : decode cX6_init 22 = .ok (.iastore, 1) := by decide +kernel
theorem dX6_init_23 : decode cX6_init 23 = .ok (.dup, 1) := by decide +kernel
theorem dX6_init_24 : decode cX6_init 24 = .ok (.iconst 3, 1) := by decide +kernel
theorem dX6_init_25 : decode cX6_init 25 = .ok (.bipush (-9), 2) := by decide +kernel
theorem dX6_init_27 : decode cX6_init 27 = .ok (.iastore, 1) := by decide +kernel
theorem dX6_init_28 : decode cX6_init 28 = .ok (.putfield 9, 3) := by decide +kernel
theorem dX6_init_31 : decode cX6_init 31 = .ok (.aload_n 0, 1) := by decide +kernel
theorem dX6_init_32 : decode cX6_init 32 = .ok (.iconst 4, 1) := by decide +kernel
theorem dX6_init_33 : decode cX6_init 33 = .ok (.newarray .int, 2) := by decide +kernel
theorem dX6_init_35 : decode cX6_init 35 = .ok (.putfield 13, 3) := by decide +kernel
theorem dX6_init_38 : decode cX6_init 38 = .ok (.aload_n 0, 1) := by decide +kernel
theorem dX6_init_39 : decode cX6_init 39 = .ok (.sipush 240, 3) := by decide +kernel
theorem dX6_init_42 : decode cX6_init 42 = .ok (.newarray .int, 2) := by decide +kernel
theorem dX6_init_44 : decode cX6_init 44 = .ok (.putfield 16, 3) := by decide +kernel
theorem dX6_init_47 : decode cX6_init 47 = .ok (.aload_n 0, 1) := by decide +kernel
theorem dX6_init_48 : decode cX6_init 48 = .ok (.bipush (-9), 2) := by decide +kernel
theorem dX6_init_50 : decode cX6_init 50 = .ok (.putfield 19, 3) := by decide +kernel
theorem dX6_init_53 : decode cX6_init 53 = .ok (.aload_n 0, 1) := by decide +kernel
theorem dX6_init_54 : decode cX6_init 54 = .ok (.iconst 3, 1) := by decide +kernel
theorem dX6_init_55 : decode cX6_init 55 = .ok (.newarray .int, 2) := by decide +kernel
theorem dX6_init_57 : decode cX6_init 57 = .ok (.putfield 23, 3) := by decide +kernel
theorem dX6_init_60 : decode cX6_init 60 = .ok (.aload_n 0, 1) := by decide +kernel
theorem dX6_init_61 : decode cX6_init 61 = .ok (.iconst 3, 1) := by decide +kernel
theorem dX6_init_62 : decode cX6_init 62 = .ok (.newarray .int, 2) := by decide +kernel
theorem dX6_init_64 : decode cX6_init 64 = .ok (.putfield 26, 3) := by decide +kernel
theorem dX6_init_67 : decode cX6_init 67 = .ok (.aload_n 0, 1) := by decide +kernel
theorem dX6_init_68 : decode cX6_init 68 = .ok (.iconst 3, 1) := by decide +kernel
theorem dX6_init_69 : decode cX6_init 69 = .ok (.newarray .boolean, 2) := by decide +kernel
theorem dX6_init_71 : decode cX6_init 71 = .ok (.putfield 29, 3) := by decide +kernel
theorem dX6_init_74 : decode cX6_init 74 = .ok (.aload_n 0, 1) := by decide +kernel
theorem dX6_init_75 : decode cX6_init 75 = .ok (.iconst 4, 1) := by decide +kernel
theorem dX6_init_76 : decode cX6_init 76 = .ok (.newarray .int, 2) := by decide +kernel
theorem dX6_init_78 : decode cX6_init 78 = .ok (.putfield 33, 3) := by decide +kernel
theorem dX6_init_81 : decode cX6_init 81 = .ok (.aload_n 0, 1) := by decide +kernel
theorem dX6_init_82 : decode cX6_init 82 = .ok (.iconst 4, 1) := by decide +kernel
theorem dX6_init_83 : decode cX6_init 83 = .ok (.newarray .int, 2) := by decide +kernel
theorem dX6_init_85 : decode cX6_init 85 = .ok (.putfield 36, 3) := by decide +kernel
theorem dX6_init_88 : decode cX6_init 88 = .ok (.aload_n 0, 1) := by decide +kernel
theorem dX6_init_89 : decode cX6_init 89 = .ok (.bipush (-9), 2) := by decide +kernel
theorem dX6_init_91 : decode cX6_init 91 = .ok (.putfield 39, 3) := by decide +kernel
theorem dX6_init_94 : decode cX6_init 94 = .ok (.aload_n 0, 1) := by decide +kernel
theorem dX6_init_95 : decode cX6_init 95 = .ok (.bipush 6, 2) := by decide +kernel
theorem dX6_init_97 : decode cX6_init 97 = .ok (.newarray .int, 2) := by decide +kernel
theorem dX6_init_99 : decode cX6_init 99 = .ok (.putfield 42, 3) := by decide +kernel
theorem dX6_init_102 : decode cX6_init 102 = .ok (.aload_n 0, 1) := by decide +kernel
theorem dX6_init_103 : decode cX6_init 103 = .ok (.bipush 8, 2) := by decide +kernel
theorem dX6_init_105 : decode cX6_init 105 = .ok (.newarray .int, 2) := by decide +kernel
theorem dX6_init_107 : decode cX6_init 107 = .ok (.putfield 45, 3) := by decide +kernel
theorem dX6_init_110 : decode cX6_init 110 = .ok (.aload_n 0, 1) := by decide +kernel
theorem dX6_init_111 : decode cX6_init 111 = .ok (.bipush 18, 2) := by decide +kernel
theorem dX6_init_113 : decode cX6_init 113 = .ok (.newarray .int, 2) := by decide +kernel
theorem dX6_init_115 : decode cX6_init 115 = .ok (.putfield 48, 3) := by decide +kernel
theorem dX6_init_118 : decode cX6_init 118 = .ok (.aload_n 0, 1) := by decide +kernel
theorem dX6_init_119 : decode cX6_init 119 = .ok (.bipush 18, 2) := by decide +kernel
theorem dX6_init_121 : decode cX6_init 121 = .ok (.newarray .int, 2) := by decide +kernel
theorem dX6_init_123 : decode cX6_init 123 = .ok (.putfield 51, 3) := by decide +kernel
theorem dX6_init_126 : decode cX6_init 126 = .ok (.aload_n 0, 1) := by decide +kernel
theorem dX6_init_127 : decode cX6_init 127 = .ok (.bipush 18, 2) := by decide +kernel
theorem dX6_init_129 : decode cX6_init 129 = .ok (.newarray .int, 2) := by decide +kernel
theorem dX6_init_131 : decode cX6_init 131 = .ok (.putfield 54, 3) := by decide +kernel
theorem dX6_init_134 : decode cX6_init 134 = .ok (.aload_n 0, 1) := by decide +kernel
theorem dX6_init_135 : decode cX6_init 135 = .ok (.bipush 18, 2) := by decide +kernel
theorem dX6_init_137 : decode cX6_init 137 = .ok (.newarray .int, 2) := by decide +kernel
theorem dX6_init_139 : decode cX6_init 139 = .ok (.putfield 57, 3) := by decide +kernel
theorem dX6_init_142 : decode cX6_init 142 = .ok (.aload_n 0, 1) := by decide +kernel
theorem dX6_init_143 : decode cX6_init 143 = .ok (.sipush 1024, 3) := by decide +kernel
theorem dX6_init_146 : decode cX6_init 146 = .ok (.newarray .int, 2) := by decide +kernel
theorem dX6_init_148 : decode cX6_init 148 = .ok (.putfield 60, 3) := by decide +kernel
theorem dX6_init_151 : decode cX6_init 151 = .ok (.aload_n 0, 1) := by decide +kernel
theorem dX6_init_152 : decode cX6_init 152 = .ok (.sipush 1024, 3) := by decide +kernel
theorem dX6_init_155 : decode cX6_init 155 = .ok (.newarray .int, 2) := by decide +kernel
theorem dX6_init_157 : decode cX6_init 157 = .ok (.putfield 63, 3) := by decide +kernel
theorem dX6_init_160 : decode cX6_init 160 = .ok (.aload_n 0, 1) := by decide +kernel
theorem dX6_init_161 : decode cX6_init 161 = .ok (.bipush 8, 2) := by decide +kernel
theorem dX6_init_163 : decode cX6_init 163 = .ok (.newarray .int, 2) := by decide +kernel
theorem dX6_init_165 : decode cX6_init 165 = .ok (.putfield 66, 3) := by decide +kernel
theorem dX6_init_168 : decode cX6_init 168 = .ok (.aload_n 0, 1) := by decide +kernel
theorem dX6_init_169 : decode cX6_init 169 = .ok (.bipush 8, 2) := by decide +kernel
theorem dX6_init_171 : decode cX6_init 171 = .ok (.newarray .int, 2) := by decide +kernel
theorem dX6_init_173 : decode cX6_init 173 = .ok (.putfield 69, 3) := by decide +kernel
theorem dX6_init_176 : decode cX6_init 176 = .ok (.aload_n 0, 1) := by decide +kernel
theorem dX6_init_177 : decode cX6_init 177 = .ok (.bipush 8, 2) := by decide +kernel
theorem dX6_init_179 : decode cX6_init 179 = .ok (.newarray .int, 2) := by decide +kernel
theorem dX6_init_181 : decode cX6_init 181 = .ok (.putfield 72, 3) := by decide +kernel
theorem dX6_init_184 : decode cX6_init 184 = .ok (.return_, 1) := by decide +kernel
theorem dX6_fails_0 : decode cX6_fails 0 = .ok (.aload_n 0, 1) := by decide +kernel
theorem dX6_fails_1 : decode cX6_fails 1 = .ok (.iload_n 1, 1) := by decide +kernel
theorem dX6_fails_2 : decode cX6_fails 2 = .ok (.putfield 75, 3) := by decide +kernel
theorem dX6_fails_5 : decode cX6_fails 5 = .ok (.bipush (-10), 2) := by decide +kernel
theorem dX6_fails_7 : decode cX6_fails 7 = .ok (.iload_n 1, 1) := by decide +kernel
theorem dX6_fails_8 : decode cX6_fails 8 = .ok (.isub, 1) := by decide +kernel
theorem dX6_fails_9 : decode cX6_fails 9 = .ok (.ireturn, 1) := by decide +kernel
theorem dX6_lost_0 : decode cX6_lost 0 = .ok (.aload_n 0, 1) := by decide +kernel
theorem dX6_lost_1 : decode cX6_lost 1 = .ok (.iload_n 1, 1) := by decide +kernel
theorem dX6_lost_2 : decode cX6_lost 2 = .ok (.putfield 75, 3) := by decide +kernel
theorem dX6_lost_5 : decode cX6_lost 5 = .ok (.ldc2_w 78, 3) := by decide +kernel
theorem dX6_lost_8 : decode cX6_lost 8 = .ok (.lreturn, 1) := by decide +kernel
theorem dX6_within_0 : decode cX6_within 0 = .ok (.iload_n 0, 1) := by decide +kernel
theorem dX6_within_1 : decode cX6_within 1 = .ok (.iload_n 1, 1) := by decide +kernel
theorem dX6_within_2 : decode cX6_within 2 = .ok (.if_icmp .lt 12, 3) := by decide +kernel
theorem dX6_within_5 : decode cX6_within 5 = .ok (.iload_n 0, 1) := by decide +kernel
theorem dX6_within_6 : decode cX6_within 6 = .ok (.iload_n 2, 1) := by decide +kernel
theorem dX6_within_7 : decode cX6_within 7 = .ok (.if_icmp .gt 7, 3) := by decide +kernel
theorem dX6_within_10 : decode cX6_within 10 = .ok (.iconst 1, 1) := by decide +kernel
theorem dX6_within_11 : decode cX6_within 11 = .ok (.goto 4, 3) := by decide +kernel
theorem dX6_within_14 : decode cX6_within 14 = .ok (.iconst 0, 1) := by decide +kernel
theorem dX6_within_15 : decode cX6_within 15 = .ok (.ireturn, 1) := by decide +kernel
theorem dX6_isSheet_0 : decode cX6_isSheet 0 = .ok (.iload_n 0, 1) := by decide +kernel
theorem dX6_isSheet_1 : decode cX6_isSheet 1 = .ok (.iconst 0, 1) := by decide +kernel
theorem dX6_isSheet_2 : decode cX6_isSheet 2 = .ok (.iconst 3, 1) := by decide +kernel
theorem dX6_isSheet_3 : decode cX6_isSheet 3 = .ok (.invokestatic 80, 3) := by decide +kernel
theorem dX6_isSheet_6 : decode cX6_isSheet 6 = .ok (.ireturn, 1) := by decide +kernel
theorem dX6_isSort_0 : decode cX6_isSort 0 = .ok (.iload_n 0, 1) := by decide +kernel
theorem dX6_isSort_1 : decode cX6_isSort 1 = .ok (.iconst 0, 1) := by decide +kernel
theorem dX6_isSort_2 : decode cX6_isSort 2 = .ok (.iconst 2, 1) := by decide +kernel
theorem dX6_isSort_3 : decode cX6_isSort 3 = .ok (.invokestatic 80, 3) := by decide +kernel
theorem dX6_isSort_6 : decode cX6_isSort 6 = .ok (.ireturn, 1) := by decide +kernel
theorem dX6_against_0 : decode cX6_against 0 = .ok (.aload_n 0, 1) := by decide +kernel
theorem dX6_against_1 : decode cX6_against 1 = .ok (.getfield 9, 3) := by decide +kernel
theorem dX6_against_4 : decode cX6_against 4 = .ok (.iload_n 1, 1) := by decide +kernel
theorem dX6_against_5 : decode cX6_against 5 = .ok (.iaload, 1) := by decide +kernel
theorem dX6_against_6 : decode cX6_against 6 = .ok (.bipush (-9), 2) := by decide +kernel
theorem dX6_against_8 : decode cX6_against 8 = .ok (.if_icmp .eq 15, 3) := by decide +kernel
theorem dX6_against_11 : decode cX6_against 11 = .ok (.aload_n 0, 1) := by decide +kernel
theorem dX6_against_12 : decode cX6_against 12 = .ok (.getfield 9, 3) := by decide +kernel
theorem dX6_against_15 : decode cX6_against 15 = .ok (.iload_n 1, 1) := by decide +kernel
theorem dX6_against_16 : decode cX6_against 16 = .ok (.iaload, 1) := by decide +kernel
theorem dX6_against_17 : decode cX6_against 17 = .ok (.iload_n 2, 1) := by decide +kernel
theorem dX6_against_18 : decode cX6_against 18 = .ok (.if_icmp .eq 5, 3) := by decide +kernel
theorem dX6_against_21 : decode cX6_against 21 = .ok (.iconst 2, 1) := by decide +kernel
theorem dX6_against_22 : decode cX6_against 22 = .ok (.ireturn, 1) := by decide +kernel
theorem dX6_against_23 : decode cX6_against 23 = .ok (.aload_n 0, 1) := by decide +kernel
theorem dX6_against_24 : decode cX6_against 24 = .ok (.getfield 9, 3) := by decide +kernel
theorem dX6_against_27 : decode cX6_against 27 = .ok (.iload_n 1, 1) := by decide +kernel
theorem dX6_against_28 : decode cX6_against 28 = .ok (.iaload, 1) := by decide +kernel
theorem dX6_against_29 : decode cX6_against 29 = .ok (.bipush (-9), 2) := by decide +kernel
theorem dX6_against_31 : decode cX6_against 31 = .ok (.if_icmp .ne 5, 3) := by decide +kernel
theorem dX6_against_34 : decode cX6_against 34 = .ok (.iconst 1, 1) := by decide +kernel
theorem dX6_against_35 : decode cX6_against 35 = .ok (.ireturn, 1) := by decide +kernel
theorem dX6_against_36 : decode cX6_against 36 = .ok (.iload 4, 2) := by decide +kernel
theorem dX6_against_38 : decode cX6_against 38 = .ok (.ifCond .ge 5, 3) := by decide +kernel
theorem dX6_against_41 : decode cX6_against 41 = .ok (.iconst 4, 1) := by decide +kernel
theorem dX6_against_42 : decode cX6_against 42 = .ok (.ireturn, 1) := by decide +kernel
theorem dX6_against_43 : decode cX6_against 43 = .ok (.iload_n 3, 1) := by decide +kernel
theorem dX6_against_44 : decode cX6_against 44 = .ok (.ifCond .lt 26, 3) := by decide +kernel
theorem dX6_against_47 : decode cX6_against 47 = .ok (.iload_n 3, 1) := by decide +kernel
theorem dX6_against_48 : decode cX6_against 48 = .ok (.aload_n 0, 1) := by decide +kernel
theorem dX6_against_49 : decode cX6_against 49 = .ok (.getfield 13, 3) := by decide +kernel
theorem dX6_against_52 : decode cX6_against 52 = .ok (.iload_n 1, 1) := by decide +kernel
theorem dX6_against_53 : decode cX6_against 53 = .ok (.iaload, 1) := by decide +kernel
theorem dX6_against_54 : decode cX6_against 54 = .ok (.if_icmp .gt 16, 3) := by decide +kernel
theorem dX6_against_57 : decode cX6_against 57 = .ok (.iload 4, 2) := by decide +kernel
theorem dX6_against_59 : decode cX6_against 59 = .ok (.aload_n 0, 1) := by decide +kernel
theorem dX6_against_60 : decode cX6_against 60 = .ok (.getfield 13, 3) := by decide +kernel
theorem dX6_against_63 : decode cX6_against 63 = .ok (.iload_n 1, 1) := by decide +kernel
theorem dX6_against_64 : decode cX6_against 64 = .ok (.iaload, 1) := by decide +kernel
theorem dX6_against_65 : decode cX6_against 65 = .ok (.iload_n 3, 1) := by decide +kernel
theorem dX6_against_66 : decode cX6_against 66 = .ok (.isub, 1) := by decide +kernel
theorem dX6_against_67 : decode cX6_against 67 = .ok (.if_icmp .le 7, 3) := by decide +kernel
theorem dX6_against_70 : decode cX6_against 70 = .ok (.iconst 3, 1) := by decide +kernel
theorem dX6_against_71 : decode cX6_against 71 = .ok (.goto 4, 3) := by decide +kernel
theorem dX6_against_74 : decode cX6_against 74 = .ok (.iconst 0, 1) := by decide +kernel
theorem dX6_against_75 : decode cX6_against 75 = .ok (.ireturn, 1) := by decide +kernel
theorem dX6_isStage_0 : decode cX6_isStage 0 = .ok (.iload_n 1, 1) := by decide +kernel
theorem dX6_isStage_1 : decode cX6_isStage 1 = .ok (.ifCond .lt 15, 3) := by decide +kernel
theorem dX6_isStage_4 : decode cX6_isStage 4 = .ok (.iload_n 1, 1) := by decide +kernel
theorem dX6_isStage_5 : decode cX6_isStage 5 = .ok (.aload_n 0, 1) := by decide +kernel
theorem dX6_isStage_6 : decode cX6_isStage 6 = .ok (.getfield 84, 3) := by decide +kernel
theorem dX6_isStage_9 : decode cX6_isStage 9 = .ok (.if_icmp .ge 7, 3) := by decide +kernel
theorem dX6_isStage_12 : decode cX6_isStage 12 = .ok (.iconst 1, 1) := by decide +kernel
theorem dX6_isStage_13 : decode cX6_isStage 13 = .ok (.goto 4, 3) := by decide +kernel
theorem dX6_isStage_16 : decode cX6_isStage 16 = .ok (.iconst 0, 1) := by decide +kernel
theorem dX6_isStage_17 : decode cX6_isStage 17 = .ok (.ireturn, 1) := by decide +kernel
theorem dX6_isThing_0 : decode cX6_isThing 0 = .ok (.iload_n 1, 1) := by decide +kernel
theorem dX6_isThing_1 : decode cX6_isThing 1 = .ok (.ifCond .lt 15, 3) := by decide +kernel
theorem dX6_isThing_4 : decode cX6_isThing 4 = .ok (.iload_n 1, 1) := by decide +kernel
theorem dX6_isThing_5 : decode cX6_isThing 5 = .ok (.aload_n 0, 1) := by decide +kernel
theorem dX6_isThing_6 : decode cX6_isThing 6 = .ok (.getfield 87, 3) := by decide +kernel
theorem dX6_isThing_9 : decode cX6_isThing 9 = .ok (.if_icmp .ge 7, 3) := by decide +kernel
theorem dX6_isThing_12 : decode cX6_isThing 12 = .ok (.iconst 1, 1) := by decide +kernel
theorem dX6_isThing_13 : decode cX6_isThing 13 = .ok (.goto 4, 3) := by decide +kernel
theorem dX6_isThing_16 : decode cX6_isThing 16 = .ok (.iconst 0, 1) := by decide +kernel
theorem dX6_isThing_17 : decode cX6_isThing 17 = .ok (.ireturn, 1) := by decide +kernel
theorem dX6_isSpot_0 : decode cX6_isSpot 0 = .ok (.aload_n 0, 1) := by decide +kernel
theorem dX6_isSpot_1 : decode cX6_isSpot 1 = .ok (.getfield 84, 3) := by decide +kernel
theorem dX6_isSpot_4 : decode cX6_isSpot 4 = .ok (.ifCond .le 19, 3) := by decide +kernel
theorem dX6_isSpot_7 : decode cX6_isSpot 7 = .ok (.iload_n 1, 1) := by decide +kernel
theorem dX6_isSpot_8 : decode cX6_isSpot 8 = .ok (.iconst 0, 1) := by decide +kernel
theorem dX6_isSpot_9 : decode cX6_isSpot 9 = .ok (.aload_n 0, 1) := by decide +kernel
theorem dX6_isSpot_10 : decode cX6_isSpot 10 = .ok (.getfield 84, 3) := by decide +kernel
theorem dX6_isSpot_13 : decode cX6_isSpot 13 = .ok (.invokestatic 80, 3) := by decide +kernel
theorem dX6_isSpot_16 : decode cX6_isSpot 16 = .ok (.ifCond .eq 7, 3) := by decide +kernel
theorem dX6_isSpot_19 : decode cX6_isSpot 19 = .ok (.iconst 1, 1) := by decide +kernel
theorem dX6_isSpot_20 : decode cX6_isSpot 20 = .ok (.goto 4, 3) := by decide +kernel
theorem dX6_isSpot_23 : decode cX6_isSpot 23 = .ok (.iconst 0, 1) := by decide +kernel
theorem dX6_isSpot_24 : decode cX6_isSpot 24 = .ok (.ireturn, 1) := by decide +kernel
theorem dX6_allThings_0 : decode cX6_allThings 0 = .ok (.iconst 1, 1) := by decide +kernel
theorem dX6_allThings_1 : decode cX6_allThings 1 = .ok (.aload_n 0, 1) := by decide +kernel
theorem dX6_allThings_2 : decode cX6_allThings 2 = .ok (.getfield 87, 3) := by decide +kernel
theorem dX6_allThings_5 : decode cX6_allThings 5 = .ok (.ishl, 1) := by decide +kernel
theorem dX6_allThings_6 : decode cX6_allThings 6 = .ok (.iconst 1, 1) := by decide +kernel
theorem dX6_allThings_7 : decode cX6_allThings 7 = .ok (.isub, 1) := by decide +kernel
theorem dX6_allThings_8 : decode cX6_allThings 8 = .ok (.ireturn, 1) := by decide +kernel
theorem dX6_digit_0 : decode cX6_digit 0 = .ok (.aload_n 0, 1) := by decide +kernel
theorem dX6_digit_1 : decode cX6_digit 1 = .ok (.getfield 90, 3) := by decide +kernel
theorem dX6_digit_4 : decode cX6_digit 4 = .ok (.iload_n 1, 1) := by decide +kernel
theorem dX6_digit_5 : decode cX6_digit 5 = .ok (.if_icmp .ge 26, 3) := by decide +kernel
theorem dX6_digit_8 : decode cX6_digit 8 = .ok (.aload_n 0, 1) := by decide +kernel
theorem dX6_digit_9 : decode cX6_digit 9 = .ok (.getfield 16, 3) := by decide +kernel
theorem dX6_digit_12 : decode cX6_digit 12 = .ok (.aload_n 0, 1) := by decide +kernel
theorem dX6_digit_13 : decode cX6_digit 13 = .ok (.getfield 90, 3) := by decide +kernel
theorem dX6_digit_16 : decode cX6_digit 16 = .ok (.iaload, 1) := by decide +kernel
theorem dX6_digit_17 : decode cX6_digit 17 = .ok (.bipush 48, 2) := by decide +kernel
theorem dX6_digit_19 : decode cX6_digit 19 = .ok (.iload_n 2, 1) := by decide +kernel
theorem dX6_digit_20 : decode cX6_digit 20 = .ok (.iadd, 1) := by decide +kernel
theorem dX6_digit_21 : decode cX6_digit 21 = .ok (.bipush 48, 2) := by decide +kernel
theorem dX6_digit_23 : decode cX6_digit 23 = .ok (.iload_n 3, 1) := by decide +kernel
theorem dX6_digit_24 : decode cX6_digit 24 = .ok (.iadd, 1) := by decide +kernel
theorem dX6_digit_25 : decode cX6_digit 25 = .ok (.invokestatic 80, 3) := by decide +kernel
theorem dX6_digit_28 : decode cX6_digit 28 = .ok (.ifCond .ne 6, 3) := by decide +kernel
theorem dX6_digit_31 : decode cX6_digit 31 = .ok (.bipush (-9), 2) := by decide +kernel
theorem dX6_digit_33 : decode cX6_digit 33 = .ok (.ireturn, 1) := by decide +kernel
theorem dX6_digit_34 : decode cX6_digit 34 = .ok (.aload_n 0, 1) := by decide +kernel
theorem dX6_digit_35 : decode cX6_digit 35 = .ok (.dup, 1) := by decide +kernel
theorem dX6_digit_36 : decode cX6_digit 36 = .ok (.getfield 90, 3) := by decide +kernel
theorem dX6_digit_39 : decode cX6_digit 39 = .ok (.iconst 1, 1) := by decide +kernel
theorem dX6_digit_40 : decode cX6_digit 40 = .ok (.iadd, 1) := by decide +kernel
theorem dX6_digit_41 : decode cX6_digit 41 = .ok (.putfield 90, 3) := by decide +kernel
theorem dX6_digit_44 : decode cX6_digit 44 = .ok (.aload_n 0, 1) := by decide +kernel
theorem dX6_digit_45 : decode cX6_digit 45 = .ok (.getfield 16, 3) := by decide +kernel
theorem dX6_digit_48 : decode cX6_digit 48 = .ok (.aload_n 0, 1) := by decide +kernel
theorem dX6_digit_49 : decode cX6_digit 49 = .ok (.getfield 90, 3) := by decide +kernel
theorem dX6_digit_52 : decode cX6_digit 52 = .ok (.iconst 1, 1) := by decide +kernel
theorem dX6_digit_53 : decode cX6_digit 53 = .ok (.isub, 1) := by decide +kernel
theorem dX6_digit_54 : decode cX6_digit 54 = .ok (.iaload, 1) := by decide +kernel
theorem dX6_digit_55 : decode cX6_digit 55 = .ok (.bipush 48, 2) := by decide +kernel
theorem dX6_digit_57 : decode cX6_digit 57 = .ok (.isub, 1) := by decide +kernel
theorem dX6_digit_58 : decode cX6_digit 58 = .ok (.ireturn, 1) := by decide +kernel
theorem dX6_isSign_0 : decode cX6_isSign 0 = .ok (.aload_n 0, 1) := by decide +kernel
theorem dX6_isSign_1 : decode cX6_isSign 1 = .ok (.getfield 90, 3) := by decide +kernel
theorem dX6_isSign_4 : decode cX6_isSign 4 = .ok (.iload_n 1, 1) := by decide +kernel
theorem dX6_isSign_5 : decode cX6_isSign 5 = .ok (.if_icmp .ge 16, 3) := by decide +kernel
theorem dX6_isSign_8 : decode cX6_isSign 8 = .ok (.aload_n 0, 1) := by decide +kernel
theorem dX6_isSign_9 : decode cX6_isSign 9 = .ok (.getfield 16, 3) := by decide +kernel
theorem dX6_isSign_12 : decode cX6_isSign 12 = .ok (.aload_n 0, 1) := by decide +kernel
theorem dX6_isSign_13 : decode cX6_isSign 13 = .ok (.getfield 90, 3) := by decide +kernel
theorem dX6_isSign_16 : decode cX6_isSign 16 = .ok (.iaload, 1) := by decide +kernel
theorem dX6_isSign_17 : decode cX6_isSign 17 = .ok (.iload_n 2, 1) := by decide +kernel
theorem dX6_isSign_18 : decode cX6_isSign 18 = .ok (.if_icmp .eq 5, 3) := by decide +kernel
theorem dX6_isSign_21 : decode cX6_isSign 21 = .ok (.iconst 0, 1) := by decide +kernel
theorem dX6_isSign_22 : decode cX6_isSign 22 = .ok (.ireturn, 1) := by decide +kernel
theorem dX6_isSign_23 : decode cX6_isSign 23 = .ok (.aload_n 0, 1) := by decide +kernel
theorem dX6_isSign_24 : decode cX6_isSign 24 = .ok (.dup, 1) := by decide +kernel
theorem dX6_isSign_25 : decode cX6_isSign 25 = .ok (.getfield 90, 3) := by decide +kernel
theorem dX6_isSign_28 : decode cX6_isSign 28 = .ok (.iconst 1, 1) := by decide +kernel
theorem dX6_isSign_29 : decode cX6_isSign 29 = .ok (.iadd, 1) := by decide +kernel
theorem dX6_isSign_30 : decode cX6_isSign 30 = .ok (.putfield 90, 3) := by decide +kernel
theorem dX6_isSign_33 : decode cX6_isSign 33 = .ok (.iconst 1, 1) := by decide +kernel
theorem dX6_isSign_34 : decode cX6_isSign 34 = .ok (.ireturn, 1) := by decide +kernel
theorem dX6_portage_0 : decode cX6_portage 0 = .ok (.aload_n 0, 1) := by decide +kernel
theorem dX6_portage_1 : decode cX6_portage 1 = .ok (.iconst 0, 1) := by decide +kernel
theorem dX6_portage_2 : decode cX6_portage 2 = .ok (.putfield 75, 3) := by decide +kernel
theorem dX6_portage_5 : decode cX6_portage 5 = .ok (.iload_n 1, 1) := by decide +kernel
theorem dX6_portage_6 : decode cX6_portage 6 = .ok (.invokestatic 93, 3) := by decide +kernel
theorem dX6_portage_9 : decode cX6_portage 9 = .ok (.ifCond .ne 5, 3) := by decide +kernel
theorem dX6_portage_12 : decode cX6_portage 12 = .ok (.iconst (-1), 1) := by decide +kernel
theorem dX6_portage_13 : decode cX6_portage 13 = .ok (.ireturn, 1) := by decide +kernel
theorem dX6_portage_14 : decode cX6_portage 14 = .ok (.iload_n 2, 1) := by decide +kernel
theorem dX6_portage_15 : decode cX6_portage 15 = .ok (.invokestatic 97, 3) := by decide +kernel
theorem dX6_portage_18 : decode cX6_portage 18 = .ok (.ifCond .ne 6, 3) := by decide +kernel
theorem dX6_portage_21 : decode cX6_portage 21 = .ok (.bipush (-2), 2) := by decide +kernel
theorem dX6_portage_23 : decode cX6_portage 23 = .ok (.ireturn, 1) := by decide +kernel
theorem dX6_portage_24 : decode cX6_portage 24 = .ok (.aload_n 0, 1) := by decide +kernel
theorem dX6_portage_25 : decode cX6_portage 25 = .ok (.iload_n 1, 1) := by decide +kernel
theorem dX6_portage_26 : decode cX6_portage 26 = .ok (.iload_n 2, 1) := by decide +kernel
theorem dX6_portage_27 : decode cX6_portage 27 = .ok (.iload_n 3, 1) := by decide +kernel
theorem dX6_portage_28 : decode cX6_portage 28 = .ok (.iload 4, 2) := by decide +kernel
theorem dX6_portage_30 : decode cX6_portage 30 = .ok (.invokevirtual 100, 3) := by decide +kernel
theorem dX6_portage_33 : decode cX6_portage 33 = .ok (.istore 5, 2) := by decide +kernel
theorem dX6_portage_35 : decode cX6_portage 35 = .ok (.iload 5, 2) := by decide +kernel
theorem dX6_portage_37 : decode cX6_portage 37 = .ok (.ifCond .eq 10, 3) := by decide +kernel
theorem dX6_portage_40 : decode cX6_portage 40 = .ok (.aload_n 0, 1) := by decide +kernel
theorem dX6_portage_41 : decode cX6_portage 41 = .ok (.iload 5, 2) := by decide +kernel
theorem dX6_portage_43 : decode cX6_portage 43 = .ok (.invokevirtual 104, 3) := by decide +kernel
theorem dX6_portage_46 : decode cX6_portage 46 = .ok (.ireturn, 1) := by decide +kernel
theorem dX6_portage_47 : decode cX6_portage 47 = .ok (.bipush 60, 2) := by decide +kernel
theorem dX6_portage_49 : decode cX6_portage 49 = .ok (.iload_n 1, 1) := by decide +kernel
theorem dX6_portage_50 : decode cX6_portage 50 = .ok (.imul, 1) := by decide +kernel
theorem dX6_portage_51 : decode cX6_portage 51 = .ok (.iload_n 3, 1) := by decide +kernel
theorem dX6_portage_52 : decode cX6_portage 52 = .ok (.iadd, 1) := by decide +kernel
theorem dX6_portage_53 : decode cX6_portage 53 = .ok (.istore 6, 2) := by decide +kernel
theorem dX6_portage_55 : decode cX6_portage 55 = .ok (.aload_n 0, 1) := by decide +kernel
theorem dX6_portage_56 : decode cX6_portage 56 = .ok (.iload 6, 2) := by decide +kernel
theorem dX6_portage_58 : decode cX6_portage 58 = .ok (.putfield 90, 3) := by decide +kernel
theorem dX6_portage_61 : decode cX6_portage 61 = .ok (.aload_n 0, 1) := by decide +kernel
theorem dX6_portage_62 : decode cX6_portage 62 = .ok (.iload 6, 2) := by decide +kernel
theorem dX6_portage_64 : decode cX6_portage 64 = .ok (.iload 4, 2) := by decide +kernel
theorem dX6_portage_66 : decode cX6_portage 66 = .ok (.iadd, 1) := by decide +kernel
theorem dX6_portage_67 : decode cX6_portage 67 = .ok (.invokevirtual 108, 3) := by decide +kernel
theorem dX6_portage_70 : decode cX6_portage 70 = .ok (.ifCond .ne 14, 3) := by decide +kernel
theorem dX6_portage_73 : decode cX6_portage 73 = .ok (.bipush (-100), 2) := by decide +kernel
theorem dX6_portage_75 : decode cX6_portage 75 = .ok (.aload_n 0, 1) := by decide +kernel
theorem dX6_portage_76 : decode cX6_portage 76 = .ok (.getfield 90, 3) := by decide +kernel
theorem dX6_portage_79 : decode cX6_portage 79 = .ok (.iload 6, 2) := by decide +kernel
theorem dX6_portage_81 : decode cX6_portage 81 = .ok (.isub, 1) := by decide +kernel
theorem dX6_portage_82 : decode cX6_portage 82 = .ok (.isub, 1) := by decide +kernel
theorem dX6_portage_83 : decode cX6_portage 83 = .ok (.ireturn, 1) := by decide +kernel
theorem dX6_portage_84 : decode cX6_portage 84 = .ok (.aload_n 0, 1) := by decide +kernel
theorem dX6_portage_85 : decode cX6_portage 85 = .ok (.aload_n 0, 1) := by decide +kernel
theorem dX6_portage_86 : decode cX6_portage 86 = .ok (.getfield 111, 3) := by decide +kernel
theorem dX6_portage_89 : decode cX6_portage 89 = .ok (.putfield 114, 3) := by decide +kernel
theorem dX6_portage_92 : decode cX6_portage 92 = .ok (.aload_n 0, 1) := by decide +kernel
theorem dX6_portage_93 : decode cX6_portage 93 = .ok (.aload_n 0, 1) := by decide +kernel
theorem dX6_portage_94 : decode cX6_portage 94 = .ok (.getfield 117, 3) := by decide +kernel
theorem dX6_portage_97 : decode cX6_portage 97 = .ok (.putfield 84, 3) := by decide +kernel
theorem dX6_portage_100 : decode cX6_portage 100 = .ok (.aload_n 0, 1) := by decide +kernel
theorem dX6_portage_101 : decode cX6_portage 101 = .ok (.aload_n 0, 1) := by decide +kernel
theorem dX6_portage_102 : decode cX6_portage 102 = .ok (.getfield 120, 3) := by decide +kernel
theorem dX6_portage_105 : decode cX6_portage 105 = .ok (.putfield 87, 3) := by decide +kernel
theorem dX6_portage_108 : decode cX6_portage 108 = .ok (.aload_n 0, 1) := by decide +kernel
theorem dX6_portage_109 : decode cX6_portage 109 = .ok (.bipush (-9), 2) := by decide +kernel
theorem dX6_portage_111 : decode cX6_portage 111 = .ok (.putfield 19, 3) := by decide +kernel
theorem dX6_portage_114 : decode cX6_portage 114 = .ok (.iconst 0, 1) := by decide +kernel
theorem dX6_portage_115 : decode cX6_portage 115 = .ok (.istore 7, 2) := by decide +kernel
theorem dX6_portage_117 : decode cX6_portage 117 = .ok (.iload 7, 2) := by decide +kernel
theorem dX6_portage_119 : decode cX6_portage 119 = .ok (.aload_n 0, 1) := by decide +kernel
theorem dX6_portage_120 : decode cX6_portage 120 = .ok (.getfield 84, 3) := by decide +kernel
theorem dX6_portage_123 : decode cX6_portage 123 = .ok (.if_icmp .ge 51, 3) := by decide +kernel
theorem dX6_portage_126 : decode cX6_portage 126 = .ok (.aload_n 0, 1) := by decide +kernel
theorem dX6_portage_127 : decode cX6_portage 127 = .ok (.getfield 23, 3) := by decide +kernel
theorem dX6_portage_130 : decode cX6_portage 130 = .ok (.iload 7, 2) := by decide +kernel
theorem dX6_portage_132 : decode cX6_portage 132 = .ok (.aload_n 0, 1) := by decide +kernel
theorem dX6_portage_133 : decode cX6_portage 133 = .ok (.getfield 42, 3) := by decide +kernel
theorem dX6_portage_136 : decode cX6_portage 136 = .ok (.iconst 2, 1) := by decide +kernel
theorem dX6_portage_137 : decode cX6_portage 137 = .ok (.iload 7, 2) := by decide +kernel
theorem dX6_portage_139 : decode cX6_portage 139 = .ok (.imul, 1) := by decide +kernel
theorem dX6_portage_140 : decode cX6_portage 140 = .ok (.iaload, 1) := by decide +kernel
theorem dX6_portage_141 : decode cX6_portage 141 = .ok (.iastore, 1) := by decide +kernel
theorem dX6_portage_142 : decode cX6_portage 142 = .ok (.aload_n 0, 1) := by decide +kernel
theorem dX6_portage_143 : decode cX6_portage 143 = .ok (.getfield 26, 3) := by decide +kernel
theorem dX6_portage_146 : decode cX6_portage 146 = .ok (.iload 7, 2) := by decide +kernel
theorem dX6_portage_148 : decode cX6_portage 148 = .ok (.aload_n 0, 1) := by decide +kernel
theorem dX6_portage_149 : decode cX6_portage 149 = .ok (.getfield 42, 3) := by decide +kernel
theorem dX6_portage_152 : decode cX6_portage 152 = .ok (.iconst 2, 1) := by decide +kernel
theorem dX6_portage_153 : decode cX6_portage 153 = .ok (.iload 7, 2) := by decide +kernel
theorem dX6_portage_155 : decode cX6_portage 155 = .ok (.imul, 1) := by decide +kernel
theorem dX6_portage_156 : decode cX6_portage 156 = .ok (.iconst 1, 1) := by decide +kernel
theorem dX6_portage_157 : decode cX6_portage 157 = .ok (.iadd, 1) := by decide +kernel
theorem dX6_portage_158 : decode cX6_portage 158 = .ok (.iaload, 1) := by decide +kernel
theorem dX6_portage_159 : decode cX6_portage 159 = .ok (.iastore, 1) := by decide +kernel
theorem dX6_portage_160 : decode cX6_portage 160 = .ok (.aload_n 0, 1) := by decide +kernel
theorem dX6_portage_161 : decode cX6_portage 161 = .ok (.getfield 29, 3) := by decide +kernel
theorem dX6_portage_164 : decode cX6_portage 164 = .ok (.iload 7, 2) := by decide +kernel
theorem dX6_portage_166 : decode cX6_portage 166 = .ok (.iconst 0, 1) := by decide +kernel
theorem dX6_portage_167 : decode cX6_portage 167 = .ok (.bastore, 1) := by decide +kernel
theorem dX6_portage_168 : decode cX6_portage 168 = .ok (.iinc 7 1, 3) := by decide +kernel
theorem dX6_portage_171 : decode cX6_portage 171 = .ok (.goto (-54), 3) := by decide +kernel
theorem dX6_portage_174 : decode cX6_portage 174 = .ok (.iconst 0, 1) := by decide +kernel
theorem dX6_portage_175 : decode cX6_portage 175 = .ok (.istore 7, 2) := by decide +kernel
theorem dX6_portage_177 : decode cX6_portage 177 = .ok (.iload 7, 2) := by decide +kernel
theorem dX6_portage_179 : decode cX6_portage 179 = .ok (.aload_n 0, 1) := by decide +kernel
theorem dX6_portage_180 : decode cX6_portage 180 = .ok (.getfield 87, 3) := by decide +kernel
theorem dX6_portage_183 : decode cX6_portage 183 = .ok (.if_icmp .ge 43, 3) := by decide +kernel
theorem dX6_portage_186 : decode cX6_portage 186 = .ok (.aload_n 0, 1) := by decide +kernel
theorem dX6_portage_187 : decode cX6_portage 187 = .ok (.getfield 33, 3) := by decide +kernel
theorem dX6_portage_190 : decode cX6_portage 190 = .ok (.iload 7, 2) := by decide +kernel
theorem dX6_portage_192 : decode cX6_portage 192 = .ok (.aload_n 0, 1) := by decide +kernel
theorem dX6_portage_193 : decode cX6_portage 193 = .ok (.getfield 45, 3) := by decide +kernel
theorem dX6_portage_196 : decode cX6_portage 196 = .ok (.iconst 2, 1) := by decide +kernel
theorem dX6_portage_197 : decode cX6_portage 197 = .ok (.iload 7, 2) := by decide +kernel
theorem dX6_portage_199 : decode cX6_portage 199 = .ok (.imul, 1) := by decide +kernel
theorem dX6_portage_200 : decode cX6_portage 200 = .ok (.iaload, 1) := by decide +kernel
theorem dX6_portage_201 : decode cX6_portage 201 = .ok (.iastore, 1) := by decide +kernel
theorem dX6_portage_202 : decode cX6_portage 202 = .ok (.aload_n 0, 1) := by decide +kernel
theorem dX6_portage_203 : decode cX6_portage 203 = .ok (.getfield 36, 3) := by decide +kernel
theorem dX6_portage_206 : decode cX6_portage 206 = .ok (.iload 7, 2) := by decide +kernel
theorem dX6_portage_208 : decode cX6_portage 208 = .ok (.aload_n 0, 1) := by decide +kernel
theorem dX6_portage_209 : decode cX6_portage 209 = .ok (.getfield 45, 3) := by decide +kernel
theorem dX6_portage_212 : decode cX6_portage 212 = .ok (.iconst 2, 1) := by decide +kernel
theorem dX6_portage_213 : decode cX6_portage 213 = .ok (.iload 7, 2) := by decide +kernel
theorem dX6_portage_215 : decode cX6_portage 215 = .ok (.imul, 1) := by decide +kernel
theorem dX6_portage_216 : decode cX6_portage 216 = .ok (.iconst 1, 1) := by decide +kernel
theorem dX6_portage_217 : decode cX6_portage 217 = .ok (.iadd, 1) := by decide +kernel
theorem dX6_portage_218 : decode cX6_portage 218 = .ok (.iaload, 1) := by decide +kernel
theorem dX6_portage_219 : decode cX6_portage 219 = .ok (.iastore, 1) := by decide +kernel
theorem dX6_portage_220 : decode cX6_portage 220 = .ok (.iinc 7 1, 3) := by decide +kernel
theorem dX6_portage_223 : decode cX6_portage 223 = .ok (.goto (-46), 3) := by decide +kernel
theorem dX6_portage_226 : decode cX6_portage 226 = .ok (.aload_n 0, 1) := by decide +kernel
theorem dX6_portage_227 : decode cX6_portage 227 = .ok (.iconst 0, 1) := by decide +kernel
theorem dX6_portage_228 : decode cX6_portage 228 = .ok (.putfield 123, 3) := by decide +kernel
theorem dX6_portage_231 : decode cX6_portage 231 = .ok (.aload_n 0, 1) := by decide +kernel
theorem dX6_portage_232 : decode cX6_portage 232 = .ok (.getfield 87, 3) := by decide +kernel
theorem dX6_portage_235 : decode cX6_portage 235 = .ok (.ireturn, 1) := by decide +kernel
theorem dX6_readAll_0 : decode cX6_readAll 0 = .ok (.aload_n 0, 1) := by decide +kernel
theorem dX6_readAll_1 : decode cX6_readAll 1 = .ok (.iconst 0, 1) := by decide +kernel
theorem dX6_readAll_2 : decode cX6_readAll 2 = .ok (.putfield 117, 3) := by decide +kernel
theorem dX6_readAll_5 : decode cX6_readAll 5 = .ok (.aload_n 0, 1) := by decide +kernel
theorem dX6_readAll_6 : decode cX6_readAll 6 = .ok (.iconst 0, 1) := by decide +kernel
theorem dX6_readAll_7 : decode cX6_readAll 7 = .ok (.putfield 120, 3) := by decide +kernel
theorem dX6_readAll_10 : decode cX6_readAll 10 = .ok (.aload_n 0, 1) := by decide +kernel
theorem dX6_readAll_11 : decode cX6_readAll 11 = .ok (.iload_n 1, 1) := by decide +kernel
theorem dX6_readAll_12 : decode cX6_readAll 12 = .ok (.bipush 103, 2) := by decide +kernel
theorem dX6_readAll_14 : decode cX6_readAll 14 = .ok (.invokevirtual 126, 3) := by decide +kernel
theorem dX6_readAll_17 : decode cX6_readAll 17 = .ok (.ifCond .ne 5, 3) := by decide +kernel
theorem dX6_readAll_20 : decode cX6_readAll 20 = .ok (.iconst 0, 1) := by decide +kernel
theorem dX6_readAll_21 : decode cX6_readAll 21 = .ok (.ireturn, 1) := by decide +kernel
theorem dX6_readAll_22 : decode cX6_readAll 22 = .ok (.aload_n 0, 1) := by decide +kernel
theorem dX6_readAll_23 : decode cX6_readAll 23 = .ok (.aload_n 0, 1) := by decide +kernel
theorem dX6_readAll_24 : decode cX6_readAll 24 = .ok (.iload_n 1, 1) := by decide +kernel
theorem dX6_readAll_25 : decode cX6_readAll 25 = .ok (.iconst 1, 1) := by decide +kernel
theorem dX6_readAll_26 : decode cX6_readAll 26 = .ok (.bipush 9, 2) := by decide +kernel
theorem dX6_readAll_28 : decode cX6_readAll 28 = .ok (.invokevirtual 130, 3) := by decide +kernel
theorem dX6_readAll_31 : decode cX6_readAll 31 = .ok (.putfield 111, 3) := by decide +kernel
theorem dX6_readAll_34 : decode cX6_readAll 34 = .ok (.aload_n 0, 1) := by decide +kernel
theorem dX6_readAll_35 : decode cX6_readAll 35 = .ok (.getfield 111, 3) := by decide +kernel
theorem dX6_readAll_38 : decode cX6_readAll 38 = .ok (.bipush (-9), 2) := by decide +kernel
theorem dX6_readAll_40 : decode cX6_readAll 40 = .ok (.if_icmp .eq 21, 3) := by decide +kernel
theorem dX6_readAll_43 : decode cX6_readAll 43 = .ok (.aload_n 0, 1) := by decide +kernel
theorem dX6_readAll_44 : decode cX6_readAll 44 = .ok (.iload_n 1, 1) := by decide +kernel
theorem dX6_readAll_45 : decode cX6_readAll 45 = .ok (.bipush 59, 2) := by decide +kernel
theorem dX6_readAll_47 : decode cX6_readAll 47 = .ok (.invokevirtual 126, 3) := by decide +kernel
theorem dX6_readAll_50 : decode cX6_readAll 50 = .ok (.ifCond .eq 11, 3) := by decide +kernel
theorem dX6_readAll_53 : decode cX6_readAll 53 = .ok (.aload_n 0, 1) := by decide +kernel
theorem dX6_readAll_54 : decode cX6_readAll 54 = .ok (.iload_n 1, 1) := by decide +kernel
theorem dX6_readAll_55 : decode cX6_readAll 55 = .ok (.invokevirtual 134, 3) := by decide +kernel
theorem dX6_readAll_58 : decode cX6_readAll 58 = .ok (.ifCond .ne 5, 3) := by decide +kernel
theorem dX6_readAll_61 : decode cX6_readAll 61 = .ok (.iconst 0, 1) := by decide +kernel
theorem dX6_readAll_62 : decode cX6_readAll 62 = .ok (.ireturn, 1) := by decide +kernel
theorem dX6_readAll_63 : decode cX6_readAll 63 = .ok (.aload_n 0, 1) := by decide +kernel
theorem dX6_readAll_64 : decode cX6_readAll 64 = .ok (.getfield 117, 3) := by decide +kernel
theorem dX6_readAll_67 : decode cX6_readAll 67 = .ok (.iconst 3, 1) := by decide +kernel
theorem dX6_readAll_68 : decode cX6_readAll 68 = .ok (.if_icmp .ge 23, 3) := by decide +kernel
theorem dX6_readAll_71 : decode cX6_readAll 71 = .ok (.aload_n 0, 1) := by decide +kernel
theorem dX6_readAll_72 : decode cX6_readAll 72 = .ok (.iload_n 1, 1) := by decide +kernel
theorem dX6_readAll_73 : decode cX6_readAll 73 = .ok (.bipush 59, 2) := by decide +kernel
theorem dX6_readAll_75 : decode cX6_readAll 75 = .ok (.invokevirtual 126, 3) := by decide +kernel
theorem dX6_readAll_78 : decode cX6_readAll 78 = .ok (.ifCond .eq 13, 3) := by decide +kernel
theorem dX6_readAll_81 : decode cX6_readAll 81 = .ok (.aload_n 0, 1) := by decide +kernel
theorem dX6_readAll_82 : decode cX6_readAll 82 = .ok (.iload_n 1, 1) := by decide +kernel
theorem dX6_readAll_83 : decode cX6_readAll 83 = .ok (.invokevirtual 134, 3) := by decide +kernel
theorem dX6_readAll_86 : decode cX6_readAll 86 = .ok (.ifCond .ne (-23), 3) := by decide +kernel
theorem dX6_readAll_89 : decode cX6_readAll 89 = .ok (.iconst 0, 1) := by decide +kernel
theorem dX6_readAll_90 : decode cX6_readAll 90 = .ok (.ireturn, 1) := by decide +kernel
theorem dX6_readAll_91 : decode cX6_readAll 91 = .ok (.aload_n 0, 1) := by decide +kernel
theorem dX6_readAll_92 : decode cX6_readAll 92 = .ok (.iload_n 1, 1) := by decide +kernel
theorem dX6_readAll_93 : decode cX6_readAll 93 = .ok (.bipush 44, 2) := by decide +kernel
theorem dX6_readAll_95 : decode cX6_readAll 95 = .ok (.invokevirtual 126, 3) := by decide +kernel
theorem dX6_readAll_98 : decode cX6_readAll 98 = .ok (.ifCond .eq 11, 3) := by decide +kernel
theorem dX6_readAll_101 : decode cX6_readAll 101 = .ok (.aload_n 0, 1) := by decide +kernel
theorem dX6_readAll_102 : decode cX6_readAll 102 = .ok (.iload_n 1, 1) := by decide +kernel
theorem dX6_readAll_103 : decode cX6_readAll 103 = .ok (.invokevirtual 137, 3) := by decide +kernel
theorem dX6_readAll_106 : decode cX6_readAll 106 = .ok (.ifCond .ne 5, 3) := by decide +kernel
theorem dX6_readAll_109 : decode cX6_readAll 109 = .ok (.iconst 0, 1) := by decide +kernel
theorem dX6_readAll_110 : decode cX6_readAll 110 = .ok (.ireturn, 1) := by decide +kernel
theorem dX6_readAll_111 : decode cX6_readAll 111 = .ok (.aload_n 0, 1) := by decide +kernel
theorem dX6_readAll_112 : decode cX6_readAll 112 = .ok (.getfield 120, 3) := by decide +kernel
theorem dX6_readAll_115 : decode cX6_readAll 115 = .ok (.iconst 4, 1) := by decide +kernel
theorem dX6_readAll_116 : decode cX6_readAll 116 = .ok (.if_icmp .ge 23, 3) := by decide +kernel
theorem dX6_readAll_119 : decode cX6_readAll 119 = .ok (.aload_n 0, 1) := by decide +kernel
theorem dX6_readAll_120 : decode cX6_readAll 120 = .ok (.iload_n 1, 1) := by decide +kernel
theorem dX6_readAll_121 : decode cX6_readAll 121 = .ok (.bipush 44, 2) := by decide +kernel
theorem dX6_readAll_123 : decode cX6_readAll 123 = .ok (.invokevirtual 126, 3) := by decide +kernel
theorem dX6_readAll_126 : decode cX6_readAll 126 = .ok (.ifCond .eq 13, 3) := by decide +kernel
theorem dX6_readAll_129 : decode cX6_readAll 129 = .ok (.aload_n 0, 1) := by decide +kernel
theorem dX6_readAll_130 : decode cX6_readAll 130 = .ok (.iload_n 1, 1) := by decide +kernel
theorem dX6_readAll_131 : decode cX6_readAll 131 = .ok (.invokevirtual 137, 3) := by decide +kernel
theorem dX6_readAll_134 : decode cX6_readAll 134 = .ok (.ifCond .ne (-23), 3) := by decide +kernel
theorem dX6_readAll_137 : decode cX6_readAll 137 = .ok (.iconst 0, 1) := by decide +kernel
theorem dX6_readAll_138 : decode cX6_readAll 138 = .ok (.ireturn, 1) := by decide +kernel
theorem dX6_readAll_139 : decode cX6_readAll 139 = .ok (.aload_n 0, 1) := by decide +kernel
theorem dX6_readAll_140 : decode cX6_readAll 140 = .ok (.getfield 90, 3) := by decide +kernel
theorem dX6_readAll_143 : decode cX6_readAll 143 = .ok (.iload_n 1, 1) := by decide +kernel
theorem dX6_readAll_144 : decode cX6_readAll 144 = .ok (.if_icmp .ne 7, 3) := by decide +kernel
theorem dX6_readAll_147 : decode cX6_readAll 147 = .ok (.iconst 1, 1) := by decide +kernel
theorem dX6_readAll_148 : decode cX6_readAll 148 = .ok (.goto 4, 3) := by decide +kernel
theorem dX6_readAll_151 : decode cX6_readAll 151 = .ok (.iconst 0, 1) := by decide +kernel
theorem dX6_readAll_152 : decode cX6_readAll 152 = .ok (.ireturn, 1) := by decide +kernel
theorem dX6_readOneStage_0 : decode cX6_readOneStage 0 = .ok (.iconst 2, 1) := by decide +kernel
theorem dX6_readOneStage_1 : decode cX6_readOneStage 1 = .ok (.aload_n 0, 1) := by decide +kernel
theorem dX6_readOneStage_2 : decode cX6_readOneStage 2 = .ok (.getfield 117, 3) := by decide +kernel
theorem dX6_readOneStage_5 : decode cX6_readOneStage 5 = .ok (.imul, 1) := by decide +kernel
theorem dX6_readOneStage_6 : decode cX6_readOneStage 6 = .ok (.istore_n 2, 1) := by decide +kernel
theorem dX6_readOneStage_7 : decode cX6_readOneStage 7 = .ok (.aload_n 0, 1) := by decide +kernel
theorem dX6_readOneStage_8 : decode cX6_readOneStage 8 = .ok (.getfield 42, 3) := by decide +kernel
theorem dX6_readOneStage_11 : decode cX6_readOneStage 11 = .ok (.iload_n 2, 1) := by decide +kernel
theorem dX6_readOneStage_12 : decode cX6_readOneStage 12 = .ok (.aload_n 0, 1) := by decide +kernel
theorem dX6_readOneStage_13 : decode cX6_readOneStage 13 = .ok (.iload_n 1, 1) := by decide +kernel
theorem dX6_readOneStage_14 : decode cX6_readOneStage 14 = .ok (.iconst 1, 1) := by decide +kernel
theorem dX6_readOneStage_15 : decode cX6_readOneStage 15 = .ok (.bipush 9, 2) := by decide +kernel
theorem dX6_readOneStage_17 : decode cX6_readOneStage 17 = .ok (.invokevirtual 130, 3) := by decide +kernel
theorem dX6_readOneStage_20 : decode cX6_readOneStage 20 = .ok (.iastore, 1) := by decide +kernel
theorem dX6_readOneStage_21 : decode cX6_readOneStage 21 = .ok (.aload_n 0, 1) := by decide +kernel
theorem dX6_readOneStage_22 : decode cX6_readOneStage 22 = .ok (.getfield 42, 3) := by decide +kernel
theorem dX6_readOneStage_25 : decode cX6_readOneStage 25 = .ok (.iload_n 2, 1) := by decide +kernel
theorem dX6_readOneStage_26 : decode cX6_readOneStage 26 = .ok (.iaload, 1) := by decide +kernel
theorem dX6_readOneStage_27 : decode cX6_readOneStage 27 = .ok (.bipush (-9), 2) := by decide +kernel
theorem dX6_readOneStage_29 : decode cX6_readOneStage 29 = .ok (.if_icmp .ne 5, 3) := by decide +kernel
theorem dX6_readOneStage_32 : decode cX6_readOneStage 32 = .ok (.iconst 0, 1) := by decide +kernel
theorem dX6_readOneStage_33 : decode cX6_readOneStage 33 = .ok (.ireturn, 1) := by decide +kernel
theorem dX6_readOneStage_34 : decode cX6_readOneStage 34 = .ok (.aload_n 0, 1) := by decide +kernel
theorem dX6_readOneStage_35 : decode cX6_readOneStage 35 = .ok (.getfield 42, 3) := by decide +kernel
theorem dX6_readOneStage_38 : decode cX6_readOneStage 38 = .ok (.iload_n 2, 1) := by decide +kernel
theorem dX6_readOneStage_39 : decode cX6_readOneStage 39 = .ok (.iconst 1, 1) := by decide +kernel
theorem dX6_readOneStage_40 : decode cX6_readOneStage 40 = .ok (.iadd, 1) := by decide +kernel
theorem dX6_readOneStage_41 : decode cX6_readOneStage 41 = .ok (.aload_n 0, 1) := by decide +kernel
theorem dX6_readOneStage_42 : decode cX6_readOneStage 42 = .ok (.iload_n 1, 1) := by decide +kernel
theorem dX6_readOneStage_43 : decode cX6_readOneStage 43 = .ok (.iconst 0, 1) := by decide +kernel
theorem dX6_readOneStage_44 : decode cX6_readOneStage 44 = .ok (.iconst 4, 1) := by decide +kernel
theorem dX6_readOneStage_45 : decode cX6_readOneStage 45 = .ok (.invokevirtual 130, 3) := by decide +kernel
theorem dX6_readOneStage_48 : decode cX6_readOneStage 48 = .ok (.iastore, 1) := by decide +kernel
theorem dX6_readOneStage_49 : decode cX6_readOneStage 49 = .ok (.aload_n 0, 1) := by decide +kernel
theorem dX6_readOneStage_50 : decode cX6_readOneStage 50 = .ok (.dup, 1) := by decide +kernel
theorem dX6_readOneStage_51 : decode cX6_readOneStage 51 = .ok (.getfield 117, 3) := by decide +kernel
theorem dX6_readOneStage_54 : decode cX6_readOneStage 54 = .ok (.iconst 1, 1) := by decide +kernel
theorem dX6_readOneStage_55 : decode cX6_readOneStage 55 = .ok (.iadd, 1) := by decide +kernel
theorem dX6_readOneStage_56 : decode cX6_readOneStage 56 = .ok (.putfield 117, 3) := by decide +kernel
theorem dX6_readOneStage_59 : decode cX6_readOneStage 59 = .ok (.aload_n 0, 1) := by decide +kernel
theorem dX6_readOneStage_60 : decode cX6_readOneStage 60 = .ok (.getfield 42, 3) := by decide +kernel
theorem dX6_readOneStage_63 : decode cX6_readOneStage 63 = .ok (.iload_n 2, 1) := by decide +kernel
theorem dX6_readOneStage_64 : decode cX6_readOneStage 64 = .ok (.iconst 1, 1) := by decide +kernel
theorem dX6_readOneStage_65 : decode cX6_readOneStage 65 = .ok (.iadd, 1) := by decide +kernel
theorem dX6_readOneStage_66 : decode cX6_readOneStage 66 = .ok (.iaload, 1) := by decide +kernel
theorem dX6_readOneStage_67 : decode cX6_readOneStage 67 = .ok (.bipush (-9), 2) := by decide +kernel
theorem dX6_readOneStage_69 : decode cX6_readOneStage 69 = .ok (.if_icmp .eq 7, 3) := by decide +kernel
theorem dX6_readOneStage_72 : decode cX6_readOneStage 72 = .ok (.iconst 1, 1) := by decide +kernel
theorem dX6_readOneStage_73 : decode cX6_readOneStage 73 = .ok (.goto 4, 3) := by decide +kernel
theorem dX6_readOneStage_76 : decode cX6_readOneStage 76 = .ok (.iconst 0, 1) := by decide +kernel
theorem dX6_readOneStage_77 : decode cX6_readOneStage 77 = .ok (.ireturn, 1) := by decide +kernel
theorem dX6_readOneThing_0 : decode cX6_readOneThing 0 = .ok (.iconst 2, 1) := by decide +kernel
theorem dX6_readOneThing_1 : decode cX6_readOneThing 1 = .ok (.aload_n 0, 1) := by decide +kernel
theorem dX6_readOneThing_2 : decode cX6_readOneThing 2 = .ok (.getfield 120, 3) := by decide +kernel
theorem dX6_readOneThing_5 : decode cX6_readOneThing 5 = .ok (.imul, 1) := by decide +kernel
theorem dX6_readOneThing_6 : decode cX6_readOneThing 6 = .ok (.istore_n 2, 1) := by decide +kernel
theorem dX6_readOneThing_7 : decode cX6_readOneThing 7 = .ok (.aload_n 0, 1) := by decide +kernel
theorem dX6_readOneThing_8 : decode cX6_readOneThing 8 = .ok (.getfield 90, 3) := by decide +kernel
theorem dX6_readOneThing_11 : decode cX6_readOneThing 11 = .ok (.iload_n 1, 1) := by decide +kernel
theorem dX6_readOneThing_12 : decode cX6_readOneThing 12 = .ok (.if_icmp .ge 15, 3) := by decide +kernel
theorem dX6_readOneThing_15 : decode cX6_readOneThing 15 = .ok (.aload_n 0, 1) := by decide +kernel
theorem dX6_readOneThing_16 : decode cX6_readOneThing 16 = .ok (.getfield 16, 3) := by decide +kernel
theorem dX6_readOneThing_19 : decode cX6_readOneThing 19 = .ok (.aload_n 0, 1) := by decide +kernel
theorem dX6_readOneThing_20 : decode cX6_readOneThing 20 = .ok (.getfield 90, 3) := by decide +kernel
theorem dX6_readOneThing_23 : decode cX6_readOneThing 23 = .ok (.iaload, 1) := by decide +kernel
theorem dX6_readOneThing_24 : decode cX6_readOneThing 24 = .ok (.goto 4, 3) := by decide +kernel
theorem dX6_readOneThing_27 : decode cX6_readOneThing 27 = .ok (.iconst 0, 1) := by decide +kernel
theorem dX6_readOneThing_28 : decode cX6_readOneThing 28 = .ok (.istore_n 3, 1) := by decide +kernel
theorem dX6_readOneThing_29 : decode cX6_readOneThing 29 = .ok (.aload_n 0, 1) := by decide +kernel
theorem dX6_readOneThing_30 : decode cX6_readOneThing 30 = .ok (.getfield 45, 3) := by decide +kernel
theorem dX6_readOneThing_33 : decode cX6_readOneThing 33 = .ok (.iload_n 2, 1) := by decide +kernel
theorem dX6_readOneThing_34 : decode cX6_readOneThing 34 = .ok (.iload_n 3, 1) := by decide +kernel
theorem dX6_readOneThing_35 : decode cX6_readOneThing 35 = .ok (.bipush 116, 2) := by decide +kernel
theorem dX6_readOneThing_37 : decode cX6_readOneThing 37 = .ok (.if_icmp .ne 7, 3) := by decide +kernel
theorem dX6_readOneThing_40 : decode cX6_readOneThing 40 = .ok (.iconst 0, 1) := by decide +kernel
theorem dX6_readOneThing_41 : decode cX6_readOneThing 41 = .ok (.goto 25, 3) := by decide +kernel
theorem dX6_readOneThing_44 : decode cX6_readOneThing 44 = .ok (.iload_n 3, 1) := by decide +kernel
theorem dX6_readOneThing_45 : decode cX6_readOneThing 45 = .ok (.bipush 102, 2) := by decide +kernel
theorem dX6_readOneThing_47 : decode cX6_readOneThing 47 = .ok (.if_icmp .ne 7, 3) := by decide +kernel
theorem dX6_readOneThing_50 : decode cX6_readOneThing 50 = .ok (.iconst 1, 1) := by decide +kernel
theorem dX6_readOneThing_51 : decode cX6_readOneThing 51 = .ok (.goto 15, 3) := by decide +kernel
theorem dX6_readOneThing_54 : decode cX6_readOneThing 54 = .ok (.iload_n 3, 1) := by decide +kernel
theorem dX6_readOneThing_55 : decode cX6_readOneThing 55 = .ok (.bipush 99, 2) := by decide +kernel
theorem dX6_readOneThing_57 : decode cX6_readOneThing 57 = .ok (.if_icmp .ne 7, 3) := by decide +kernel
theorem dX6_readOneThing_60 : decode cX6_readOneThing 60 = .ok (.iconst 2, 1) := by decide +kernel
theorem dX6_readOneThing_61 : decode cX6_readOneThing 61 = .ok (.goto 5, 3) := by decide +kernel
theorem dX6_readOneThing_64 : decode cX6_readOneThing 64 = .ok (.bipush (-9), 2) := by decide +kernel
theorem dX6_readOneThing_66 : decode cX6_readOneThing 66 = .ok (.iastore, 1) := by decide +kernel
theorem dX6_readOneThing_67 : decode cX6_readOneThing 67 = .ok (.aload_n 0, 1) := by decide +kernel
theorem dX6_readOneThing_68 : decode cX6_readOneThing 68 = .ok (.getfield 45, 3) := by decide +kernel
theorem dX6_readOneThing_71 : decode cX6_readOneThing 71 = .ok (.iload_n 2, 1) := by decide +kernel
theorem dX6_readOneThing_72 : decode cX6_readOneThing 72 = .ok (.iaload, 1) := by decide +kernel
theorem dX6_readOneThing_73 : decode cX6_readOneThing 73 = .ok (.bipush (-9), 2) := by decide +kernel
theorem dX6_readOneThing_75 : decode cX6_readOneThing 75 = .ok (.if_icmp .ne 5, 3) := by decide +kernel
theorem dX6_readOneThing_78 : decode cX6_readOneThing 78 = .ok (.iconst 0, 1) := by decide +kernel
theorem dX6_readOneThing_79 : decode cX6_readOneThing 79 = .ok (.ireturn, 1) := by decide +kernel
theorem dX6_readOneThing_80 : decode cX6_readOneThing 80 = .ok (.aload_n 0, 1) := by decide +kernel
theorem dX6_readOneThing_81 : decode cX6_readOneThing 81 = .ok (.dup, 1) := by decide +kernel
theorem dX6_readOneThing_82 : decode cX6_readOneThing 82 = .ok (.getfield 90, 3) := by decide +kernel
theorem dX6_readOneThing_85 : decode cX6_readOneThing 85 = .ok (.iconst 1, 1) := by decide +kernel
theorem dX6_readOneThing_86 : decode cX6_readOneThing 86 = .ok (.iadd, 1) := by decide +kernel
theorem dX6_readOneThing_87 : decode cX6_readOneThing 87 = .ok (.putfield 90, 3) := by decide +kernel
theorem dX6_readOneThing_90 : decode cX6_readOneThing 90 = .ok (.aload_n 0, 1) := by decide +kernel
theorem dX6_readOneThing_91 : decode cX6_readOneThing 91 = .ok (.getfield 45, 3) := by decide +kernel
theorem dX6_readOneThing_94 : decode cX6_readOneThing 94 = .ok (.iload_n 2, 1) := by decide +kernel
theorem dX6_readOneThing_95 : decode cX6_readOneThing 95 = .ok (.iconst 1, 1) := by decide +kernel
theorem dX6_readOneThing_96 : decode cX6_readOneThing 96 = .ok (.iadd, 1) := by decide +kernel
theorem dX6_readOneThing_97 : decode cX6_readOneThing 97 = .ok (.aload_n 0, 1) := by decide +kernel
theorem dX6_readOneThing_98 : decode cX6_readOneThing 98 = .ok (.iload_n 1, 1) := by decide +kernel
theorem dX6_readOneThing_99 : decode cX6_readOneThing 99 = .ok (.iconst 1, 1) := by decide +kernel
theorem dX6_readOneThing_100 : decode cX6_readOneThing 100 = .ok (.bipush 9, 2) := by decide +kernel
theorem dX6_readOneThing_102 : decode cX6_readOneThing 102 = .ok (.invokevirtual 130, 3) := by decide +kernel
theorem dX6_readOneThing_105 : decode cX6_readOneThing 105 = .ok (.iastore, 1) := by decide +kernel
theorem dX6_readOneThing_106 : decode cX6_readOneThing 106 = .ok (.aload_n 0, 1) := by decide +kernel
theorem dX6_readOneThing_107 : decode cX6_readOneThing 107 = .ok (.dup, 1) := by decide +kernel
theorem dX6_readOneThing_108 : decode cX6_readOneThing 108 = .ok (.getfield 120, 3) := by decide +kernel
theorem dX6_readOneThing_111 : decode cX6_readOneThing 111 = .ok (.iconst 1, 1) := by decide +kernel
theorem dX6_readOneThing_112 : decode cX6_readOneThing 112 = .ok (.iadd, 1) := by decide +kernel
theorem dX6_readOneThing_113 : decode cX6_readOneThing 113 = .ok (.putfield 120, 3) := by decide +kernel
theorem dX6_readOneThing_116 : decode cX6_readOneThing 116 = .ok (.aload_n 0, 1) := by decide +kernel
theorem dX6_readOneThing_117 : decode cX6_readOneThing 117 = .ok (.getfield 45, 3) := by decide +kernel
theorem dX6_readOneThing_120 : decode cX6_readOneThing 120 = .ok (.iload_n 2, 1) := by decide +kernel
theorem dX6_readOneThing_121 : decode cX6_readOneThing 121 = .ok (.iconst 1, 1) := by decide +kernel
theorem dX6_readOneThing_122 : decode cX6_readOneThing 122 = .ok (.iadd, 1) := by decide +kernel
theorem dX6_readOneThing_123 : decode cX6_readOneThing 123 = .ok (.iaload, 1) := by decide +kernel
theorem dX6_readOneThing_124 : decode cX6_readOneThing 124 = .ok (.bipush (-9), 2) := by decide +kernel
theorem dX6_readOneThing_126 : decode cX6_readOneThing 126 = .ok (.if_icmp .eq 7, 3) := by decide +kernel
theorem dX6_readOneThing_129 : decode cX6_readOneThing 129 = .ok (.iconst 1, 1) := by decide +kernel
theorem dX6_readOneThing_130 : decode cX6_readOneThing 130 = .ok (.goto 4, 3) := by decide +kernel
theorem dX6_readOneThing_133 : decode cX6_readOneThing 133 = .ok (.iconst 0, 1) := by decide +kernel
theorem dX6_readOneThing_134 : decode cX6_readOneThing 134 = .ok (.ireturn, 1) := by decide +kernel
theorem dX6_ofStage_0 : decode cX6_ofStage 0 = .ok (.aload_n 0, 1) := by decide +kernel
theorem dX6_ofStage_1 : decode cX6_ofStage 1 = .ok (.iload_n 1, 1) := by decide +kernel
theorem dX6_ofStage_2 : decode cX6_ofStage 2 = .ok (.invokevirtual 140, 3) := by decide +kernel
theorem dX6_ofStage_5 : decode cX6_ofStage 5 = .ok (.ifCond .ne 5, 3) := by decide +kernel
theorem dX6_ofStage_8 : decode cX6_ofStage 8 = .ok (.iconst (-1), 1) := by decide +kernel
theorem dX6_ofStage_9 : decode cX6_ofStage 9 = .ok (.ireturn, 1) := by decide +kernel
theorem dX6_ofStage_10 : decode cX6_ofStage 10 = .ok (.iload_n 2, 1) := by decide +kernel
theorem dX6_ofStage_11 : decode cX6_ofStage 11 = .ok (.ifCond .ne 12, 3) := by decide +kernel
theorem dX6_ofStage_14 : decode cX6_ofStage 14 = .ok (.aload_n 0, 1) := by decide +kernel
theorem dX6_ofStage_15 : decode cX6_ofStage 15 = .ok (.getfield 23, 3) := by decide +kernel
theorem dX6_ofStage_18 : decode cX6_ofStage 18 = .ok (.iload_n 1, 1) := by decide +kernel
theorem dX6_ofStage_19 : decode cX6_ofStage 19 = .ok (.iaload, 1) := by decide +kernel
theorem dX6_ofStage_20 : decode cX6_ofStage 20 = .ok (.goto 41, 3) := by decide +kernel
theorem dX6_ofStage_23 : decode cX6_ofStage 23 = .ok (.iload_n 2, 1) := by decide +kernel
theorem dX6_ofStage_24 : decode cX6_ofStage 24 = .ok (.iconst 1, 1) := by decide +kernel
theorem dX6_ofStage_25 : decode cX6_ofStage 25 = .ok (.if_icmp .ne 12, 3) := by decide +kernel
theorem dX6_ofStage_28 : decode cX6_ofStage 28 = .ok (.aload_n 0, 1) := by decide +kernel
theorem dX6_ofStage_29 : decode cX6_ofStage 29 = .ok (.getfield 26, 3) := by decide +kernel
theorem dX6_ofStage_32 : decode cX6_ofStage 32 = .ok (.iload_n 1, 1) := by decide +kernel
theorem dX6_ofStage_33 : decode cX6_ofStage 33 = .ok (.iaload, 1) := by decide +kernel
theorem dX6_ofStage_34 : decode cX6_ofStage 34 = .ok (.goto 27, 3) := by decide +kernel
theorem dX6_ofStage_37 : decode cX6_ofStage 37 = .ok (.iload_n 2, 1) := by decide +kernel
theorem dX6_ofStage_38 : decode cX6_ofStage 38 = .ok (.iconst 2, 1) := by decide +kernel
theorem dX6_ofStage_39 : decode cX6_ofStage 39 = .ok (.if_icmp .ne 20, 3) := by decide +kernel
theorem dX6_ofStage_42 : decode cX6_ofStage 42 = .ok (.aload_n 0, 1) := by decide +kernel
theorem dX6_ofStage_43 : decode cX6_ofStage 43 = .ok (.getfield 29, 3) := by decide +kernel
theorem dX6_ofStage_46 : decode cX6_ofStage 46 = .ok (.iload_n 1, 1) := by decide +kernel
theorem dX6_ofStage_47 : decode cX6_ofStage 47 = .ok (.baload, 1) := by decide +kernel
theorem dX6_ofStage_48 : decode cX6_ofStage 48 = .ok (.ifCond .eq 7, 3) := by decide +kernel
theorem dX6_ofStage_51 : decode cX6_ofStage 51 = .ok (.iconst 1, 1) := by decide +kernel
theorem dX6_ofStage_52 : decode cX6_ofStage 52 = .ok (.goto 9, 3) := by decide +kernel
theorem dX6_ofStage_55 : decode cX6_ofStage 55 = .ok (.iconst 0, 1) := by decide +kernel
theorem dX6_ofStage_56 : decode cX6_ofStage 56 = .ok (.goto 5, 3) := by decide +kernel
theorem dX6_ofStage_59 : decode cX6_ofStage 59 = .ok (.bipush (-2), 2) := by decide +kernel
theorem dX6_ofStage_61 : decode cX6_ofStage 61 = .ok (.ireturn, 1) := by decide +kernel
theorem dX6_ofThing_0 : decode cX6_ofThing 0 = .ok (.aload_n 0, 1) := by decide +kernel
theorem dX6_ofThing_1 : decode cX6_ofThing 1 = .ok (.iload_n 1, 1) := by decide +kernel
theorem dX6_ofThing_2 : decode cX6_ofThing 2 = .ok (.invokevirtual 143, 3) := by decide +kernel
theorem dX6_ofThing_5 : decode cX6_ofThing 5 = .ok (.ifCond .ne 5, 3) := by decide +kernel
theorem dX6_ofThing_8 : decode cX6_ofThing 8 = .ok (.iconst (-1), 1) := by decide +kernel
theorem dX6_ofThing_9 : decode cX6_ofThing 9 = .ok (.ireturn, 1) := by decide +kernel
theorem dX6_ofThing_10 : decode cX6_ofThing 10 = .ok (.iload_n 2, 1) := by decide +kernel
theorem dX6_ofThing_11 : decode cX6_ofThing 11 = .ok (.ifCond .ne 12, 3) := by decide +kernel
theorem dX6_ofThing_14 : decode cX6_ofThing 14 = .ok (.aload_n 0, 1) := by decide +kernel
theorem dX6_ofThing_15 : decode cX6_ofThing 15 = .ok (.getfield 33, 3) := by decide +kernel
theorem dX6_ofThing_18 : decode cX6_ofThing 18 = .ok (.iload_n 1, 1) := by decide +kernel
theorem dX6_ofThing_19 : decode cX6_ofThing 19 = .ok (.iaload, 1) := by decide +kernel
theorem dX6_ofThing_20 : decode cX6_ofThing 20 = .ok (.goto 19, 3) := by decide +kernel
theorem dX6_ofThing_23 : decode cX6_ofThing 23 = .ok (.iload_n 2, 1) := by decide +kernel
theorem dX6_ofThing_24 : decode cX6_ofThing 24 = .ok (.iconst 1, 1) := by decide +kernel
theorem dX6_ofThing_25 : decode cX6_ofThing 25 = .ok (.if_icmp .ne 12, 3) := by decide +kernel
theorem dX6_ofThing_28 : decode cX6_ofThing 28 = .ok (.aload_n 0, 1) := by decide +kernel
theorem dX6_ofThing_29 : decode cX6_ofThing 29 = .ok (.getfield 36, 3) := by decide +kernel
theorem dX6_ofThing_32 : decode cX6_ofThing 32 = .ok (.iload_n 1, 1) := by decide +kernel
theorem dX6_ofThing_33 : decode cX6_ofThing 33 = .ok (.iaload, 1) := by decide +kernel
theorem dX6_ofThing_34 : decode cX6_ofThing 34 = .ok (.goto 5, 3) := by decide +kernel
theorem dX6_ofThing_37 : decode cX6_ofThing 37 = .ok (.bipush (-2), 2) := by decide +kernel
theorem dX6_ofThing_39 : decode cX6_ofThing 39 = .ok (.ireturn, 1) := by decide +kernel
theorem dX6_bears_0 : decode cX6_bears 0 = .ok (.iload_n 1, 1) := by decide +kernel
theorem dX6_bears_1 : decode cX6_bears 1 = .ok (.iconst 1, 1) := by decide +kernel
theorem dX6_bears_2 : decode cX6_bears 2 = .ok (.bipush 36, 2) := by decide +kernel
theorem dX6_bears_4 : decode cX6_bears 4 = .ok (.invokestatic 80, 3) := by decide +kernel
theorem dX6_bears_7 : decode cX6_bears 7 = .ok (.ifCond .ne 6, 3) := by decide +kernel
theorem dX6_bears_10 : decode cX6_bears 10 = .ok (.bipush (-2), 2) := by decide +kernel
theorem dX6_bears_12 : decode cX6_bears 12 = .ok (.ireturn, 1) := by decide +kernel
theorem dX6_bears_13 : decode cX6_bears 13 = .ok (.aload_n 0, 1) := by decide +kernel
theorem dX6_bears_14 : decode cX6_bears 14 = .ok (.getfield 84, 3) := by decide +kernel
theorem dX6_bears_17 : decode cX6_bears 17 = .ok (.ifCond .ne 6, 3) := by decide +kernel
theorem dX6_bears_20 : decode cX6_bears 20 = .ok (.bipush (-3), 2) := by decide +kernel
theorem dX6_bears_22 : decode cX6_bears 22 = .ok (.ireturn, 1) := by decide +kernel
theorem dX6_bears_23 : decode cX6_bears 23 = .ok (.aload_n 0, 1) := by decide +kernel
theorem dX6_bears_24 : decode cX6_bears 24 = .ok (.getfield 114, 3) := by decide +kernel
theorem dX6_bears_27 : decode cX6_bears 27 = .ok (.istore_n 2, 1) := by decide +kernel
theorem dX6_bears_28 : decode cX6_bears 28 = .ok (.aload_n 0, 1) := by decide +kernel
theorem dX6_bears_29 : decode cX6_bears 29 = .ok (.iload_n 1, 1) := by decide +kernel
theorem dX6_bears_30 : decode cX6_bears 30 = .ok (.putfield 114, 3) := by decide +kernel
theorem dX6_bears_33 : decode cX6_bears 33 = .ok (.iload_n 2, 1) := by decide +kernel
theorem dX6_bears_34 : decode cX6_bears 34 = .ok (.ireturn, 1) := by decide +kernel
theorem dX6_rain_0 : decode cX6_rain 0 = .ok (.iload_n 1, 1) := by decide +kernel
theorem dX6_rain_1 : decode cX6_rain 1 = .ok (.bipush (-9), 2) := by decide +kernel
theorem dX6_rain_3 : decode cX6_rain 3 = .ok (.if_icmp .eq 16, 3) := by decide +kernel
theorem dX6_rain_6 : decode cX6_rain 6 = .ok (.iload_n 1, 1) := by decide +kernel
theorem dX6_rain_7 : decode cX6_rain 7 = .ok (.iconst 0, 1) := by decide +kernel
theorem dX6_rain_8 : decode cX6_rain 8 = .ok (.bipush 99, 2) := by decide +kernel
theorem dX6_rain_10 : decode cX6_rain 10 = .ok (.invokestatic 80, 3) := by decide +kernel
theorem dX6_rain_13 : decode cX6_rain 13 = .ok (.ifCond .ne 6, 3) := by decide +kernel
theorem dX6_rain_16 : decode cX6_rain 16 = .ok (.bipush (-2), 2) := by decide +kernel
theorem dX6_rain_18 : decode cX6_rain 18 = .ok (.ireturn, 1) := by decide +kernel
theorem dX6_rain_19 : decode cX6_rain 19 = .ok (.aload_n 0, 1) := by decide +kernel
theorem dX6_rain_20 : decode cX6_rain 20 = .ok (.getfield 84, 3) := by decide +kernel
theorem dX6_rain_23 : decode cX6_rain 23 = .ok (.ifCond .ne 6, 3) := by decide +kernel
theorem dX6_rain_26 : decode cX6_rain 26 = .ok (.bipush (-3), 2) := by decide +kernel
theorem dX6_rain_28 : decode cX6_rain 28 = .ok (.ireturn, 1) := by decide +kernel
theorem dX6_rain_29 : decode cX6_rain 29 = .ok (.aload_n 0, 1) := by decide +kernel
theorem dX6_rain_30 : decode cX6_rain 30 = .ok (.getfield 19, 3) := by decide +kernel
theorem dX6_rain_33 : decode cX6_rain 33 = .ok (.istore_n 2, 1) := by decide +kernel
theorem dX6_rain_34 : decode cX6_rain 34 = .ok (.aload_n 0, 1) := by decide +kernel
theorem dX6_rain_35 : decode cX6_rain 35 = .ok (.iload_n 1, 1) := by decide +kernel
theorem dX6_rain_36 : decode cX6_rain 36 = .ok (.putfield 19, 3) := by decide +kernel
theorem dX6_rain_39 : decode cX6_rain 39 = .ok (.iload_n 2, 1) := by decide +kernel
theorem dX6_rain_40 : decode cX6_rain 40 = .ok (.ireturn, 1) := by decide +kernel
theorem dX6_boards_0 : decode cX6_boards 0 = .ok (.aload_n 0, 1) := by decide +kernel
theorem dX6_boards_1 : decode cX6_boards 1 = .ok (.iload_n 1, 1) := by decide +kernel
theorem dX6_boards_2 : decode cX6_boards 2 = .ok (.invokevirtual 140, 3) := by decide +kernel
theorem dX6_boards_5 : decode cX6_boards 5 = .ok (.ifCond .ne 5, 3) := by decide +kernel
theorem dX6_boards_8 : decode cX6_boards 8 = .ok (.iconst (-1), 1) := by decide +kernel
theorem dX6_boards_9 : decode cX6_boards 9 = .ok (.ireturn, 1) := by decide +kernel
theorem dX6_boards_10 : decode cX6_boards 10 = .ok (.aload_n 0, 1) := by decide +kernel
theorem dX6_boards_11 : decode cX6_boards 11 = .ok (.getfield 29, 3) := by decide +kernel
theorem dX6_boards_14 : decode cX6_boards 14 = .ok (.iload_n 1, 1) := by decide +kernel
theorem dX6_boards_15 : decode cX6_boards 15 = .ok (.baload, 1) := by decide +kernel
theorem dX6_boards_16 : decode cX6_boards 16 = .ok (.istore_n 3, 1) := by decide +kernel
theorem dX6_boards_17 : decode cX6_boards 17 = .ok (.aload_n 0, 1) := by decide +kernel
theorem dX6_boards_18 : decode cX6_boards 18 = .ok (.getfield 29, 3) := by decide +kernel
theorem dX6_boards_21 : decode cX6_boards 21 = .ok (.iload_n 1, 1) := by decide +kernel
theorem dX6_boards_22 : decode cX6_boards 22 = .ok (.iload_n 2, 1) := by decide +kernel
theorem dX6_boards_23 : decode cX6_boards 23 = .ok (.bastore, 1) := by decide +kernel
theorem dX6_boards_24 : decode cX6_boards 24 = .ok (.iload_n 3, 1) := by decide +kernel
theorem dX6_boards_25 : decode cX6_boards 25 = .ok (.iload_n 2, 1) := by decide +kernel
theorem dX6_boards_26 : decode cX6_boards 26 = .ok (.if_icmp .ne 7, 3) := by decide +kernel
theorem dX6_boards_29 : decode cX6_boards 29 = .ok (.iconst 0, 1) := by decide +kernel
theorem dX6_boards_30 : decode cX6_boards 30 = .ok (.goto 4, 3) := by decide +kernel
theorem dX6_boards_33 : decode cX6_boards 33 = .ok (.iconst 1, 1) := by decide +kernel
theorem dX6_boards_34 : decode cX6_boards 34 = .ok (.ireturn, 1) := by decide +kernel
theorem dX6_isWell_0 : decode cX6_isWell 0 = .ok (.aload_n 0, 1) := by decide +kernel
theorem dX6_isWell_1 : decode cX6_isWell 1 = .ok (.getfield 33, 3) := by decide +kernel
theorem dX6_isWell_4 : decode cX6_isWell 4 = .ok (.iload_n 1, 1) := by decide +kernel
theorem dX6_isWell_5 : decode cX6_isWell 5 = .ok (.iaload, 1) := by decide +kernel
theorem dX6_isWell_6 : decode cX6_isWell 6 = .ok (.ifCond .ne 5, 3) := by decide +kernel
theorem dX6_isWell_9 : decode cX6_isWell 9 = .ok (.iconst 1, 1) := by decide +kernel
theorem dX6_isWell_10 : decode cX6_isWell 10 = .ok (.ireturn, 1) := by decide +kernel
theorem dX6_isWell_11 : decode cX6_isWell 11 = .ok (.iconst 0, 1) := by decide +kernel
theorem dX6_isWell_12 : decode cX6_isWell 12 = .ok (.istore_n 3, 1) := by decide +kernel
theorem dX6_isWell_13 : decode cX6_isWell 13 = .ok (.iconst 0, 1) := by decide +kernel
theorem dX6_isWell_14 : decode cX6_isWell 14 = .ok (.istore 4, 2) := by decide +kernel
theorem dX6_isWell_16 : decode cX6_isWell 16 = .ok (.iload 4, 2) := by decide +kernel
theorem dX6_isWell_18 : decode cX6_isWell 18 = .ok (.aload_n 0, 1) := by decide +kernel
theorem dX6_isWell_19 : decode cX6_isWell 19 = .ok (.getfield 87, 3) := by decide +kernel
theorem dX6_isWell_22 : decode cX6_isWell 22 = .ok (.if_icmp .ge 40, 3) := by decide +kernel
theorem dX6_isWell_25 : decode cX6_isWell 25 = .ok (.iload_n 3, 1) := by decide +kernel
theorem dX6_isWell_26 : decode cX6_isWell 26 = .ok (.ifCond .ne 24, 3) := by decide +kernel
theorem dX6_isWell_29 : decode cX6_isWell 29 = .ok (.iload_n 2, 1) := by decide +kernel
theorem dX6_isWell_30 : decode cX6_isWell 30 = .ok (.iload 4, 2) := by decide +kernel
theorem dX6_isWell_32 : decode cX6_isWell 32 = .ok (.ishr, 1) := by decide +kernel
theorem dX6_isWell_33 : decode cX6_isWell 33 = .ok (.iconst 1, 1) := by decide +kernel
theorem dX6_isWell_34 : decode cX6_isWell 34 = .ok (.iand, 1) := by decide +kernel
theorem dX6_isWell_35 : decode cX6_isWell 35 = .ok (.iconst 1, 1) := by decide +kernel
theorem dX6_isWell_36 : decode cX6_isWell 36 = .ok (.if_icmp .ne 18, 3) := by decide +kernel
theorem dX6_isWell_39 : decode cX6_isWell 39 = .ok (.aload_n 0, 1) := by decide +kernel
theorem dX6_isWell_40 : decode cX6_isWell 40 = .ok (.getfield 33, 3) := by decide +kernel
theorem dX6_isWell_43 : decode cX6_isWell 43 = .ok (.iload 4, 2) := by decide +kernel
theorem dX6_isWell_45 : decode cX6_isWell 45 = .ok (.iaload, 1) := by decide +kernel
theorem dX6_isWell_46 : decode cX6_isWell 46 = .ok (.iconst 1, 1) := by decide +kernel
theorem dX6_isWell_47 : decode cX6_isWell 47 = .ok (.if_icmp .ne 7, 3) := by decide +kernel
theorem dX6_isWell_50 : decode cX6_isWell 50 = .ok (.iconst 1, 1) := by decide +kernel
theorem dX6_isWell_51 : decode cX6_isWell 51 = .ok (.goto 4, 3) := by decide +kernel
theorem dX6_isWell_54 : decode cX6_isWell 54 = .ok (.iconst 0, 1) := by decide +kernel
theorem dX6_isWell_55 : decode cX6_isWell 55 = .ok (.istore_n 3, 1) := by decide +kernel
theorem dX6_isWell_56 : decode cX6_isWell 56 = .ok (.iinc 4 1, 3) := by decide +kernel
theorem dX6_isWell_59 : decode cX6_isWell 59 = .ok (.goto (-43), 3) := by decide +kernel
theorem dX6_isWell_62 : decode cX6_isWell 62 = .ok (.iload_n 2, 1) := by decide +kernel
theorem dX6_isWell_63 : decode cX6_isWell 63 = .ok (.iconst 1, 1) := by decide +kernel
theorem dX6_isWell_64 : decode cX6_isWell 64 = .ok (.iload_n 1, 1) := by decide +kernel
theorem dX6_isWell_65 : decode cX6_isWell 65 = .ok (.ishl, 1) := by decide +kernel
theorem dX6_isWell_66 : decode cX6_isWell 66 = .ok (.iconst (-1), 1) := by decide +kernel
theorem dX6_isWell_67 : decode cX6_isWell 67 = .ok (.ixor, 1) := by decide +kernel
theorem dX6_isWell_68 : decode cX6_isWell 68 = .ok (.iand, 1) := by decide +kernel
theorem dX6_isWell_69 : decode cX6_isWell 69 = .ok (.ifCond .eq 21, 3) := by decide +kernel
theorem dX6_isWell_72 : decode cX6_isWell 72 = .ok (.aload_n 0, 1) := by decide +kernel
theorem dX6_isWell_73 : decode cX6_isWell 73 = .ok (.getfield 33, 3) := by decide +kernel
theorem dX6_isWell_76 : decode cX6_isWell 76 = .ok (.iload_n 1, 1) := by decide +kernel
theorem dX6_isWell_77 : decode cX6_isWell 77 = .ok (.iaload, 1) := by decide +kernel
theorem dX6_isWell_78 : decode cX6_isWell 78 = .ok (.iconst 1, 1) := by decide +kernel
theorem dX6_isWell_79 : decode cX6_isWell 79 = .ok (.if_icmp .eq 7, 3) := by decide +kernel
theorem dX6_isWell_82 : decode cX6_isWell 82 = .ok (.iload_n 3, 1) := by decide +kernel
theorem dX6_isWell_83 : decode cX6_isWell 83 = .ok (.ifCond .ne 7, 3) := by decide +kernel
theorem dX6_isWell_86 : decode cX6_isWell 86 = .ok (.iconst 1, 1) := by decide +kernel
theorem dX6_isWell_87 : decode cX6_isWell 87 = .ok (.goto 4, 3) := by decide +kernel
theorem dX6_isWell_90 : decode cX6_isWell 90 = .ok (.iconst 0, 1) := by decide +kernel
theorem dX6_isWell_91 : decode cX6_isWell 91 = .ok (.ireturn, 1) := by decide +kernel
theorem dX6_wellOf_0 : decode cX6_wellOf 0 = .ok (.iconst 0, 1) := by decide +kernel
theorem dX6_wellOf_1 : decode cX6_wellOf 1 = .ok (.istore_n 2, 1) := by decide +kernel
theorem dX6_wellOf_2 : decode cX6_wellOf 2 = .ok (.iconst 0, 1) := by decide +kernel
theorem dX6_wellOf_3 : decode cX6_wellOf 3 = .ok (.istore_n 3, 1) := by decide +kernel
theorem dX6_wellOf_4 : decode cX6_wellOf 4 = .ok (.iload_n 3, 1) := by decide +kernel
theorem dX6_wellOf_5 : decode cX6_wellOf 5 = .ok (.aload_n 0, 1) := by decide +kernel
theorem dX6_wellOf_6 : decode cX6_wellOf 6 = .ok (.getfield 87, 3) := by decide +kernel
theorem dX6_wellOf_9 : decode cX6_wellOf 9 = .ok (.if_icmp .ge 37, 3) := by decide +kernel
theorem dX6_wellOf_12 : decode cX6_wellOf 12 = .ok (.iload_n 2, 1) := by decide +kernel
theorem dX6_wellOf_13 : decode cX6_wellOf 13 = .ok (.iload_n 1, 1) := by decide +kernel
theorem dX6_wellOf_14 : decode cX6_wellOf 14 = .ok (.iload_n 3, 1) := by decide +kernel
theorem dX6_wellOf_15 : decode cX6_wellOf 15 = .ok (.ishr, 1) := by decide +kernel
theorem dX6_wellOf_16 : decode cX6_wellOf 16 = .ok (.iconst 1, 1) := by decide +kernel
theorem dX6_wellOf_17 : decode cX6_wellOf 17 = .ok (.iand, 1) := by decide +kernel
theorem dX6_wellOf_18 : decode cX6_wellOf 18 = .ok (.iconst 1, 1) := by decide +kernel
theorem dX6_wellOf_19 : decode cX6_wellOf 19 = .ok (.if_icmp .ne 18, 3) := by decide +kernel
theorem dX6_wellOf_22 : decode cX6_wellOf 22 = .ok (.aload_n 0, 1) := by decide +kernel
theorem dX6_wellOf_23 : decode cX6_wellOf 23 = .ok (.iload_n 3, 1) := by decide +kernel
theorem dX6_wellOf_24 : decode cX6_wellOf 24 = .ok (.iload_n 1, 1) := by decide +kernel
theorem dX6_wellOf_25 : decode cX6_wellOf 25 = .ok (.invokevirtual 146, 3) := by decide +kernel
theorem dX6_wellOf_28 : decode cX6_wellOf 28 = .ok (.ifCond .eq 9, 3) := by decide +kernel
theorem dX6_wellOf_31 : decode cX6_wellOf 31 = .ok (.iconst 1, 1) := by decide +kernel
theorem dX6_wellOf_32 : decode cX6_wellOf 32 = .ok (.iload_n 3, 1) := by decide +kernel
theorem dX6_wellOf_33 : decode cX6_wellOf 33 = .ok (.ishl, 1) := by decide +kernel
theorem dX6_wellOf_34 : decode cX6_wellOf 34 = .ok (.goto 4, 3) := by decide +kernel
theorem dX6_wellOf_37 : decode cX6_wellOf 37 = .ok (.iconst 0, 1) := by decide +kernel
theorem dX6_wellOf_38 : decode cX6_wellOf 38 = .ok (.ior, 1) := by decide +kernel
theorem dX6_wellOf_39 : decode cX6_wellOf 39 = .ok (.istore_n 2, 1) := by decide +kernel
theorem dX6_wellOf_40 : decode cX6_wellOf 40 = .ok (.iinc 3 1, 3) := by decide +kernel
theorem dX6_wellOf_43 : decode cX6_wellOf 43 = .ok (.goto (-39), 3) := by decide +kernel
theorem dX6_wellOf_46 : decode cX6_wellOf 46 = .ok (.iload_n 2, 1) := by decide +kernel
theorem dX6_wellOf_47 : decode cX6_wellOf 47 = .ok (.ireturn, 1) := by decide +kernel
theorem dX6_well_0 : decode cX6_well 0 = .ok (.iload_n 1, 1) := by decide +kernel
theorem dX6_well_1 : decode cX6_well 1 = .ok (.iconst 0, 1) := by decide +kernel
theorem dX6_well_2 : decode cX6_well 2 = .ok (.aload_n 0, 1) := by decide +kernel
theorem dX6_well_3 : decode cX6_well 3 = .ok (.invokevirtual 149, 3) := by decide +kernel
theorem dX6_well_6 : decode cX6_well 6 = .ok (.invokestatic 80, 3) := by decide +kernel
theorem dX6_well_9 : decode cX6_well 9 = .ok (.ifCond .ne 6, 3) := by decide +kernel
theorem dX6_well_12 : decode cX6_well 12 = .ok (.bipush (-2), 2) := by decide +kernel
theorem dX6_well_14 : decode cX6_well 14 = .ok (.ireturn, 1) := by decide +kernel
theorem dX6_well_15 : decode cX6_well 15 = .ok (.aload_n 0, 1) := by decide +kernel
theorem dX6_well_16 : decode cX6_well 16 = .ok (.getfield 84, 3) := by decide +kernel
theorem dX6_well_19 : decode cX6_well 19 = .ok (.ifCond .ne 8, 3) := by decide +kernel
theorem dX6_well_22 : decode cX6_well 22 = .ok (.bipush (-3), 2) := by decide +kernel
theorem dX6_well_24 : decode cX6_well 24 = .ok (.goto 8, 3) := by decide +kernel
theorem dX6_well_27 : decode cX6_well 27 = .ok (.aload_n 0, 1) := by decide +kernel
theorem dX6_well_28 : decode cX6_well 28 = .ok (.iload_n 1, 1) := by decide +kernel
theorem dX6_well_29 : decode cX6_well 29 = .ok (.invokevirtual 153, 3) := by decide +kernel
theorem dX6_well_32 : decode cX6_well 32 = .ok (.ireturn, 1) := by decide +kernel
theorem dX6_thingsAt_0 : decode cX6_thingsAt 0 = .ok (.iconst 0, 1) := by decide +kernel
theorem dX6_thingsAt_1 : decode cX6_thingsAt 1 = .ok (.istore_n 3, 1) := by decide +kernel
theorem dX6_thingsAt_2 : decode cX6_thingsAt 2 = .ok (.iconst 0, 1) := by decide +kernel
theorem dX6_thingsAt_3 : decode cX6_thingsAt 3 = .ok (.istore 4, 2) := by decide +kernel
theorem dX6_thingsAt_5 : decode cX6_thingsAt 5 = .ok (.iload 4, 2) := by decide +kernel
theorem dX6_thingsAt_7 : decode cX6_thingsAt 7 = .ok (.aload_n 0, 1) := by decide +kernel
theorem dX6_thingsAt_8 : decode cX6_thingsAt 8 = .ok (.getfield 87, 3) := by decide +kernel
theorem dX6_thingsAt_11 : decode cX6_thingsAt 11 = .ok (.if_icmp .ge 43, 3) := by decide +kernel
theorem dX6_thingsAt_14 : decode cX6_thingsAt 14 = .ok (.iload_n 3, 1) := by decide +kernel
theorem dX6_thingsAt_15 : decode cX6_thingsAt 15 = .ok (.iload 4, 2) := by decide +kernel
theorem dX6_thingsAt_17 : decode cX6_thingsAt 17 = .ok (.aload_n 0, 1) := by decide +kernel
theorem dX6_thingsAt_18 : decode cX6_thingsAt 18 = .ok (.getfield 39, 3) := by decide +kernel
theorem dX6_thingsAt_21 : decode cX6_thingsAt 21 = .ok (.if_icmp .eq 24, 3) := by decide +kernel
theorem dX6_thingsAt_24 : decode cX6_thingsAt 24 = .ok (.iload_n 1, 1) := by decide +kernel
theorem dX6_thingsAt_25 : decode cX6_thingsAt 25 = .ok (.iconst 2, 1) := by decide +kernel
theorem dX6_thingsAt_26 : decode cX6_thingsAt 26 = .ok (.iload 4, 2) := by decide +kernel
theorem dX6_thingsAt_28 : decode cX6_thingsAt 28 = .ok (.imul, 1) := by decide +kernel
theorem dX6_thingsAt_29 : decode cX6_thingsAt 29 = .ok (.iconst 2, 1) := by decide +kernel
theorem dX6_thingsAt_30 : decode cX6_thingsAt 30 = .ok (.iadd, 1) := by decide +kernel
theorem dX6_thingsAt_31 : decode cX6_thingsAt 31 = .ok (.ishr, 1) := by decide +kernel
theorem dX6_thingsAt_32 : decode cX6_thingsAt 32 = .ok (.iconst 3, 1) := by decide +kernel
theorem dX6_thingsAt_33 : decode cX6_thingsAt 33 = .ok (.iand, 1) := by decide +kernel
theorem dX6_thingsAt_34 : decode cX6_thingsAt 34 = .ok (.iload_n 2, 1) := by decide +kernel
theorem dX6_thingsAt_35 : decode cX6_thingsAt 35 = .ok (.if_icmp .ne 10, 3) := by decide +kernel
theorem dX6_thingsAt_38 : decode cX6_thingsAt 38 = .ok (.iconst 1, 1) := by decide +kernel
theorem dX6_thingsAt_39 : decode cX6_thingsAt 39 = .ok (.iload 4, 2) := by decide +kernel
theorem dX6_thingsAt_41 : decode cX6_thingsAt 41 = .ok (.ishl, 1) := by decide +kernel
theorem dX6_thingsAt_42 : decode cX6_thingsAt 42 = .ok (.goto 4, 3) := by decide +kernel
theorem dX6_thingsAt_45 : decode cX6_thingsAt 45 = .ok (.iconst 0, 1) := by decide +kernel
theorem dX6_thingsAt_46 : decode cX6_thingsAt 46 = .ok (.ior, 1) := by decide +kernel
theorem dX6_thingsAt_47 : decode cX6_thingsAt 47 = .ok (.istore_n 3, 1) := by decide +kernel
theorem dX6_thingsAt_48 : decode cX6_thingsAt 48 = .ok (.iinc 4 1, 3) := by decide +kernel
theorem dX6_thingsAt_51 : decode cX6_thingsAt 51 = .ok (.goto (-46), 3) := by decide +kernel
theorem dX6_thingsAt_54 : decode cX6_thingsAt 54 = .ok (.iload_n 3, 1) := by decide +kernel
theorem dX6_thingsAt_55 : decode cX6_thingsAt 55 = .ok (.ireturn, 1) := by decide +kernel
theorem dX6_poundsOf_0 : decode cX6_poundsOf 0 = .ok (.iconst 0, 1) := by decide +kernel
theorem dX6_poundsOf_1 : decode cX6_poundsOf 1 = .ok (.istore_n 2, 1) := by decide +kernel
theorem dX6_poundsOf_2 : decode cX6_poundsOf 2 = .ok (.iconst 0, 1) := by decide +kernel
theorem dX6_poundsOf_3 : decode cX6_poundsOf 3 = .ok (.istore_n 3, 1) := by decide +kernel
theorem dX6_poundsOf_4 : decode cX6_poundsOf 4 = .ok (.iload_n 3, 1) := by decide +kernel
theorem dX6_poundsOf_5 : decode cX6_poundsOf 5 = .ok (.aload_n 0, 1) := by decide +kernel
theorem dX6_poundsOf_6 : decode cX6_poundsOf 6 = .ok (.getfield 87, 3) := by decide +kernel
theorem dX6_poundsOf_9 : decode cX6_poundsOf 9 = .ok (.if_icmp .ge 31, 3) := by decide +kernel
theorem dX6_poundsOf_12 : decode cX6_poundsOf 12 = .ok (.iload_n 2, 1) := by decide +kernel
theorem dX6_poundsOf_13 : decode cX6_poundsOf 13 = .ok (.iload_n 1, 1) := by decide +kernel
theorem dX6_poundsOf_14 : decode cX6_poundsOf 14 = .ok (.iload_n 3, 1) := by decide +kernel
theorem dX6_poundsOf_15 : decode cX6_poundsOf 15 = .ok (.ishr, 1) := by decide +kernel
theorem dX6_poundsOf_16 : decode cX6_poundsOf 16 = .ok (.iconst 1, 1) := by decide +kernel
theorem dX6_poundsOf_17 : decode cX6_poundsOf 17 = .ok (.iand, 1) := by decide +kernel
theorem dX6_poundsOf_18 : decode cX6_poundsOf 18 = .ok (.iconst 1, 1) := by decide +kernel
theorem dX6_poundsOf_19 : decode cX6_poundsOf 19 = .ok (.if_icmp .ne 12, 3) := by decide +kernel
theorem dX6_poundsOf_22 : decode cX6_poundsOf 22 = .ok (.aload_n 0, 1) := by decide +kernel
theorem dX6_poundsOf_23 : decode cX6_poundsOf 23 = .ok (.getfield 36, 3) := by decide +kernel
theorem dX6_poundsOf_26 : decode cX6_poundsOf 26 = .ok (.iload_n 3, 1) := by decide +kernel
theorem dX6_poundsOf_27 : decode cX6_poundsOf 27 = .ok (.iaload, 1) := by decide +kernel
theorem dX6_poundsOf_28 : decode cX6_poundsOf 28 = .ok (.goto 4, 3) := by decide +kernel
theorem dX6_poundsOf_31 : decode cX6_poundsOf 31 = .ok (.iconst 0, 1) := by decide +kernel
theorem dX6_poundsOf_32 : decode cX6_poundsOf 32 = .ok (.iadd, 1) := by decide +kernel
theorem dX6_poundsOf_33 : decode cX6_poundsOf 33 = .ok (.istore_n 2, 1) := by decide +kernel
theorem dX6_poundsOf_34 : decode cX6_poundsOf 34 = .ok (.iinc 3 1, 3) := by decide +kernel
theorem dX6_poundsOf_37 : decode cX6_poundsOf 37 = .ok (.goto (-33), 3) := by decide +kernel
theorem dX6_poundsOf_40 : decode cX6_poundsOf 40 = .ok (.iload_n 2, 1) := by decide +kernel
theorem dX6_poundsOf_41 : decode cX6_poundsOf 41 = .ok (.ireturn, 1) := by decide +kernel
theorem dX6_mayGo_0 : decode cX6_mayGo 0 = .ok (.iload_n 1, 1) := by decide +kernel
theorem dX6_mayGo_1 : decode cX6_mayGo 1 = .ok (.iconst 3, 1) := by decide +kernel
theorem dX6_mayGo_2 : decode cX6_mayGo 2 = .ok (.iand, 1) := by decide +kernel
theorem dX6_mayGo_3 : decode cX6_mayGo 3 = .ok (.istore 4, 2) := by decide +kernel
theorem dX6_mayGo_5 : decode cX6_mayGo 5 = .ok (.aload_n 0, 1) := by decide +kernel
theorem dX6_mayGo_6 : decode cX6_mayGo 6 = .ok (.iload_n 1, 1) := by decide +kernel
theorem dX6_mayGo_7 : decode cX6_mayGo 7 = .ok (.iload 4, 2) := by decide +kernel
theorem dX6_mayGo_9 : decode cX6_mayGo 9 = .ok (.invokevirtual 156, 3) := by decide +kernel
theorem dX6_mayGo_12 : decode cX6_mayGo 12 = .ok (.istore 5, 2) := by decide +kernel
theorem dX6_mayGo_14 : decode cX6_mayGo 14 = .ok (.iload_n 2, 1) := by decide +kernel
theorem dX6_mayGo_15 : decode cX6_mayGo 15 = .ok (.iload 4, 2) := by decide +kernel
theorem dX6_mayGo_17 : decode cX6_mayGo 17 = .ok (.iconst 1, 1) := by decide +kernel
theorem dX6_mayGo_18 : decode cX6_mayGo 18 = .ok (.iadd, 1) := by decide +kernel
theorem dX6_mayGo_19 : decode cX6_mayGo 19 = .ok (.if_icmp .eq 11, 3) := by decide +kernel
theorem dX6_mayGo_22 : decode cX6_mayGo 22 = .ok (.iload_n 2, 1) := by decide +kernel
theorem dX6_mayGo_23 : decode cX6_mayGo 23 = .ok (.iload 4, 2) := by decide +kernel
theorem dX6_mayGo_25 : decode cX6_mayGo 25 = .ok (.iconst 1, 1) := by decide +kernel
theorem dX6_mayGo_26 : decode cX6_mayGo 26 = .ok (.isub, 1) := by decide +kernel
theorem dX6_mayGo_27 : decode cX6_mayGo 27 = .ok (.if_icmp .ne 7, 3) := by decide +kernel
theorem dX6_mayGo_30 : decode cX6_mayGo 30 = .ok (.iconst 1, 1) := by decide +kernel
theorem dX6_mayGo_31 : decode cX6_mayGo 31 = .ok (.goto 4, 3) := by decide +kernel
theorem dX6_mayGo_34 : decode cX6_mayGo 34 = .ok (.iconst 0, 1) := by decide +kernel
theorem dX6_mayGo_35 : decode cX6_mayGo 35 = .ok (.istore 6, 2) := by decide +kernel
theorem dX6_mayGo_37 : decode cX6_mayGo 37 = .ok (.aload_n 0, 1) := by decide +kernel
theorem dX6_mayGo_38 : decode cX6_mayGo 38 = .ok (.iload_n 2, 1) := by decide +kernel
theorem dX6_mayGo_39 : decode cX6_mayGo 39 = .ok (.invokevirtual 160, 3) := by decide +kernel
theorem dX6_mayGo_42 : decode cX6_mayGo 42 = .ok (.ifCond .eq 29, 3) := by decide +kernel
theorem dX6_mayGo_45 : decode cX6_mayGo 45 = .ok (.iload 6, 2) := by decide +kernel
theorem dX6_mayGo_47 : decode cX6_mayGo 47 = .ok (.ifCond .eq 24, 3) := by decide +kernel
theorem dX6_mayGo_50 : decode cX6_mayGo 50 = .ok (.iload_n 3, 1) := by decide +kernel
theorem dX6_mayGo_51 : decode cX6_mayGo 51 = .ok (.iload 5, 2) := by decide +kernel
theorem dX6_mayGo_53 : decode cX6_mayGo 53 = .ok (.iconst (-1), 1) := by decide +kernel
theorem dX6_mayGo_54 : decode cX6_mayGo 54 = .ok (.ixor, 1) := by decide +kernel
theorem dX6_mayGo_55 : decode cX6_mayGo 55 = .ok (.iand, 1) := by decide +kernel
theorem dX6_mayGo_56 : decode cX6_mayGo 56 = .ok (.ifCond .ne 15, 3) := by decide +kernel
theorem dX6_mayGo_59 : decode cX6_mayGo 59 = .ok (.aload_n 0, 1) := by decide +kernel
theorem dX6_mayGo_60 : decode cX6_mayGo 60 = .ok (.iload_n 3, 1) := by decide +kernel
theorem dX6_mayGo_61 : decode cX6_mayGo 61 = .ok (.invokevirtual 163, 3) := by decide +kernel
theorem dX6_mayGo_64 : decode cX6_mayGo 64 = .ok (.aload_n 0, 1) := by decide +kernel
theorem dX6_mayGo_65 : decode cX6_mayGo 65 = .ok (.getfield 114, 3) := by decide +kernel
theorem dX6_mayGo_68 : decode cX6_mayGo 68 = .ok (.if_icmp .le 5, 3) := by decide +kernel
theorem dX6_mayGo_71 : decode cX6_mayGo 71 = .ok (.iconst 0, 1) := by decide +kernel
theorem dX6_mayGo_72 : decode cX6_mayGo 72 = .ok (.ireturn, 1) := by decide +kernel
theorem dX6_mayGo_73 : decode cX6_mayGo 73 = .ok (.iload 5, 2) := by decide +kernel
theorem dX6_mayGo_75 : decode cX6_mayGo 75 = .ok (.iload_n 3, 1) := by decide +kernel
theorem dX6_mayGo_76 : decode cX6_mayGo 76 = .ok (.iconst (-1), 1) := by decide +kernel
theorem dX6_mayGo_77 : decode cX6_mayGo 77 = .ok (.ixor, 1) := by decide +kernel
theorem dX6_mayGo_78 : decode cX6_mayGo 78 = .ok (.iand, 1) := by decide +kernel
theorem dX6_mayGo_79 : decode cX6_mayGo 79 = .ok (.istore 7, 2) := by decide +kernel
theorem dX6_mayGo_81 : decode cX6_mayGo 81 = .ok (.aload_n 0, 1) := by decide +kernel
theorem dX6_mayGo_82 : decode cX6_mayGo 82 = .ok (.iload 7, 2) := by decide +kernel
theorem dX6_mayGo_84 : decode cX6_mayGo 84 = .ok (.invokevirtual 153, 3) := by decide +kernel
theorem dX6_mayGo_87 : decode cX6_mayGo 87 = .ok (.iload 7, 2) := by decide +kernel
theorem dX6_mayGo_89 : decode cX6_mayGo 89 = .ok (.if_icmp .ne 7, 3) := by decide +kernel
theorem dX6_mayGo_92 : decode cX6_mayGo 92 = .ok (.iconst 1, 1) := by decide +kernel
theorem dX6_mayGo_93 : decode cX6_mayGo 93 = .ok (.goto 4, 3) := by decide +kernel
theorem dX6_mayGo_96 : decode cX6_mayGo 96 = .ok (.iconst 0, 1) := by decide +kernel
theorem dX6_mayGo_97 : decode cX6_mayGo 97 = .ok (.ireturn, 1) := by decide +kernel
theorem dX6_gone_0 : decode cX6_gone 0 = .ok (.iload_n 0, 1) := by decide +kernel
theorem dX6_gone_1 : decode cX6_gone 1 = .ok (.bipush (-4), 2) := by decide +kernel
theorem dX6_gone_3 : decode cX6_gone 3 = .ok (.iand, 1) := by decide +kernel
theorem dX6_gone_4 : decode cX6_gone 4 = .ok (.iload_n 1, 1) := by decide +kernel
theorem dX6_gone_5 : decode cX6_gone 5 = .ok (.ior, 1) := by decide +kernel
theorem dX6_gone_6 : decode cX6_gone 6 = .ok (.istore_n 3, 1) := by decide +kernel
theorem dX6_gone_7 : decode cX6_gone 7 = .ok (.iconst 0, 1) := by decide +kernel
theorem dX6_gone_8 : decode cX6_gone 8 = .ok (.istore 4, 2) := by decide +kernel
theorem dX6_gone_10 : decode cX6_gone 10 = .ok (.iload 4, 2) := by decide +kernel
theorem dX6_gone_12 : decode cX6_gone 12 = .ok (.iconst 4, 1) := by decide +kernel
theorem dX6_gone_13 : decode cX6_gone 13 = .ok (.if_icmp .ge 41, 3) := by decide +kernel
theorem dX6_gone_16 : decode cX6_gone 16 = .ok (.iload_n 2, 1) := by decide +kernel
theorem dX6_gone_17 : decode cX6_gone 17 = .ok (.iload 4, 2) := by decide +kernel
theorem dX6_gone_19 : decode cX6_gone 19 = .ok (.ishr, 1) := by decide +kernel
theorem dX6_gone_20 : decode cX6_gone 20 = .ok (.iconst 1, 1) := by decide +kernel
theorem dX6_gone_21 : decode cX6_gone 21 = .ok (.iand, 1) := by decide +kernel
theorem dX6_gone_22 : decode cX6_gone 22 = .ok (.iconst 1, 1) := by decide +kernel
theorem dX6_gone_23 : decode cX6_gone 23 = .ok (.if_icmp .ne 25, 3) := by decide +kernel
theorem dX6_gone_26 : decode cX6_gone 26 = .ok (.iload_n 3, 1) := by decide +kernel
theorem dX6_gone_27 : decode cX6_gone 27 = .ok (.iconst 3, 1) := by decide +kernel
theorem dX6_gone_28 : decode cX6_gone 28 = .ok (.iconst 2, 1) := by decide +kernel
theorem dX6_gone_29 : decode cX6_gone 29 = .ok (.iload 4, 2) := by decide +kernel
theorem dX6_gone_31 : decode cX6_gone 31 = .ok (.imul, 1) := by decide +kernel
theorem dX6_gone_32 : decode cX6_gone 32 = .ok (.iconst 2, 1) := by decide +kernel
theorem dX6_gone_33 : decode cX6_gone 33 = .ok (.iadd, 1) := by decide +kernel
theorem dX6_gone_34 : decode cX6_gone 34 = .ok (.ishl, 1) := by decide +kernel
theorem dX6_gone_35 : decode cX6_gone 35 = .ok (.iconst (-1), 1) := by decide +kernel
theorem dX6_gone_36 : decode cX6_gone 36 = .ok (.ixor, 1) := by decide +kernel
theorem dX6_gone_37 : decode cX6_gone 37 = .ok (.iand, 1) := by decide +kernel
theorem dX6_gone_38 : decode cX6_gone 38 = .ok (.iload_n 1, 1) := by decide +kernel
theorem dX6_gone_39 : decode cX6_gone 39 = .ok (.iconst 2, 1) := by decide +kernel
theorem dX6_gone_40 : decode cX6_gone 40 = .ok (.iload 4, 2) := by decide +kernel
theorem dX6_gone_42 : decode cX6_gone 42 = .ok (.imul, 1) := by decide +kernel
theorem dX6_gone_43 : decode cX6_gone 43 = .ok (.iconst 2, 1) := by decide +kernel
theorem dX6_gone_44 : decode cX6_gone 44 = .ok (.iadd, 1) := by decide +kernel
theorem dX6_gone_45 : decode cX6_gone 45 = .ok (.ishl, 1) := by decide +kernel
theorem dX6_gone_46 : decode cX6_gone 46 = .ok (.ior, 1) := by decide +kernel
theorem dX6_gone_47 : decode cX6_gone 47 = .ok (.istore_n 3, 1) := by decide +kernel
theorem dX6_gone_48 : decode cX6_gone 48 = .ok (.iinc 4 1, 3) := by decide +kernel
theorem dX6_gone_51 : decode cX6_gone 51 = .ok (.goto (-41), 3) := by decide +kernel
theorem dX6_gone_54 : decode cX6_gone 54 = .ok (.iload_n 3, 1) := by decide +kernel
theorem dX6_gone_55 : decode cX6_gone 55 = .ok (.ireturn, 1) := by decide +kernel
theorem dX6_stageOf_0 : decode cX6_stageOf 0 = .ok (.iload_n 1, 1) := by decide +kernel
theorem dX6_stageOf_1 : decode cX6_stageOf 1 = .ok (.iload_n 2, 1) := by decide +kernel
theorem dX6_stageOf_2 : decode cX6_stageOf 2 = .ok (.if_icmp .ge 7, 3) := by decide +kernel
theorem dX6_stageOf_5 : decode cX6_stageOf 5 = .ok (.iload_n 1, 1) := by decide +kernel
theorem dX6_stageOf_6 : decode cX6_stageOf 6 = .ok (.goto 4, 3) := by decide +kernel
theorem dX6_stageOf_9 : decode cX6_stageOf 9 = .ok (.iload_n 2, 1) := by decide +kernel
theorem dX6_stageOf_10 : decode cX6_stageOf 10 = .ok (.ireturn, 1) := by decide +kernel
theorem dX6_mudOf_0 : decode cX6_mudOf 0 = .ok (.aload_n 0, 1) := by decide +kernel
theorem dX6_mudOf_1 : decode cX6_mudOf 1 = .ok (.getfield 29, 3) := by decide +kernel
theorem dX6_mudOf_4 : decode cX6_mudOf 4 = .ok (.iload_n 1, 1) := by decide +kernel
theorem dX6_mudOf_5 : decode cX6_mudOf 5 = .ok (.baload, 1) := by decide +kernel
theorem dX6_mudOf_6 : decode cX6_mudOf 6 = .ok (.ifCond .eq 5, 3) := by decide +kernel
theorem dX6_mudOf_9 : decode cX6_mudOf 9 = .ok (.iconst 0, 1) := by decide +kernel
theorem dX6_mudOf_10 : decode cX6_mudOf 10 = .ok (.ireturn, 1) := by decide +kernel
theorem dX6_mudOf_11 : decode cX6_mudOf 11 = .ok (.aload_n 0, 1) := by decide +kernel
theorem dX6_mudOf_12 : decode cX6_mudOf 12 = .ok (.getfield 19, 3) := by decide +kernel
theorem dX6_mudOf_15 : decode cX6_mudOf 15 = .ok (.bipush (-9), 2) := by decide +kernel
theorem dX6_mudOf_17 : decode cX6_mudOf 17 = .ok (.if_icmp .eq 22, 3) := by decide +kernel
theorem dX6_mudOf_20 : decode cX6_mudOf 20 = .ok (.iload_n 2, 1) := by decide +kernel
theorem dX6_mudOf_21 : decode cX6_mudOf 21 = .ok (.aload_n 0, 1) := by decide +kernel
theorem dX6_mudOf_22 : decode cX6_mudOf 22 = .ok (.getfield 19, 3) := by decide +kernel
theorem dX6_mudOf_25 : decode cX6_mudOf 25 = .ok (.if_icmp .lt 14, 3) := by decide +kernel
theorem dX6_mudOf_28 : decode cX6_mudOf 28 = .ok (.iconst 2, 1) := by decide +kernel
theorem dX6_mudOf_29 : decode cX6_mudOf 29 = .ok (.aload_n 0, 1) := by decide +kernel
theorem dX6_mudOf_30 : decode cX6_mudOf 30 = .ok (.getfield 26, 3) := by decide +kernel
theorem dX6_mudOf_33 : decode cX6_mudOf 33 = .ok (.iload_n 1, 1) := by decide +kernel
theorem dX6_mudOf_34 : decode cX6_mudOf 34 = .ok (.iaload, 1) := by decide +kernel
theorem dX6_mudOf_35 : decode cX6_mudOf 35 = .ok (.imul, 1) := by decide +kernel
theorem dX6_mudOf_36 : decode cX6_mudOf 36 = .ok (.goto 9, 3) := by decide +kernel
theorem dX6_mudOf_39 : decode cX6_mudOf 39 = .ok (.aload_n 0, 1) := by decide +kernel
theorem dX6_mudOf_40 : decode cX6_mudOf 40 = .ok (.getfield 26, 3) := by decide +kernel
theorem dX6_mudOf_43 : decode cX6_mudOf 43 = .ok (.iload_n 1, 1) := by decide +kernel
theorem dX6_mudOf_44 : decode cX6_mudOf 44 = .ok (.iaload, 1) := by decide +kernel
theorem dX6_mudOf_45 : decode cX6_mudOf 45 = .ok (.ireturn, 1) := by decide +kernel
theorem dX6_takes_0 : decode cX6_takes 0 = .ok (.aload_n 0, 1) := by decide +kernel
theorem dX6_takes_1 : decode cX6_takes 1 = .ok (.iload_n 1, 1) := by decide +kernel
theorem dX6_takes_2 : decode cX6_takes 2 = .ok (.iload_n 2, 1) := by decide +kernel
theorem dX6_takes_3 : decode cX6_takes 3 = .ok (.invokevirtual 166, 3) := by decide +kernel
theorem dX6_takes_6 : decode cX6_takes 6 = .ok (.istore 5, 2) := by decide +kernel
theorem dX6_takes_8 : decode cX6_takes 8 = .ok (.iload_n 3, 1) := by decide +kernel
theorem dX6_takes_9 : decode cX6_takes 9 = .ok (.ifCond .ne 13, 3) := by decide +kernel
theorem dX6_takes_12 : decode cX6_takes 12 = .ok (.aload_n 0, 1) := by decide +kernel
theorem dX6_takes_13 : decode cX6_takes 13 = .ok (.getfield 23, 3) := by decide +kernel
theorem dX6_takes_16 : decode cX6_takes 16 = .ok (.iload 5, 2) := by decide +kernel
theorem dX6_takes_18 : decode cX6_takes 18 = .ok (.iaload, 1) := by decide +kernel
theorem dX6_takes_19 : decode cX6_takes 19 = .ok (.goto 27, 3) := by decide +kernel
theorem dX6_takes_22 : decode cX6_takes 22 = .ok (.aload_n 0, 1) := by decide +kernel
theorem dX6_takes_23 : decode cX6_takes 23 = .ok (.getfield 23, 3) := by decide +kernel
theorem dX6_takes_26 : decode cX6_takes 26 = .ok (.iload 5, 2) := by decide +kernel
theorem dX6_takes_28 : decode cX6_takes 28 = .ok (.iaload, 1) := by decide +kernel
theorem dX6_takes_29 : decode cX6_takes 29 = .ok (.aload_n 0, 1) := by decide +kernel
theorem dX6_takes_30 : decode cX6_takes 30 = .ok (.iload 5, 2) := by decide +kernel
theorem dX6_takes_32 : decode cX6_takes 32 = .ok (.iload 4, 2) := by decide +kernel
theorem dX6_takes_34 : decode cX6_takes 34 = .ok (.invokevirtual 169, 3) := by decide +kernel
theorem dX6_takes_37 : decode cX6_takes 37 = .ok (.iadd, 1) := by decide +kernel
theorem dX6_takes_38 : decode cX6_takes 38 = .ok (.aload_n 0, 1) := by decide +kernel
theorem dX6_takes_39 : decode cX6_takes 39 = .ok (.iload_n 3, 1) := by decide +kernel
theorem dX6_takes_40 : decode cX6_takes 40 = .ok (.invokevirtual 163, 3) := by decide +kernel
theorem dX6_takes_43 : decode cX6_takes 43 = .ok (.iconst 3, 1) := by decide +kernel
theorem dX6_takes_44 : decode cX6_takes 44 = .ok (.idiv, 1) := by decide +kernel
theorem dX6_takes_45 : decode cX6_takes 45 = .ok (.iadd, 1) := by decide +kernel
theorem dX6_takes_46 : decode cX6_takes 46 = .ok (.ireturn, 1) := by decide +kernel
theorem dX6_layTrips_0 : decode cX6_layTrips 0 = .ok (.aload_n 0, 1) := by decide +kernel
theorem dX6_layTrips_1 : decode cX6_layTrips 1 = .ok (.iload_n 1, 1) := by decide +kernel
theorem dX6_layTrips_2 : decode cX6_layTrips 2 = .ok (.iload_n 2, 1) := by decide +kernel
theorem dX6_layTrips_3 : decode cX6_layTrips 3 = .ok (.iload_n 3, 1) := by decide +kernel
theorem dX6_layTrips_4 : decode cX6_layTrips 4 = .ok (.iconst 2, 1) := by decide +kernel
theorem dX6_layTrips_5 : decode cX6_layTrips 5 = .ok (.iload 4, 2) := by decide +kernel
theorem dX6_layTrips_7 : decode cX6_layTrips 7 = .ok (.imul, 1) := by decide +kernel
theorem dX6_layTrips_8 : decode cX6_layTrips 8 = .ok (.invokevirtual 100, 3) := by decide +kernel
theorem dX6_layTrips_11 : decode cX6_layTrips 11 = .ok (.istore 5, 2) := by decide +kernel
theorem dX6_layTrips_13 : decode cX6_layTrips 13 = .ok (.iload 5, 2) := by decide +kernel
theorem dX6_layTrips_15 : decode cX6_layTrips 15 = .ok (.ifCond .eq 10, 3) := by decide +kernel
theorem dX6_layTrips_18 : decode cX6_layTrips 18 = .ok (.aload_n 0, 1) := by decide +kernel
theorem dX6_layTrips_19 : decode cX6_layTrips 19 = .ok (.iload 5, 2) := by decide +kernel
theorem dX6_layTrips_21 : decode cX6_layTrips 21 = .ok (.invokevirtual 104, 3) := by decide +kernel
theorem dX6_layTrips_24 : decode cX6_layTrips 24 = .ok (.ireturn, 1) := by decide +kernel
theorem dX6_layTrips_25 : decode cX6_layTrips 25 = .ok (.aload_n 0, 1) := by decide +kernel
theorem dX6_layTrips_26 : decode cX6_layTrips 26 = .ok (.getfield 84, 3) := by decide +kernel
theorem dX6_layTrips_29 : decode cX6_layTrips 29 = .ok (.ifCond .ne 6, 3) := by decide +kernel
theorem dX6_layTrips_32 : decode cX6_layTrips 32 = .ok (.bipush (-3), 2) := by decide +kernel
theorem dX6_layTrips_34 : decode cX6_layTrips 34 = .ok (.ireturn, 1) := by decide +kernel
theorem dX6_layTrips_35 : decode cX6_layTrips 35 = .ok (.bipush 60, 2) := by decide +kernel
theorem dX6_layTrips_37 : decode cX6_layTrips 37 = .ok (.iload_n 1, 1) := by decide +kernel
theorem dX6_layTrips_38 : decode cX6_layTrips 38 = .ok (.imul, 1) := by decide +kernel
theorem dX6_layTrips_39 : decode cX6_layTrips 39 = .ok (.iload_n 3, 1) := by decide +kernel
theorem dX6_layTrips_40 : decode cX6_layTrips 40 = .ok (.iadd, 1) := by decide +kernel
theorem dX6_layTrips_41 : decode cX6_layTrips 41 = .ok (.istore 6, 2) := by decide +kernel
theorem dX6_layTrips_43 : decode cX6_layTrips 43 = .ok (.iconst 0, 1) := by decide +kernel
theorem dX6_layTrips_44 : decode cX6_layTrips 44 = .ok (.istore 7, 2) := by decide +kernel
theorem dX6_layTrips_46 : decode cX6_layTrips 46 = .ok (.iload 7, 2) := by decide +kernel
theorem dX6_layTrips_48 : decode cX6_layTrips 48 = .ok (.iload 4, 2) := by decide +kernel
theorem dX6_layTrips_50 : decode cX6_layTrips 50 = .ok (.if_icmp .ge 98, 3) := by decide +kernel
theorem dX6_layTrips_53 : decode cX6_layTrips 53 = .ok (.aload_n 0, 1) := by decide +kernel
theorem dX6_layTrips_54 : decode cX6_layTrips 54 = .ok (.aload_n 0, 1) := by decide +kernel
theorem dX6_layTrips_55 : decode cX6_layTrips 55 = .ok (.getfield 16, 3) := by decide +kernel
theorem dX6_layTrips_58 : decode cX6_layTrips 58 = .ok (.iload 6, 2) := by decide +kernel
theorem dX6_layTrips_60 : decode cX6_layTrips 60 = .ok (.iconst 2, 1) := by decide +kernel
theorem dX6_layTrips_61 : decode cX6_layTrips 61 = .ok (.iload 7, 2) := by decide +kernel
theorem dX6_layTrips_63 : decode cX6_layTrips 63 = .ok (.imul, 1) := by decide +kernel
theorem dX6_layTrips_64 : decode cX6_layTrips 64 = .ok (.iadd, 1) := by decide +kernel
theorem dX6_layTrips_65 : decode cX6_layTrips 65 = .ok (.iaload, 1) := by decide +kernel
theorem dX6_layTrips_66 : decode cX6_layTrips 66 = .ok (.invokevirtual 160, 3) := by decide +kernel
theorem dX6_layTrips_69 : decode cX6_layTrips 69 = .ok (.ifCond .ne 5, 3) := by decide +kernel
theorem dX6_layTrips_72 : decode cX6_layTrips 72 = .ok (.iconst (-1), 1) := by decide +kernel
theorem dX6_layTrips_73 : decode cX6_layTrips 73 = .ok (.ireturn, 1) := by decide +kernel
theorem dX6_layTrips_74 : decode cX6_layTrips 74 = .ok (.aload_n 0, 1) := by decide +kernel
theorem dX6_layTrips_75 : decode cX6_layTrips 75 = .ok (.getfield 16, 3) := by decide +kernel
theorem dX6_layTrips_78 : decode cX6_layTrips 78 = .ok (.iload 6, 2) := by decide +kernel
theorem dX6_layTrips_80 : decode cX6_layTrips 80 = .ok (.iconst 2, 1) := by decide +kernel
theorem dX6_layTrips_81 : decode cX6_layTrips 81 = .ok (.iload 7, 2) := by decide +kernel
theorem dX6_layTrips_83 : decode cX6_layTrips 83 = .ok (.imul, 1) := by decide +kernel
theorem dX6_layTrips_84 : decode cX6_layTrips 84 = .ok (.iadd, 1) := by decide +kernel
theorem dX6_layTrips_85 : decode cX6_layTrips 85 = .ok (.iconst 1, 1) := by decide +kernel
theorem dX6_layTrips_86 : decode cX6_layTrips 86 = .ok (.iadd, 1) := by decide +kernel
theorem dX6_layTrips_87 : decode cX6_layTrips 87 = .ok (.iaload, 1) := by decide +kernel
theorem dX6_layTrips_88 : decode cX6_layTrips 88 = .ok (.iconst 0, 1) := by decide +kernel
theorem dX6_layTrips_89 : decode cX6_layTrips 89 = .ok (.aload_n 0, 1) := by decide +kernel
theorem dX6_layTrips_90 : decode cX6_layTrips 90 = .ok (.invokevirtual 149, 3) := by decide +kernel
theorem dX6_layTrips_93 : decode cX6_layTrips 93 = .ok (.invokestatic 80, 3) := by decide +kernel
theorem dX6_layTrips_96 : decode cX6_layTrips 96 = .ok (.ifCond .ne 6, 3) := by decide +kernel
theorem dX6_layTrips_99 : decode cX6_layTrips 99 = .ok (.bipush (-2), 2) := by decide +kernel
theorem dX6_layTrips_101 : decode cX6_layTrips 101 = .ok (.ireturn, 1) := by decide +kernel
theorem dX6_layTrips_102 : decode cX6_layTrips 102 = .ok (.aload_n 0, 1) := by decide +kernel
theorem dX6_layTrips_103 : decode cX6_layTrips 103 = .ok (.getfield 48, 3) := by decide +kernel
theorem dX6_layTrips_106 : decode cX6_layTrips 106 = .ok (.iload 7, 2) := by decide +kernel
theorem dX6_layTrips_108 : decode cX6_layTrips 108 = .ok (.aload_n 0, 1) := by decide +kernel
theorem dX6_layTrips_109 : decode cX6_layTrips 109 = .ok (.getfield 16, 3) := by decide +kernel
theorem dX6_layTrips_112 : decode cX6_layTrips 112 = .ok (.iload 6, 2) := by decide +kernel
theorem dX6_layTrips_114 : decode cX6_layTrips 114 = .ok (.iconst 2, 1) := by decide +kernel
theorem dX6_layTrips_115 : decode cX6_layTrips 115 = .ok (.iload 7, 2) := by decide +kernel
theorem dX6_layTrips_117 : decode cX6_layTrips 117 = .ok (.imul, 1) := by decide +kernel
theorem dX6_layTrips_118 : decode cX6_layTrips 118 = .ok (.iadd, 1) := by decide +kernel
theorem dX6_layTrips_119 : decode cX6_layTrips 119 = .ok (.iaload, 1) := by decide +kernel
theorem dX6_layTrips_120 : decode cX6_layTrips 120 = .ok (.iastore, 1) := by decide +kernel
theorem dX6_layTrips_121 : decode cX6_layTrips 121 = .ok (.aload_n 0, 1) := by decide +kernel
theorem dX6_layTrips_122 : decode cX6_layTrips 122 = .ok (.getfield 51, 3) := by decide +kernel
theorem dX6_layTrips_125 : decode cX6_layTrips 125 = .ok (.iload 7, 2) := by decide +kernel
theorem dX6_layTrips_127 : decode cX6_layTrips 127 = .ok (.aload_n 0, 1) := by decide +kernel
theorem dX6_layTrips_128 : decode cX6_layTrips 128 = .ok (.getfield 16, 3) := by decide +kernel
theorem dX6_layTrips_131 : decode cX6_layTrips 131 = .ok (.iload 6, 2) := by decide +kernel
theorem dX6_layTrips_133 : decode cX6_layTrips 133 = .ok (.iconst 2, 1) := by decide +kernel
theorem dX6_layTrips_134 : decode cX6_layTrips 134 = .ok (.iload 7, 2) := by decide +kernel
theorem dX6_layTrips_136 : decode cX6_layTrips 136 = .ok (.imul, 1) := by decide +kernel
theorem dX6_layTrips_137 : decode cX6_layTrips 137 = .ok (.iadd, 1) := by decide +kernel
theorem dX6_layTrips_138 : decode cX6_layTrips 138 = .ok (.iconst 1, 1) := by decide +kernel
theorem dX6_layTrips_139 : decode cX6_layTrips 139 = .ok (.iadd, 1) := by decide +kernel
theorem dX6_layTrips_140 : decode cX6_layTrips 140 = .ok (.iaload, 1) := by decide +kernel
theorem dX6_layTrips_141 : decode cX6_layTrips 141 = .ok (.iastore, 1) := by decide +kernel
theorem dX6_layTrips_142 : decode cX6_layTrips 142 = .ok (.iinc 7 1, 3) := by decide +kernel
theorem dX6_layTrips_145 : decode cX6_layTrips 145 = .ok (.goto (-99), 3) := by decide +kernel
theorem dX6_layTrips_148 : decode cX6_layTrips 148 = .ok (.aload_n 0, 1) := by decide +kernel
theorem dX6_layTrips_149 : decode cX6_layTrips 149 = .ok (.iload 4, 2) := by decide +kernel
theorem dX6_layTrips_151 : decode cX6_layTrips 151 = .ok (.putfield 172, 3) := by decide +kernel
theorem dX6_layTrips_154 : decode cX6_layTrips 154 = .ok (.iconst 0, 1) := by decide +kernel
theorem dX6_layTrips_155 : decode cX6_layTrips 155 = .ok (.ireturn, 1) := by decide +kernel
theorem dX6_go_0 : decode cX6_go 0 = .ok (.aload_n 0, 1) := by decide +kernel
theorem dX6_go_1 : decode cX6_go 1 = .ok (.iconst 0, 1) := by decide +kernel
theorem dX6_go_2 : decode cX6_go 2 = .ok (.putfield 175, 3) := by decide +kernel
theorem dX6_go_5 : decode cX6_go 5 = .ok (.aload_n 0, 1) := by decide +kernel
theorem dX6_go_6 : decode cX6_go 6 = .ok (.iconst 0, 1) := by decide +kernel
theorem dX6_go_7 : decode cX6_go 7 = .ok (.putfield 178, 3) := by decide +kernel
theorem dX6_go_10 : decode cX6_go 10 = .ok (.aload_n 0, 1) := by decide +kernel
theorem dX6_go_11 : decode cX6_go 11 = .ok (.lconst 1, 1) := by decide +kernel
theorem dX6_go_12 : decode cX6_go 12 = .ok (.putfield 181, 3) := by decide +kernel
theorem dX6_go_15 : decode cX6_go 15 = .ok (.aload_n 0, 1) := by decide +kernel
theorem dX6_go_16 : decode cX6_go 16 = .ok (.lconst 1, 1) := by decide +kernel
theorem dX6_go_17 : decode cX6_go 17 = .ok (.putfield 185, 3) := by decide +kernel
theorem dX6_go_20 : decode cX6_go 20 = .ok (.iconst 0, 1) := by decide +kernel
theorem dX6_go_21 : decode cX6_go 21 = .ok (.istore_n 1, 1) := by decide +kernel
theorem dX6_go_22 : decode cX6_go 22 = .ok (.iload_n 1, 1) := by decide +kernel
theorem dX6_go_23 : decode cX6_go 23 = .ok (.aload_n 0, 1) := by decide +kernel
theorem dX6_go_24 : decode cX6_go 24 = .ok (.getfield 172, 3) := by decide +kernel
theorem dX6_go_27 : decode cX6_go 27 = .ok (.if_icmp .ge 167, 3) := by decide +kernel
theorem dX6_go_30 : decode cX6_go 30 = .ok (.aload_n 0, 1) := by decide +kernel
theorem dX6_go_31 : decode cX6_go 31 = .ok (.aload_n 0, 1) := by decide +kernel
theorem dX6_go_32 : decode cX6_go 32 = .ok (.getfield 175, 3) := by decide +kernel
theorem dX6_go_35 : decode cX6_go 35 = .ok (.aload_n 0, 1) := by decide +kernel
theorem dX6_go_36 : decode cX6_go 36 = .ok (.getfield 48, 3) := by decide +kernel
theorem dX6_go_39 : decode cX6_go 39 = .ok (.iload_n 1, 1) := by decide +kernel
theorem dX6_go_40 : decode cX6_go 40 = .ok (.iaload, 1) := by decide +kernel
theorem dX6_go_41 : decode cX6_go 41 = .ok (.aload_n 0, 1) := by decide +kernel
theorem dX6_go_42 : decode cX6_go 42 = .ok (.getfield 51, 3) := by decide +kernel
theorem dX6_go_45 : decode cX6_go 45 = .ok (.iload_n 1, 1) := by decide +kernel
theorem dX6_go_46 : decode cX6_go 46 = .ok (.iaload, 1) := by decide +kernel
theorem dX6_go_47 : decode cX6_go 47 = .ok (.invokevirtual 188, 3) := by decide +kernel
theorem dX6_go_50 : decode cX6_go 50 = .ok (.ifCond .ne 5, 3) := by decide +kernel
theorem dX6_go_53 : decode cX6_go 53 = .ok (.iload_n 1, 1) := by decide +kernel
theorem dX6_go_54 : decode cX6_go 54 = .ok (.ireturn, 1) := by decide +kernel
theorem dX6_go_55 : decode cX6_go 55 = .ok (.aload_n 0, 1) := by decide +kernel
theorem dX6_go_56 : decode cX6_go 56 = .ok (.getfield 175, 3) := by decide +kernel
theorem dX6_go_59 : decode cX6_go 59 = .ok (.iconst 3, 1) := by decide +kernel
theorem dX6_go_60 : decode cX6_go 60 = .ok (.iand, 1) := by decide +kernel
theorem dX6_go_61 : decode cX6_go 61 = .ok (.istore_n 2, 1) := by decide +kernel
theorem dX6_go_62 : decode cX6_go 62 = .ok (.aload_n 0, 1) := by decide +kernel
theorem dX6_go_63 : decode cX6_go 63 = .ok (.getfield 51, 3) := by decide +kernel
theorem dX6_go_66 : decode cX6_go 66 = .ok (.iload_n 1, 1) := by decide +kernel
theorem dX6_go_67 : decode cX6_go 67 = .ok (.iaload, 1) := by decide +kernel
theorem dX6_go_68 : decode cX6_go 68 = .ok (.ifCond .eq 47, 3) := by decide +kernel
theorem dX6_go_71 : decode cX6_go 71 = .ok (.aload_n 0, 1) := by decide +kernel
theorem dX6_go_72 : decode cX6_go 72 = .ok (.dup, 1) := by decide +kernel
theorem dX6_go_73 : decode cX6_go 73 = .ok (.getfield 181, 3) := by decide +kernel
theorem dX6_go_76 : decode cX6_go 76 = .ok (.bipush 10, 2) := by decide +kernel
theorem dX6_go_78 : decode cX6_go 78 = .ok (.aload_n 0, 1) := by decide +kernel
theorem dX6_go_79 : decode cX6_go 79 = .ok (.aload_n 0, 1) := by decide +kernel
theorem dX6_go_80 : decode cX6_go 80 = .ok (.iload_n 2, 1) := by decide +kernel
theorem dX6_go_81 : decode cX6_go 81 = .ok (.aload_n 0, 1) := by decide +kernel
theorem dX6_go_82 : decode cX6_go 82 = .ok (.getfield 48, 3) := by decide +kernel
theorem dX6_go_85 : decode cX6_go 85 = .ok (.iload_n 1, 1) := by decide +kernel
theorem dX6_go_86 : decode cX6_go 86 = .ok (.iaload, 1) := by decide +kernel
theorem dX6_go_87 : decode cX6_go 87 = .ok (.invokevirtual 166, 3) := by decide +kernel
theorem dX6_go_90 : decode cX6_go 90 = .ok (.aload_n 0, 1) := by decide +kernel
theorem dX6_go_91 : decode cX6_go 91 = .ok (.getfield 178, 3) := by decide +kernel
theorem dX6_go_94 : decode cX6_go 94 = .ok (.invokevirtual 169, 3) := by decide +kernel
theorem dX6_go_97 : decode cX6_go 97 = .ok (.isub, 1) := by decide +kernel
theorem dX6_go_98 : decode cX6_go 98 = .ok (.i2l, 1) := by decide +kernel
theorem dX6_go_99 : decode cX6_go 99 = .ok (.lmul, 1) := by decide +kernel
theorem dX6_go_100 : decode cX6_go 100 = .ok (.putfield 181, 3) := by decide +kernel
theorem dX6_go_103 : decode cX6_go 103 = .ok (.aload_n 0, 1) := by decide +kernel
theorem dX6_go_104 : decode cX6_go 104 = .ok (.dup, 1) := by decide +kernel
theorem dX6_go_105 : decode cX6_go 105 = .ok (.getfield 185, 3) := by decide +kernel
theorem dX6_go_108 : decode cX6_go 108 = .ok (.ldc2_w 191, 3) := by decide +kernel
theorem dX6_go_111 : decode cX6_go 111 = .ok (.lmul, 1) := by decide +kernel
theorem dX6_go_112 : decode cX6_go 112 = .ok (.putfield 185, 3) := by decide +kernel
theorem dX6_go_115 : decode cX6_go 115 = .ok (.aload_n 0, 1) := by decide +kernel
theorem dX6_go_116 : decode cX6_go 116 = .ok (.getfield 54, 3) := by decide +kernel
theorem dX6_go_119 : decode cX6_go 119 = .ok (.iload_n 1, 1) := by decide +kernel
theorem dX6_go_120 : decode cX6_go 120 = .ok (.aload_n 0, 1) := by decide +kernel
theorem dX6_go_121 : decode cX6_go 121 = .ok (.getfield 178, 3) := by decide +kernel
theorem dX6_go_124 : decode cX6_go 124 = .ok (.iastore, 1) := by decide +kernel
theorem dX6_go_125 : decode cX6_go 125 = .ok (.aload_n 0, 1) := by decide +kernel
theorem dX6_go_126 : decode cX6_go 126 = .ok (.dup, 1) := by decide +kernel
theorem dX6_go_127 : decode cX6_go 127 = .ok (.getfield 178, 3) := by decide +kernel
theorem dX6_go_130 : decode cX6_go 130 = .ok (.aload_n 0, 1) := by decide +kernel
theorem dX6_go_131 : decode cX6_go 131 = .ok (.iload_n 2, 1) := by decide +kernel
theorem dX6_go_132 : decode cX6_go 132 = .ok (.aload_n 0, 1) := by decide +kernel
theorem dX6_go_133 : decode cX6_go 133 = .ok (.getfield 48, 3) := by decide +kernel
theorem dX6_go_136 : decode cX6_go 136 = .ok (.iload_n 1, 1) := by decide +kernel
theorem dX6_go_137 : decode cX6_go 137 = .ok (.iaload, 1) := by decide +kernel
theorem dX6_go_138 : decode cX6_go 138 = .ok (.aload_n 0, 1) := by decide +kernel
theorem dX6_go_139 : decode cX6_go 139 = .ok (.getfield 51, 3) := by decide +kernel
theorem dX6_go_142 : decode cX6_go 142 = .ok (.iload_n 1, 1) := by decide +kernel
theorem dX6_go_143 : decode cX6_go 143 = .ok (.iaload, 1) := by decide +kernel
theorem dX6_go_144 : decode cX6_go 144 = .ok (.aload_n 0, 1) := by decide +kernel
theorem dX6_go_145 : decode cX6_go 145 = .ok (.getfield 178, 3) := by decide +kernel
theorem dX6_go_148 : decode cX6_go 148 = .ok (.invokevirtual 193, 3) := by decide +kernel
theorem dX6_go_151 : decode cX6_go 151 = .ok (.iadd, 1) := by decide +kernel
theorem dX6_go_152 : decode cX6_go 152 = .ok (.putfield 178, 3) := by decide +kernel
theorem dX6_go_155 : decode cX6_go 155 = .ok (.aload_n 0, 1) := by decide +kernel
theorem dX6_go_156 : decode cX6_go 156 = .ok (.getfield 57, 3) := by decide +kernel
theorem dX6_go_159 : decode cX6_go 159 = .ok (.iload_n 1, 1) := by decide +kernel
theorem dX6_go_160 : decode cX6_go 160 = .ok (.aload_n 0, 1) := by decide +kernel
theorem dX6_go_161 : decode cX6_go 161 = .ok (.getfield 178, 3) := by decide +kernel
theorem dX6_go_164 : decode cX6_go 164 = .ok (.iastore, 1) := by decide +kernel
theorem dX6_go_165 : decode cX6_go 165 = .ok (.aload_n 0, 1) := by decide +kernel
theorem dX6_go_166 : decode cX6_go 166 = .ok (.aload_n 0, 1) := by decide +kernel
theorem dX6_go_167 : decode cX6_go 167 = .ok (.getfield 175, 3) := by decide +kernel
theorem dX6_go_170 : decode cX6_go 170 = .ok (.aload_n 0, 1) := by decide +kernel
theorem dX6_go_171 : decode cX6_go 171 = .ok (.getfield 48, 3) := by decide +kernel
theorem dX6_go_174 : decode cX6_go 174 = .ok (.iload_n 1, 1) := by decide +kernel
theorem dX6_go_175 : decode cX6_go 175 = .ok (.iaload, 1) := by decide +kernel
theorem dX6_go_176 : decode cX6_go 176 = .ok (.aload_n 0, 1) := by decide +kernel
theorem dX6_go_177 : decode cX6_go 177 = .ok (.getfield 51, 3) := by decide +kernel
theorem dX6_go_180 : decode cX6_go 180 = .ok (.iload_n 1, 1) := by decide +kernel
theorem dX6_go_181 : decode cX6_go 181 = .ok (.iaload, 1) := by decide +kernel
theorem dX6_go_182 : decode cX6_go 182 = .ok (.invokestatic 196, 3) := by decide +kernel
theorem dX6_go_185 : decode cX6_go 185 = .ok (.putfield 175, 3) := by decide +kernel
theorem dX6_go_188 : decode cX6_go 188 = .ok (.iinc 1 1, 3) := by decide +kernel
theorem dX6_go_191 : decode cX6_go 191 = .ok (.goto (-169), 3) := by decide +kernel
theorem dX6_go_194 : decode cX6_go 194 = .ok (.bipush (-9), 2) := by decide +kernel
theorem dX6_go_196 : decode cX6_go 196 = .ok (.ireturn, 1) := by decide +kernel
theorem dX6_arePairs_0 : decode cX6_arePairs 0 = .ok (.iload_n 0, 1) := by decide +kernel
theorem dX6_arePairs_1 : decode cX6_arePairs 1 = .ok (.invokestatic 97, 3) := by decide +kernel
theorem dX6_arePairs_4 : decode cX6_arePairs 4 = .ok (.ifCond .eq 17, 3) := by decide +kernel
theorem dX6_arePairs_7 : decode cX6_arePairs 7 = .ok (.iload_n 1, 1) := by decide +kernel
theorem dX6_arePairs_8 : decode cX6_arePairs 8 = .ok (.iconst 0, 1) := by decide +kernel
theorem dX6_arePairs_9 : decode cX6_arePairs 9 = .ok (.bipush 18, 2) := by decide +kernel
theorem dX6_arePairs_11 : decode cX6_arePairs 11 = .ok (.invokestatic 80, 3) := by decide +kernel
theorem dX6_arePairs_14 : decode cX6_arePairs 14 = .ok (.ifCond .eq 7, 3) := by decide +kernel
theorem dX6_arePairs_17 : decode cX6_arePairs 17 = .ok (.iconst 1, 1) := by decide +kernel
theorem dX6_arePairs_18 : decode cX6_arePairs 18 = .ok (.goto 4, 3) := by decide +kernel
theorem dX6_arePairs_21 : decode cX6_arePairs 21 = .ok (.iconst 0, 1) := by decide +kernel
theorem dX6_arePairs_22 : decode cX6_arePairs 22 = .ok (.ireturn, 1) := by decide +kernel
theorem dX6_trips_0 : decode cX6_trips 0 = .ok (.aload_n 0, 1) := by decide +kernel
theorem dX6_trips_1 : decode cX6_trips 1 = .ok (.iconst 0, 1) := by decide +kernel
theorem dX6_trips_2 : decode cX6_trips 2 = .ok (.putfield 75, 3) := by decide +kernel
theorem dX6_trips_5 : decode cX6_trips 5 = .ok (.iload_n 1, 1) := by decide +kernel
theorem dX6_trips_6 : decode cX6_trips 6 = .ok (.invokestatic 93, 3) := by decide +kernel
theorem dX6_trips_9 : decode cX6_trips 9 = .ok (.ifCond .ne 5, 3) := by decide +kernel
theorem dX6_trips_12 : decode cX6_trips 12 = .ok (.iconst (-1), 1) := by decide +kernel
theorem dX6_trips_13 : decode cX6_trips 13 = .ok (.ireturn, 1) := by decide +kernel
theorem dX6_trips_14 : decode cX6_trips 14 = .ok (.iload_n 2, 1) := by decide +kernel
theorem dX6_trips_15 : decode cX6_trips 15 = .ok (.iload 4, 2) := by decide +kernel
theorem dX6_trips_17 : decode cX6_trips 17 = .ok (.invokestatic 199, 3) := by decide +kernel
theorem dX6_trips_20 : decode cX6_trips 20 = .ok (.ifCond .eq 25, 3) := by decide +kernel
theorem dX6_trips_23 : decode cX6_trips 23 = .ok (.iload 5, 2) := by decide +kernel
theorem dX6_trips_25 : decode cX6_trips 25 = .ok (.iconst 0, 1) := by decide +kernel
theorem dX6_trips_26 : decode cX6_trips 26 = .ok (.iconst 2, 1) := by decide +kernel
theorem dX6_trips_27 : decode cX6_trips 27 = .ok (.invokestatic 80, 3) := by decide +kernel
theorem dX6_trips_30 : decode cX6_trips 30 = .ok (.ifCond .ne 18, 3) := by decide +kernel
theorem dX6_trips_33 : decode cX6_trips 33 = .ok (.iload 5, 2) := by decide +kernel
theorem dX6_trips_35 : decode cX6_trips 35 = .ok (.bipush 10, 2) := by decide +kernel
theorem dX6_trips_37 : decode cX6_trips 37 = .ok (.bipush 13, 2) := by decide +kernel
theorem dX6_trips_39 : decode cX6_trips 39 = .ok (.invokestatic 80, 3) := by decide +kernel
theorem dX6_trips_42 : decode cX6_trips 42 = .ok (.ifCond .ne 6, 3) := by decide +kernel
theorem dX6_trips_45 : decode cX6_trips 45 = .ok (.bipush (-2), 2) := by decide +kernel
theorem dX6_trips_47 : decode cX6_trips 47 = .ok (.ireturn, 1) := by decide +kernel
theorem dX6_trips_48 : decode cX6_trips 48 = .ok (.aload_n 0, 1) := by decide +kernel
theorem dX6_trips_49 : decode cX6_trips 49 = .ok (.iload_n 1, 1) := by decide +kernel
theorem dX6_trips_50 : decode cX6_trips 50 = .ok (.iload_n 2, 1) := by decide +kernel
theorem dX6_trips_51 : decode cX6_trips 51 = .ok (.iload_n 3, 1) := by decide +kernel
theorem dX6_trips_52 : decode cX6_trips 52 = .ok (.iload 4, 2) := by decide +kernel
theorem dX6_trips_54 : decode cX6_trips 54 = .ok (.invokevirtual 202, 3) := by decide +kernel
theorem dX6_trips_57 : decode cX6_trips 57 = .ok (.istore 6, 2) := by decide +kernel
theorem dX6_trips_59 : decode cX6_trips 59 = .ok (.iload 6, 2) := by decide +kernel
theorem dX6_trips_61 : decode cX6_trips 61 = .ok (.ifCond .eq 6, 3) := by decide +kernel
theorem dX6_trips_64 : decode cX6_trips 64 = .ok (.iload 6, 2) := by decide +kernel
theorem dX6_trips_66 : decode cX6_trips 66 = .ok (.ireturn, 1) := by decide +kernel
theorem dX6_trips_67 : decode cX6_trips 67 = .ok (.aload_n 0, 1) := by decide +kernel
theorem dX6_trips_68 : decode cX6_trips 68 = .ok (.invokevirtual 205, 3) := by decide +kernel
theorem dX6_trips_71 : decode cX6_trips 71 = .ok (.istore 7, 2) := by decide +kernel
theorem dX6_trips_73 : decode cX6_trips 73 = .ok (.iload 5, 2) := by decide +kernel
theorem dX6_trips_75 : decode cX6_trips 75 = .ok (.iconst 1, 1) := by decide +kernel
theorem dX6_trips_76 : decode cX6_trips 76 = .ok (.if_icmp .ne 6, 3) := by decide +kernel
theorem dX6_trips_79 : decode cX6_trips 79 = .ok (.iload 7, 2) := by decide +kernel
theorem dX6_trips_81 : decode cX6_trips 81 = .ok (.ireturn, 1) := by decide +kernel
theorem dX6_trips_82 : decode cX6_trips 82 = .ok (.iload 7, 2) := by decide +kernel
theorem dX6_trips_84 : decode cX6_trips 84 = .ok (.bipush (-9), 2) := by decide +kernel
theorem dX6_trips_86 : decode cX6_trips 86 = .ok (.if_icmp .eq 9, 3) := by decide +kernel
theorem dX6_trips_89 : decode cX6_trips 89 = .ok (.bipush (-100), 2) := by decide +kernel
theorem dX6_trips_91 : decode cX6_trips 91 = .ok (.iload 7, 2) := by decide +kernel
theorem dX6_trips_93 : decode cX6_trips 93 = .ok (.isub, 1) := by decide +kernel
theorem dX6_trips_94 : decode cX6_trips 94 = .ok (.ireturn, 1) := by decide +kernel
theorem dX6_trips_95 : decode cX6_trips 95 = .ok (.iload 5, 2) := by decide +kernel
theorem dX6_trips_97 : decode cX6_trips 97 = .ok (.iconst 2, 1) := by decide +kernel
theorem dX6_trips_98 : decode cX6_trips 98 = .ok (.if_icmp .le 34, 3) := by decide +kernel
theorem dX6_trips_101 : decode cX6_trips 101 = .ok (.aload_n 0, 1) := by decide +kernel
theorem dX6_trips_102 : decode cX6_trips 102 = .ok (.iload 5, 2) := by decide +kernel
theorem dX6_trips_104 : decode cX6_trips 104 = .ok (.bipush 10, 2) := by decide +kernel
theorem dX6_trips_106 : decode cX6_trips 106 = .ok (.isub, 1) := by decide +kernel
theorem dX6_trips_107 : decode cX6_trips 107 = .ok (.invokevirtual 160, 3) := by decide +kernel
theorem dX6_trips_110 : decode cX6_trips 110 = .ok (.ifCond .eq 19, 3) := by decide +kernel
theorem dX6_trips_113 : decode cX6_trips 113 = .ok (.aload_n 0, 1) := by decide +kernel
theorem dX6_trips_114 : decode cX6_trips 114 = .ok (.aload_n 0, 1) := by decide +kernel
theorem dX6_trips_115 : decode cX6_trips 115 = .ok (.getfield 175, 3) := by decide +kernel
theorem dX6_trips_118 : decode cX6_trips 118 = .ok (.iload 5, 2) := by decide +kernel
theorem dX6_trips_120 : decode cX6_trips 120 = .ok (.bipush 10, 2) := by decide +kernel
theorem dX6_trips_122 : decode cX6_trips 122 = .ok (.isub, 1) := by decide +kernel
theorem dX6_trips_123 : decode cX6_trips 123 = .ok (.invokevirtual 156, 3) := by decide +kernel
theorem dX6_trips_126 : decode cX6_trips 126 = .ok (.goto 5, 3) := by decide +kernel
theorem dX6_trips_129 : decode cX6_trips 129 = .ok (.bipush (-9), 2) := by decide +kernel
theorem dX6_trips_131 : decode cX6_trips 131 = .ok (.ireturn, 1) := by decide +kernel
theorem dX6_trips_132 : decode cX6_trips 132 = .ok (.iload 5, 2) := by decide +kernel
theorem dX6_trips_134 : decode cX6_trips 134 = .ok (.ifCond .ne 10, 3) := by decide +kernel
theorem dX6_trips_137 : decode cX6_trips 137 = .ok (.aload_n 0, 1) := by decide +kernel
theorem dX6_trips_138 : decode cX6_trips 138 = .ok (.getfield 178, 3) := by decide +kernel
theorem dX6_trips_141 : decode cX6_trips 141 = .ok (.goto 9, 3) := by decide +kernel
theorem dX6_trips_144 : decode cX6_trips 144 = .ok (.aload_n 0, 1) := by decide +kernel
theorem dX6_trips_145 : decode cX6_trips 145 = .ok (.getfield 175, 3) := by decide +kernel
theorem dX6_trips_148 : decode cX6_trips 148 = .ok (.iconst 3, 1) := by decide +kernel
theorem dX6_trips_149 : decode cX6_trips 149 = .ok (.iand, 1) := by decide +kernel
theorem dX6_trips_150 : decode cX6_trips 150 = .ok (.ireturn, 1) := by decide +kernel
theorem dX6_spotAt_0 : decode cX6_spotAt 0 = .ok (.iconst 0, 1) := by decide +kernel
theorem dX6_spotAt_1 : decode cX6_spotAt 1 = .ok (.istore_n 3, 1) := by decide +kernel
theorem dX6_spotAt_2 : decode cX6_spotAt 2 = .ok (.iconst 0, 1) := by decide +kernel
theorem dX6_spotAt_3 : decode cX6_spotAt 3 = .ok (.istore 4, 2) := by decide +kernel
theorem dX6_spotAt_5 : decode cX6_spotAt 5 = .ok (.iload 4, 2) := by decide +kernel
theorem dX6_spotAt_7 : decode cX6_spotAt 7 = .ok (.aload_n 0, 1) := by decide +kernel
theorem dX6_spotAt_8 : decode cX6_spotAt 8 = .ok (.getfield 172, 3) := by decide +kernel
theorem dX6_spotAt_11 : decode cX6_spotAt 11 = .ok (.if_icmp .ge 59, 3) := by decide +kernel
theorem dX6_spotAt_14 : decode cX6_spotAt 14 = .ok (.aload_n 0, 1) := by decide +kernel
theorem dX6_spotAt_15 : decode cX6_spotAt 15 = .ok (.getfield 51, 3) := by decide +kernel
theorem dX6_spotAt_18 : decode cX6_spotAt 18 = .ok (.iload 4, 2) := by decide +kernel
theorem dX6_spotAt_20 : decode cX6_spotAt 20 = .ok (.iaload, 1) := by decide +kernel
theorem dX6_spotAt_21 : decode cX6_spotAt 21 = .ok (.iload_n 1, 1) := by decide +kernel
theorem dX6_spotAt_22 : decode cX6_spotAt 22 = .ok (.ishr, 1) := by decide +kernel
theorem dX6_spotAt_23 : decode cX6_spotAt 23 = .ok (.iconst 1, 1) := by decide +kernel
theorem dX6_spotAt_24 : decode cX6_spotAt 24 = .ok (.iand, 1) := by decide +kernel
theorem dX6_spotAt_25 : decode cX6_spotAt 25 = .ok (.iconst 1, 1) := by decide +kernel
theorem dX6_spotAt_26 : decode cX6_spotAt 26 = .ok (.if_icmp .ne 38, 3) := by decide +kernel
theorem dX6_spotAt_29 : decode cX6_spotAt 29 = .ok (.aload_n 0, 1) := by decide +kernel
theorem dX6_spotAt_30 : decode cX6_spotAt 30 = .ok (.getfield 54, 3) := by decide +kernel
theorem dX6_spotAt_33 : decode cX6_spotAt 33 = .ok (.iload 4, 2) := by decide +kernel
theorem dX6_spotAt_35 : decode cX6_spotAt 35 = .ok (.iaload, 1) := by decide +kernel
theorem dX6_spotAt_36 : decode cX6_spotAt 36 = .ok (.iload_n 2, 1) := by decide +kernel
theorem dX6_spotAt_37 : decode cX6_spotAt 37 = .ok (.if_icmp .gt 27, 3) := by decide +kernel
theorem dX6_spotAt_40 : decode cX6_spotAt 40 = .ok (.iload_n 2, 1) := by decide +kernel
theorem dX6_spotAt_41 : decode cX6_spotAt 41 = .ok (.aload_n 0, 1) := by decide +kernel
theorem dX6_spotAt_42 : decode cX6_spotAt 42 = .ok (.getfield 57, 3) := by decide +kernel
theorem dX6_spotAt_45 : decode cX6_spotAt 45 = .ok (.iload 4, 2) := by decide +kernel
theorem dX6_spotAt_47 : decode cX6_spotAt 47 = .ok (.iaload, 1) := by decide +kernel
theorem dX6_spotAt_48 : decode cX6_spotAt 48 = .ok (.if_icmp .ge 8, 3) := by decide +kernel
theorem dX6_spotAt_51 : decode cX6_spotAt 51 = .ok (.bipush (-9), 2) := by decide +kernel
theorem dX6_spotAt_53 : decode cX6_spotAt 53 = .ok (.goto 10, 3) := by decide +kernel
theorem dX6_spotAt_56 : decode cX6_spotAt 56 = .ok (.aload_n 0, 1) := by decide +kernel
theorem dX6_spotAt_57 : decode cX6_spotAt 57 = .ok (.getfield 48, 3) := by decide +kernel
theorem dX6_spotAt_60 : decode cX6_spotAt 60 = .ok (.iload 4, 2) := by decide +kernel
theorem dX6_spotAt_62 : decode cX6_spotAt 62 = .ok (.iaload, 1) := by decide +kernel
theorem dX6_spotAt_63 : decode cX6_spotAt 63 = .ok (.istore_n 3, 1) := by decide +kernel
theorem dX6_spotAt_64 : decode cX6_spotAt 64 = .ok (.iinc 4 1, 3) := by decide +kernel
theorem dX6_spotAt_67 : decode cX6_spotAt 67 = .ok (.goto (-62), 3) := by decide +kernel
theorem dX6_spotAt_70 : decode cX6_spotAt 70 = .ok (.iload_n 3, 1) := by decide +kernel
theorem dX6_spotAt_71 : decode cX6_spotAt 71 = .ok (.ireturn, 1) := by decide +kernel
theorem dX6_at_0 : decode cX6_at 0 = .ok (.aload_n 0, 1) := by decide +kernel
theorem dX6_at_1 : decode cX6_at 1 = .ok (.iconst 0, 1) := by decide +kernel
theorem dX6_at_2 : decode cX6_at 2 = .ok (.putfield 75, 3) := by decide +kernel
theorem dX6_at_5 : decode cX6_at 5 = .ok (.aload_n 0, 1) := by decide +kernel
theorem dX6_at_6 : decode cX6_at 6 = .ok (.iload_n 1, 1) := by decide +kernel
theorem dX6_at_7 : decode cX6_at 7 = .ok (.invokevirtual 143, 3) := by decide +kernel
theorem dX6_at_10 : decode cX6_at 10 = .ok (.ifCond .ne 5, 3) := by decide +kernel
theorem dX6_at_13 : decode cX6_at 13 = .ok (.iconst (-1), 1) := by decide +kernel
theorem dX6_at_14 : decode cX6_at 14 = .ok (.ireturn, 1) := by decide +kernel
theorem dX6_at_15 : decode cX6_at 15 = .ok (.iload_n 2, 1) := by decide +kernel
theorem dX6_at_16 : decode cX6_at 16 = .ok (.iconst 0, 1) := by decide +kernel
theorem dX6_at_17 : decode cX6_at 17 = .ok (.sipush 999, 3) := by decide +kernel
theorem dX6_at_20 : decode cX6_at 20 = .ok (.invokestatic 80, 3) := by decide +kernel
theorem dX6_at_23 : decode cX6_at 23 = .ok (.ifCond .ne 6, 3) := by decide +kernel
theorem dX6_at_26 : decode cX6_at 26 = .ok (.bipush (-2), 2) := by decide +kernel
theorem dX6_at_28 : decode cX6_at 28 = .ok (.ireturn, 1) := by decide +kernel
theorem dX6_at_29 : decode cX6_at 29 = .ok (.iload_n 3, 1) := by decide +kernel
theorem dX6_at_30 : decode cX6_at 30 = .ok (.invokestatic 93, 3) := by decide +kernel
theorem dX6_at_33 : decode cX6_at 33 = .ok (.ifCond .ne 5, 3) := by decide +kernel
theorem dX6_at_36 : decode cX6_at 36 = .ok (.iconst (-1), 1) := by decide +kernel
theorem dX6_at_37 : decode cX6_at 37 = .ok (.ireturn, 1) := by decide +kernel
theorem dX6_at_38 : decode cX6_at 38 = .ok (.iload 4, 2) := by decide +kernel
theorem dX6_at_40 : decode cX6_at 40 = .ok (.iload 6, 2) := by decide +kernel
theorem dX6_at_42 : decode cX6_at 42 = .ok (.invokestatic 199, 3) := by decide +kernel
theorem dX6_at_45 : decode cX6_at 45 = .ok (.ifCond .ne 6, 3) := by decide +kernel
theorem dX6_at_48 : decode cX6_at 48 = .ok (.bipush (-2), 2) := by decide +kernel
theorem dX6_at_50 : decode cX6_at 50 = .ok (.ireturn, 1) := by decide +kernel
theorem dX6_at_51 : decode cX6_at 51 = .ok (.aload_n 0, 1) := by decide +kernel
theorem dX6_at_52 : decode cX6_at 52 = .ok (.iload_n 3, 1) := by decide +kernel
theorem dX6_at_53 : decode cX6_at 53 = .ok (.iload 4, 2) := by decide +kernel
theorem dX6_at_55 : decode cX6_at 55 = .ok (.iload 5, 2) := by decide +kernel
theorem dX6_at_57 : decode cX6_at 57 = .ok (.iload 6, 2) := by decide +kernel
theorem dX6_at_59 : decode cX6_at 59 = .ok (.invokevirtual 202, 3) := by decide +kernel
theorem dX6_at_62 : decode cX6_at 62 = .ok (.istore 7, 2) := by decide +kernel
theorem dX6_at_64 : decode cX6_at 64 = .ok (.iload 7, 2) := by decide +kernel
theorem dX6_at_66 : decode cX6_at 66 = .ok (.ifCond .eq 6, 3) := by decide +kernel
theorem dX6_at_69 : decode cX6_at 69 = .ok (.iload 7, 2) := by decide +kernel
theorem dX6_at_71 : decode cX6_at 71 = .ok (.ireturn, 1) := by decide +kernel
theorem dX6_at_72 : decode cX6_at 72 = .ok (.aload_n 0, 1) := by decide +kernel
theorem dX6_at_73 : decode cX6_at 73 = .ok (.invokevirtual 205, 3) := by decide +kernel
theorem dX6_at_76 : decode cX6_at 76 = .ok (.istore 8, 2) := by decide +kernel
theorem dX6_at_78 : decode cX6_at 78 = .ok (.iload 8, 2) := by decide +kernel
theorem dX6_at_80 : decode cX6_at 80 = .ok (.bipush (-9), 2) := by decide +kernel
theorem dX6_at_82 : decode cX6_at 82 = .ok (.if_icmp .ne 12, 3) := by decide +kernel
theorem dX6_at_85 : decode cX6_at 85 = .ok (.aload_n 0, 1) := by decide +kernel
theorem dX6_at_86 : decode cX6_at 86 = .ok (.iload_n 1, 1) := by decide +kernel
theorem dX6_at_87 : decode cX6_at 87 = .ok (.iload_n 2, 1) := by decide +kernel
theorem dX6_at_88 : decode cX6_at 88 = .ok (.invokevirtual 208, 3) := by decide +kernel
theorem dX6_at_91 : decode cX6_at 91 = .ok (.goto 8, 3) := by decide +kernel
theorem dX6_at_94 : decode cX6_at 94 = .ok (.bipush (-100), 2) := by decide +kernel
theorem dX6_at_96 : decode cX6_at 96 = .ok (.iload 8, 2) := by decide +kernel
theorem dX6_at_98 : decode cX6_at 98 = .ok (.isub, 1) := by decide +kernel
theorem dX6_at_99 : decode cX6_at 99 = .ok (.ireturn, 1) := by decide +kernel
theorem dX6_inLeastTerms_0 : decode cX6_inLeastTerms 0 = .ok (.lload_n 0, 1) := by decide +kernel
theorem dX6_inLeastTerms_1 : decode cX6_inLeastTerms 1 = .ok (.lstore 5, 2) := by decide +kernel
theorem dX6_inLeastTerms_3 : decode cX6_inLeastTerms 3 = .ok (.lload_n 2, 1) := by decide +kernel
theorem dX6_inLeastTerms_4 : decode cX6_inLeastTerms 4 = .ok (.lstore 7, 2) := by decide +kernel
theorem dX6_inLeastTerms_6 : decode cX6_inLeastTerms 6 = .ok (.lload 7, 2) := by decide +kernel
theorem dX6_inLeastTerms_8 : decode cX6_inLeastTerms 8 = .ok (.lconst 0, 1) := by decide +kernel
theorem dX6_inLeastTerms_9 : decode cX6_inLeastTerms 9 = .ok (.lcmp, 1) := by decide +kernel
theorem dX6_inLeastTerms_10 : decode cX6_inLeastTerms 10 = .ok (.ifCond .eq 21, 3) := by decide +kernel
theorem dX6_inLeastTerms_13 : decode cX6_inLeastTerms 13 = .ok (.lload 5, 2) := by decide +kernel
theorem dX6_inLeastTerms_15 : decode cX6_inLeastTerms 15 = .ok (.lload 7, 2) := by decide +kernel
theorem dX6_inLeastTerms_17 : decode cX6_inLeastTerms 17 = .ok (.lrem, 1) := by decide +kernel
theorem dX6_inLeastTerms_18 : decode cX6_inLeastTerms 18 = .ok (.lstore 9, 2) := by decide +kernel
theorem dX6_inLeastTerms_20 : decode cX6_inLeastTerms 20 = .ok (.lload 7, 2) := by decide +kernel
theorem dX6_inLeastTerms_22 : decode cX6_inLeastTerms 22 = .ok (.lstore 5, 2) := by decide +kernel
theorem dX6_inLeastTerms_24 : decode cX6_inLeastTerms 24 = .ok (.lload 9, 2) := by decide +kernel
theorem dX6_inLeastTerms_26 : decode cX6_inLeastTerms 26 = .ok (.lstore 7, 2) := by decide +kernel
theorem dX6_inLeastTerms_28 : decode cX6_inLeastTerms 28 = .ok (.goto (-22), 3) := by decide +kernel
theorem dX6_inLeastTerms_31 : decode cX6_inLeastTerms 31 = .ok (.iload 4, 2) := by decide +kernel
theorem dX6_inLeastTerms_33 : decode cX6_inLeastTerms 33 = .ok (.ifCond .ne 10, 3) := by decide +kernel
theorem dX6_inLeastTerms_36 : decode cX6_inLeastTerms 36 = .ok (.lload_n 0, 1) := by decide +kernel
theorem dX6_inLeastTerms_37 : decode cX6_inLeastTerms 37 = .ok (.lload 5, 2) := by decide +kernel
theorem dX6_inLeastTerms_39 : decode cX6_inLeastTerms 39 = .ok (.ldiv, 1) := by decide +kernel
theorem dX6_inLeastTerms_40 : decode cX6_inLeastTerms 40 = .ok (.goto 7, 3) := by decide +kernel
theorem dX6_inLeastTerms_43 : decode cX6_inLeastTerms 43 = .ok (.lload_n 2, 1) := by decide +kernel
theorem dX6_inLeastTerms_44 : decode cX6_inLeastTerms 44 = .ok (.lload 5, 2) := by decide +kernel
theorem dX6_inLeastTerms_46 : decode cX6_inLeastTerms 46 = .ok (.ldiv, 1) := by decide +kernel
theorem dX6_inLeastTerms_47 : decode cX6_inLeastTerms 47 = .ok (.lreturn, 1) := by decide +kernel
theorem dX6_dry_0 : decode cX6_dry 0 = .ok (.aload_n 0, 1) := by decide +kernel
theorem dX6_dry_1 : decode cX6_dry 1 = .ok (.iconst 0, 1) := by decide +kernel
theorem dX6_dry_2 : decode cX6_dry 2 = .ok (.putfield 75, 3) := by decide +kernel
theorem dX6_dry_5 : decode cX6_dry 5 = .ok (.iload_n 1, 1) := by decide +kernel
theorem dX6_dry_6 : decode cX6_dry 6 = .ok (.invokestatic 93, 3) := by decide +kernel
theorem dX6_dry_9 : decode cX6_dry 9 = .ok (.ifCond .eq 22, 3) := by decide +kernel
theorem dX6_dry_12 : decode cX6_dry 12 = .ok (.iload_n 2, 1) := by decide +kernel
theorem dX6_dry_13 : decode cX6_dry 13 = .ok (.iload 4, 2) := by decide +kernel
theorem dX6_dry_15 : decode cX6_dry 15 = .ok (.invokestatic 199, 3) := by decide +kernel
theorem dX6_dry_18 : decode cX6_dry 18 = .ok (.ifCond .eq 13, 3) := by decide +kernel
theorem dX6_dry_21 : decode cX6_dry 21 = .ok (.iload 5, 2) := by decide +kernel
theorem dX6_dry_23 : decode cX6_dry 23 = .ok (.iconst 0, 1) := by decide +kernel
theorem dX6_dry_24 : decode cX6_dry 24 = .ok (.iconst 1, 1) := by decide +kernel
theorem dX6_dry_25 : decode cX6_dry 25 = .ok (.invokestatic 80, 3) := by decide +kernel
theorem dX6_dry_28 : decode cX6_dry 28 = .ok (.ifCond .ne 7, 3) := by decide +kernel
theorem dX6_dry_31 : decode cX6_dry 31 = .ok (.ldc2_w 78, 3) := by decide +kernel
theorem dX6_dry_34 : decode cX6_dry 34 = .ok (.lreturn, 1) := by decide +kernel
theorem dX6_dry_35 : decode cX6_dry 35 = .ok (.aload_n 0, 1) := by decide +kernel
theorem dX6_dry_36 : decode cX6_dry 36 = .ok (.iload_n 1, 1) := by decide +kernel
theorem dX6_dry_37 : decode cX6_dry 37 = .ok (.iload_n 2, 1) := by decide +kernel
theorem dX6_dry_38 : decode cX6_dry 38 = .ok (.iload_n 3, 1) := by decide +kernel
theorem dX6_dry_39 : decode cX6_dry 39 = .ok (.iload 4, 2) := by decide +kernel
theorem dX6_dry_41 : decode cX6_dry 41 = .ok (.invokevirtual 202, 3) := by decide +kernel
theorem dX6_dry_44 : decode cX6_dry 44 = .ok (.ifCond .ne 12, 3) := by decide +kernel
theorem dX6_dry_47 : decode cX6_dry 47 = .ok (.aload_n 0, 1) := by decide +kernel
theorem dX6_dry_48 : decode cX6_dry 48 = .ok (.invokevirtual 205, 3) := by decide +kernel
theorem dX6_dry_51 : decode cX6_dry 51 = .ok (.bipush (-9), 2) := by decide +kernel
theorem dX6_dry_53 : decode cX6_dry 53 = .ok (.if_icmp .eq 7, 3) := by decide +kernel
theorem dX6_dry_56 : decode cX6_dry 56 = .ok (.ldc2_w 78, 3) := by decide +kernel
theorem dX6_dry_59 : decode cX6_dry 59 = .ok (.lreturn, 1) := by decide +kernel
theorem dX6_dry_60 : decode cX6_dry 60 = .ok (.aload_n 0, 1) := by decide +kernel
theorem dX6_dry_61 : decode cX6_dry 61 = .ok (.getfield 181, 3) := by decide +kernel
theorem dX6_dry_64 : decode cX6_dry 64 = .ok (.aload_n 0, 1) := by decide +kernel
theorem dX6_dry_65 : decode cX6_dry 65 = .ok (.getfield 185, 3) := by decide +kernel
theorem dX6_dry_68 : decode cX6_dry 68 = .ok (.iload 5, 2) := by decide +kernel
theorem dX6_dry_70 : decode cX6_dry 70 = .ok (.invokestatic 211, 3) := by decide +kernel
theorem dX6_dry_73 : decode cX6_dry 73 = .ok (.lreturn, 1) := by decide +kernel
theorem dX6_end_0 : decode cX6_end 0 = .ok (.aload_n 0, 1) := by decide +kernel
theorem dX6_end_1 : decode cX6_end 1 = .ok (.getfield 84, 3) := by decide +kernel
theorem dX6_end_4 : decode cX6_end 4 = .ok (.istore_n 1, 1) := by decide +kernel
theorem dX6_end_5 : decode cX6_end 5 = .ok (.iconst 0, 1) := by decide +kernel
theorem dX6_end_6 : decode cX6_end 6 = .ok (.istore_n 2, 1) := by decide +kernel
theorem dX6_end_7 : decode cX6_end 7 = .ok (.iload_n 2, 1) := by decide +kernel
theorem dX6_end_8 : decode cX6_end 8 = .ok (.aload_n 0, 1) := by decide +kernel
theorem dX6_end_9 : decode cX6_end 9 = .ok (.getfield 87, 3) := by decide +kernel
theorem dX6_end_12 : decode cX6_end 12 = .ok (.if_icmp .ge 34, 3) := by decide +kernel
theorem dX6_end_15 : decode cX6_end 15 = .ok (.iload_n 1, 1) := by decide +kernel
theorem dX6_end_16 : decode cX6_end 16 = .ok (.iload_n 2, 1) := by decide +kernel
theorem dX6_end_17 : decode cX6_end 17 = .ok (.aload_n 0, 1) := by decide +kernel
theorem dX6_end_18 : decode cX6_end 18 = .ok (.getfield 39, 3) := by decide +kernel
theorem dX6_end_21 : decode cX6_end 21 = .ok (.if_icmp .ne 7, 3) := by decide +kernel
theorem dX6_end_24 : decode cX6_end 24 = .ok (.iconst 0, 1) := by decide +kernel
theorem dX6_end_25 : decode cX6_end 25 = .ok (.goto 13, 3) := by decide +kernel
theorem dX6_end_28 : decode cX6_end 28 = .ok (.aload_n 0, 1) := by decide +kernel
theorem dX6_end_29 : decode cX6_end 29 = .ok (.getfield 84, 3) := by decide +kernel
theorem dX6_end_32 : decode cX6_end 32 = .ok (.iconst 2, 1) := by decide +kernel
theorem dX6_end_33 : decode cX6_end 33 = .ok (.iload_n 2, 1) := by decide +kernel
theorem dX6_end_34 : decode cX6_end 34 = .ok (.imul, 1) := by decide +kernel
theorem dX6_end_35 : decode cX6_end 35 = .ok (.iconst 2, 1) := by decide +kernel
theorem dX6_end_36 : decode cX6_end 36 = .ok (.iadd, 1) := by decide +kernel
theorem dX6_end_37 : decode cX6_end 37 = .ok (.ishl, 1) := by decide +kernel
theorem dX6_end_38 : decode cX6_end 38 = .ok (.ior, 1) := by decide +kernel
theorem dX6_end_39 : decode cX6_end 39 = .ok (.istore_n 1, 1) := by decide +kernel
theorem dX6_end_40 : decode cX6_end 40 = .ok (.iinc 2 1, 3) := by decide +kernel
theorem dX6_end_43 : decode cX6_end 43 = .ok (.goto (-36), 3) := by decide +kernel
theorem dX6_end_46 : decode cX6_end 46 = .ok (.iload_n 1, 1) := by decide +kernel
theorem dX6_end_47 : decode cX6_end 47 = .ok (.ireturn, 1) := by decide +kernel
theorem dX6_relax_0 : decode cX6_relax 0 = .ok (.aload_n 0, 1) := by decide +kernel
theorem dX6_relax_1 : decode cX6_relax 1 = .ok (.iload_n 1, 1) := by decide +kernel
theorem dX6_relax_2 : decode cX6_relax 2 = .ok (.iload_n 2, 1) := by decide +kernel
theorem dX6_relax_3 : decode cX6_relax 3 = .ok (.iload_n 3, 1) := by decide +kernel
theorem dX6_relax_4 : decode cX6_relax 4 = .ok (.invokevirtual 188, 3) := by decide +kernel
theorem dX6_relax_7 : decode cX6_relax 7 = .ok (.ifCond .ne 5, 3) := by decide +kernel
theorem dX6_relax_10 : decode cX6_relax 10 = .ok (.iconst 0, 1) := by decide +kernel
theorem dX6_relax_11 : decode cX6_relax 11 = .ok (.ireturn, 1) := by decide +kernel
theorem dX6_relax_12 : decode cX6_relax 12 = .ok (.iload_n 1, 1) := by decide +kernel
theorem dX6_relax_13 : decode cX6_relax 13 = .ok (.iload_n 2, 1) := by decide +kernel
theorem dX6_relax_14 : decode cX6_relax 14 = .ok (.iload_n 3, 1) := by decide +kernel
theorem dX6_relax_15 : decode cX6_relax 15 = .ok (.invokestatic 196, 3) := by decide +kernel
theorem dX6_relax_18 : decode cX6_relax 18 = .ok (.istore 4, 2) := by decide +kernel
theorem dX6_relax_20 : decode cX6_relax 20 = .ok (.aload_n 0, 1) := by decide +kernel
theorem dX6_relax_21 : decode cX6_relax 21 = .ok (.getfield 60, 3) := by decide +kernel
theorem dX6_relax_24 : decode cX6_relax 24 = .ok (.iload_n 1, 1) := by decide +kernel
theorem dX6_relax_25 : decode cX6_relax 25 = .ok (.iaload, 1) := by decide +kernel
theorem dX6_relax_26 : decode cX6_relax 26 = .ok (.aload_n 0, 1) := by decide +kernel
theorem dX6_relax_27 : decode cX6_relax 27 = .ok (.iload_n 1, 1) := by decide +kernel
theorem dX6_relax_28 : decode cX6_relax 28 = .ok (.iconst 3, 1) := by decide +kernel
theorem dX6_relax_29 : decode cX6_relax 29 = .ok (.iand, 1) := by decide +kernel
theorem dX6_relax_30 : decode cX6_relax 30 = .ok (.iload_n 2, 1) := by decide +kernel
theorem dX6_relax_31 : decode cX6_relax 31 = .ok (.iload_n 3, 1) := by decide +kernel
theorem dX6_relax_32 : decode cX6_relax 32 = .ok (.aload_n 0, 1) := by decide +kernel
theorem dX6_relax_33 : decode cX6_relax 33 = .ok (.getfield 60, 3) := by decide +kernel
theorem dX6_relax_36 : decode cX6_relax 36 = .ok (.iload_n 1, 1) := by decide +kernel
theorem dX6_relax_37 : decode cX6_relax 37 = .ok (.iaload, 1) := by decide +kernel
theorem dX6_relax_38 : decode cX6_relax 38 = .ok (.invokevirtual 193, 3) := by decide +kernel
theorem dX6_relax_41 : decode cX6_relax 41 = .ok (.iadd, 1) := by decide +kernel
theorem dX6_relax_42 : decode cX6_relax 42 = .ok (.istore 5, 2) := by decide +kernel
theorem dX6_relax_44 : decode cX6_relax 44 = .ok (.aload_n 0, 1) := by decide +kernel
theorem dX6_relax_45 : decode cX6_relax 45 = .ok (.getfield 60, 3) := by decide +kernel
theorem dX6_relax_48 : decode cX6_relax 48 = .ok (.iload 4, 2) := by decide +kernel
theorem dX6_relax_50 : decode cX6_relax 50 = .ok (.iaload, 1) := by decide +kernel
theorem dX6_relax_51 : decode cX6_relax 51 = .ok (.bipush (-9), 2) := by decide +kernel
theorem dX6_relax_53 : decode cX6_relax 53 = .ok (.if_icmp .eq 17, 3) := by decide +kernel
theorem dX6_relax_56 : decode cX6_relax 56 = .ok (.aload_n 0, 1) := by decide +kernel
theorem dX6_relax_57 : decode cX6_relax 57 = .ok (.getfield 60, 3) := by decide +kernel
theorem dX6_relax_60 : decode cX6_relax 60 = .ok (.iload 4, 2) := by decide +kernel
theorem dX6_relax_62 : decode cX6_relax 62 = .ok (.iaload, 1) := by decide +kernel
theorem dX6_relax_63 : decode cX6_relax 63 = .ok (.iload 5, 2) := by decide +kernel
theorem dX6_relax_65 : decode cX6_relax 65 = .ok (.if_icmp .gt 5, 3) := by decide +kernel
theorem dX6_relax_68 : decode cX6_relax 68 = .ok (.iconst 0, 1) := by decide +kernel
theorem dX6_relax_69 : decode cX6_relax 69 = .ok (.ireturn, 1) := by decide +kernel
theorem dX6_relax_70 : decode cX6_relax 70 = .ok (.aload_n 0, 1) := by decide +kernel
theorem dX6_relax_71 : decode cX6_relax 71 = .ok (.getfield 60, 3) := by decide +kernel
theorem dX6_relax_74 : decode cX6_relax 74 = .ok (.iload 4, 2) := by decide +kernel
theorem dX6_relax_76 : decode cX6_relax 76 = .ok (.iload 5, 2) := by decide +kernel
theorem dX6_relax_78 : decode cX6_relax 78 = .ok (.iastore, 1) := by decide +kernel
theorem dX6_relax_79 : decode cX6_relax 79 = .ok (.iconst 1, 1) := by decide +kernel
theorem dX6_relax_80 : decode cX6_relax 80 = .ok (.ireturn, 1) := by decide +kernel
theorem dX6_laySoonest_0 : decode cX6_laySoonest 0 = .ok (.iconst 0, 1) := by decide +kernel
theorem dX6_laySoonest_1 : decode cX6_laySoonest 1 = .ok (.istore_n 1, 1) := by decide +kernel
theorem dX6_laySoonest_2 : decode cX6_laySoonest 2 = .ok (.iload_n 1, 1) := by decide +kernel
theorem dX6_laySoonest_3 : decode cX6_laySoonest 3 = .ok (.sipush 1024, 3) := by decide +kernel
theorem dX6_laySoonest_6 : decode cX6_laySoonest 6 = .ok (.if_icmp .ge 17, 3) := by decide +kernel
theorem dX6_laySoonest_9 : decode cX6_laySoonest 9 = .ok (.aload_n 0, 1) := by decide +kernel
theorem dX6_laySoonest_10 : decode cX6_laySoonest 10 = .ok (.getfield 60, 3) := by decide +kernel
theorem dX6_laySoonest_13 : decode cX6_laySoonest 13 = .ok (.iload_n 1, 1) := by decide +kernel
theorem dX6_laySoonest_14 : decode cX6_laySoonest 14 = .ok (.bipush (-9), 2) := by decide +kernel
theorem dX6_laySoonest_16 : decode cX6_laySoonest 16 = .ok (.iastore, 1) := by decide +kernel
theorem dX6_laySoonest_17 : decode cX6_laySoonest 17 = .ok (.iinc 1 1, 3) := by decide +kernel
theorem dX6_laySoonest_20 : decode cX6_laySoonest 20 = .ok (.goto (-18), 3) := by decide +kernel
theorem dX6_laySoonest_23 : decode cX6_laySoonest 23 = .ok (.aload_n 0, 1) := by decide +kernel
theorem dX6_laySoonest_24 : decode cX6_laySoonest 24 = .ok (.getfield 60, 3) := by decide +kernel
theorem dX6_laySoonest_27 : decode cX6_laySoonest 27 = .ok (.iconst 0, 1) := by decide +kernel
theorem dX6_laySoonest_28 : decode cX6_laySoonest 28 = .ok (.iconst 0, 1) := by decide +kernel
theorem dX6_laySoonest_29 : decode cX6_laySoonest 29 = .ok (.iastore, 1) := by decide +kernel
theorem dX6_laySoonest_30 : decode cX6_laySoonest 30 = .ok (.iconst 1, 1) := by decide +kernel
theorem dX6_laySoonest_31 : decode cX6_laySoonest 31 = .ok (.istore_n 1, 1) := by decide +kernel
theorem dX6_laySoonest_32 : decode cX6_laySoonest 32 = .ok (.iload_n 1, 1) := by decide +kernel
theorem dX6_laySoonest_33 : decode cX6_laySoonest 33 = .ok (.ifCond .eq 78, 3) := by decide +kernel
theorem dX6_laySoonest_36 : decode cX6_laySoonest 36 = .ok (.iconst 0, 1) := by decide +kernel
theorem dX6_laySoonest_37 : decode cX6_laySoonest 37 = .ok (.istore_n 1, 1) := by decide +kernel
theorem dX6_laySoonest_38 : decode cX6_laySoonest 38 = .ok (.iconst 0, 1) := by decide +kernel
theorem dX6_laySoonest_39 : decode cX6_laySoonest 39 = .ok (.istore_n 2, 1) := by decide +kernel
theorem dX6_laySoonest_40 : decode cX6_laySoonest 40 = .ok (.iload_n 2, 1) := by decide +kernel
theorem dX6_laySoonest_41 : decode cX6_laySoonest 41 = .ok (.sipush 1024, 3) := by decide +kernel
theorem dX6_laySoonest_44 : decode cX6_laySoonest 44 = .ok (.if_icmp .ge 64, 3) := by decide +kernel
theorem dX6_laySoonest_47 : decode cX6_laySoonest 47 = .ok (.iconst 0, 1) := by decide +kernel
theorem dX6_laySoonest_48 : decode cX6_laySoonest 48 = .ok (.istore_n 3, 1) := by decide +kernel
theorem dX6_laySoonest_49 : decode cX6_laySoonest 49 = .ok (.iload_n 3, 1) := by decide +kernel
theorem dX6_laySoonest_50 : decode cX6_laySoonest 50 = .ok (.aload_n 0, 1) := by decide +kernel
theorem dX6_laySoonest_51 : decode cX6_laySoonest 51 = .ok (.invokevirtual 149, 3) := by decide +kernel
theorem dX6_laySoonest_54 : decode cX6_laySoonest 54 = .ok (.if_icmp .gt 48, 3) := by decide +kernel
theorem dX6_laySoonest_57 : decode cX6_laySoonest 57 = .ok (.aload_n 0, 1) := by decide +kernel
theorem dX6_laySoonest_58 : decode cX6_laySoonest 58 = .ok (.getfield 60, 3) := by decide +kernel
theorem dX6_laySoonest_61 : decode cX6_laySoonest 61 = .ok (.iload_n 2, 1) := by decide +kernel
theorem dX6_laySoonest_62 : decode cX6_laySoonest 62 = .ok (.iaload, 1) := by decide +kernel
theorem dX6_laySoonest_63 : decode cX6_laySoonest 63 = .ok (.bipush (-9), 2) := by decide +kernel
theorem dX6_laySoonest_65 : decode cX6_laySoonest 65 = .ok (.if_icmp .eq 37, 3) := by decide +kernel
theorem dX6_laySoonest_68 : decode cX6_laySoonest 68 = .ok (.iload_n 1, 1) := by decide +kernel
theorem dX6_laySoonest_69 : decode cX6_laySoonest 69 = .ok (.aload_n 0, 1) := by decide +kernel
theorem dX6_laySoonest_70 : decode cX6_laySoonest 70 = .ok (.iload_n 2, 1) := by decide +kernel
theorem dX6_laySoonest_71 : decode cX6_laySoonest 71 = .ok (.iload_n 2, 1) := by decide +kernel
theorem dX6_laySoonest_72 : decode cX6_laySoonest 72 = .ok (.iconst 3, 1) := by decide +kernel
theorem dX6_laySoonest_73 : decode cX6_laySoonest 73 = .ok (.iand, 1) := by decide +kernel
theorem dX6_laySoonest_74 : decode cX6_laySoonest 74 = .ok (.iconst 1, 1) := by decide +kernel
theorem dX6_laySoonest_75 : decode cX6_laySoonest 75 = .ok (.iadd, 1) := by decide +kernel
theorem dX6_laySoonest_76 : decode cX6_laySoonest 76 = .ok (.iload_n 3, 1) := by decide +kernel
theorem dX6_laySoonest_77 : decode cX6_laySoonest 77 = .ok (.invokevirtual 215, 3) := by decide +kernel
theorem dX6_laySoonest_80 : decode cX6_laySoonest 80 = .ok (.ior, 1) := by decide +kernel
theorem dX6_laySoonest_81 : decode cX6_laySoonest 81 = .ok (.istore_n 1, 1) := by decide +kernel
theorem dX6_laySoonest_82 : decode cX6_laySoonest 82 = .ok (.iload_n 1, 1) := by decide +kernel
theorem dX6_laySoonest_83 : decode cX6_laySoonest 83 = .ok (.aload_n 0, 1) := by decide +kernel
theorem dX6_laySoonest_84 : decode cX6_laySoonest 84 = .ok (.iload_n 2, 1) := by decide +kernel
theorem dX6_laySoonest_85 : decode cX6_laySoonest 85 = .ok (.iload_n 2, 1) := by decide +kernel
theorem dX6_laySoonest_86 : decode cX6_laySoonest 86 = .ok (.iconst 3, 1) := by decide +kernel
theorem dX6_laySoonest_87 : decode cX6_laySoonest 87 = .ok (.iand, 1) := by decide +kernel
theorem dX6_laySoonest_88 : decode cX6_laySoonest 88 = .ok (.iconst 1, 1) := by decide +kernel
theorem dX6_laySoonest_89 : decode cX6_laySoonest 89 = .ok (.isub, 1) := by decide +kernel
theorem dX6_laySoonest_90 : decode cX6_laySoonest 90 = .ok (.iload_n 3, 1) := by decide +kernel
theorem dX6_laySoonest_91 : decode cX6_laySoonest 91 = .ok (.invokevirtual 215, 3) := by decide +kernel
theorem dX6_laySoonest_94 : decode cX6_laySoonest 94 = .ok (.ior, 1) := by decide +kernel
theorem dX6_laySoonest_95 : decode cX6_laySoonest 95 = .ok (.istore_n 1, 1) := by decide +kernel
theorem dX6_laySoonest_96 : decode cX6_laySoonest 96 = .ok (.iinc 3 1, 3) := by decide +kernel
theorem dX6_laySoonest_99 : decode cX6_laySoonest 99 = .ok (.goto (-50), 3) := by decide +kernel
theorem dX6_laySoonest_102 : decode cX6_laySoonest 102 = .ok (.iinc 2 1, 3) := by decide +kernel
theorem dX6_laySoonest_105 : decode cX6_laySoonest 105 = .ok (.goto (-65), 3) := by decide +kernel
theorem dX6_laySoonest_108 : decode cX6_laySoonest 108 = .ok (.goto (-76), 3) := by decide +kernel
theorem dX6_laySoonest_111 : decode cX6_laySoonest 111 = .ok (.return_, 1) := by decide +kernel
theorem dX6_soonestNow_0 : decode cX6_soonestNow 0 = .ok (.aload_n 0, 1) := by decide +kernel
theorem dX6_soonestNow_1 : decode cX6_soonestNow 1 = .ok (.invokevirtual 218, 3) := by decide +kernel
theorem dX6_soonestNow_4 : decode cX6_soonestNow 4 = .ok (.aload_n 0, 1) := by decide +kernel
theorem dX6_soonestNow_5 : decode cX6_soonestNow 5 = .ok (.getfield 60, 3) := by decide +kernel
theorem dX6_soonestNow_8 : decode cX6_soonestNow 8 = .ok (.aload_n 0, 1) := by decide +kernel
theorem dX6_soonestNow_9 : decode cX6_soonestNow 9 = .ok (.invokevirtual 221, 3) := by decide +kernel
theorem dX6_soonestNow_12 : decode cX6_soonestNow 12 = .ok (.iaload, 1) := by decide +kernel
theorem dX6_soonestNow_13 : decode cX6_soonestNow 13 = .ok (.ireturn, 1) := by decide +kernel
theorem dX6_soonest_0 : decode cX6_soonest 0 = .ok (.aload_n 0, 1) := by decide +kernel
theorem dX6_soonest_1 : decode cX6_soonest 1 = .ok (.getfield 84, 3) := by decide +kernel
theorem dX6_soonest_4 : decode cX6_soonest 4 = .ok (.ifCond .ne 8, 3) := by decide +kernel
theorem dX6_soonest_7 : decode cX6_soonest 7 = .ok (.bipush (-3), 2) := by decide +kernel
theorem dX6_soonest_9 : decode cX6_soonest 9 = .ok (.goto 7, 3) := by decide +kernel
theorem dX6_soonest_12 : decode cX6_soonest 12 = .ok (.aload_n 0, 1) := by decide +kernel
theorem dX6_soonest_13 : decode cX6_soonest 13 = .ok (.invokevirtual 224, 3) := by decide +kernel
theorem dX6_soonest_16 : decode cX6_soonest 16 = .ok (.ireturn, 1) := by decide +kernel
theorem dX6_isTight_0 : decode cX6_isTight 0 = .ok (.aload_n 0, 1) := by decide +kernel
theorem dX6_isTight_1 : decode cX6_isTight 1 = .ok (.getfield 60, 3) := by decide +kernel
theorem dX6_isTight_4 : decode cX6_isTight 4 = .ok (.iload_n 1, 1) := by decide +kernel
theorem dX6_isTight_5 : decode cX6_isTight 5 = .ok (.iaload, 1) := by decide +kernel
theorem dX6_isTight_6 : decode cX6_isTight 6 = .ok (.bipush (-9), 2) := by decide +kernel
theorem dX6_isTight_8 : decode cX6_isTight 8 = .ok (.if_icmp .eq 13, 3) := by decide +kernel
theorem dX6_isTight_11 : decode cX6_isTight 11 = .ok (.aload_n 0, 1) := by decide +kernel
theorem dX6_isTight_12 : decode cX6_isTight 12 = .ok (.iload_n 1, 1) := by decide +kernel
theorem dX6_isTight_13 : decode cX6_isTight 13 = .ok (.iload_n 2, 1) := by decide +kernel
theorem dX6_isTight_14 : decode cX6_isTight 14 = .ok (.iload_n 3, 1) := by decide +kernel
theorem dX6_isTight_15 : decode cX6_isTight 15 = .ok (.invokevirtual 188, 3) := by decide +kernel
theorem dX6_isTight_18 : decode cX6_isTight 18 = .ok (.ifCond .ne 5, 3) := by decide +kernel
theorem dX6_isTight_21 : decode cX6_isTight 21 = .ok (.iconst 0, 1) := by decide +kernel
theorem dX6_isTight_22 : decode cX6_isTight 22 = .ok (.ireturn, 1) := by decide +kernel
theorem dX6_isTight_23 : decode cX6_isTight 23 = .ok (.aload_n 0, 1) := by decide +kernel
theorem dX6_isTight_24 : decode cX6_isTight 24 = .ok (.getfield 60, 3) := by decide +kernel
theorem dX6_isTight_27 : decode cX6_isTight 27 = .ok (.iload_n 1, 1) := by decide +kernel
theorem dX6_isTight_28 : decode cX6_isTight 28 = .ok (.iaload, 1) := by decide +kernel
theorem dX6_isTight_29 : decode cX6_isTight 29 = .ok (.aload_n 0, 1) := by decide +kernel
theorem dX6_isTight_30 : decode cX6_isTight 30 = .ok (.iload_n 1, 1) := by decide +kernel
theorem dX6_isTight_31 : decode cX6_isTight 31 = .ok (.iconst 3, 1) := by decide +kernel
theorem dX6_isTight_32 : decode cX6_isTight 32 = .ok (.iand, 1) := by decide +kernel
theorem dX6_isTight_33 : decode cX6_isTight 33 = .ok (.iload_n 2, 1) := by decide +kernel
theorem dX6_isTight_34 : decode cX6_isTight 34 = .ok (.iload_n 3, 1) := by decide +kernel
theorem dX6_isTight_35 : decode cX6_isTight 35 = .ok (.aload_n 0, 1) := by decide +kernel
theorem dX6_isTight_36 : decode cX6_isTight 36 = .ok (.getfield 60, 3) := by decide +kernel
theorem dX6_isTight_39 : decode cX6_isTight 39 = .ok (.iload_n 1, 1) := by decide +kernel
theorem dX6_isTight_40 : decode cX6_isTight 40 = .ok (.iaload, 1) := by decide +kernel
theorem dX6_isTight_41 : decode cX6_isTight 41 = .ok (.invokevirtual 193, 3) := by decide +kernel
theorem dX6_isTight_44 : decode cX6_isTight 44 = .ok (.iadd, 1) := by decide +kernel
theorem dX6_isTight_45 : decode cX6_isTight 45 = .ok (.istore 4, 2) := by decide +kernel
theorem dX6_isTight_47 : decode cX6_isTight 47 = .ok (.aload_n 0, 1) := by decide +kernel
theorem dX6_isTight_48 : decode cX6_isTight 48 = .ok (.getfield 60, 3) := by decide +kernel
theorem dX6_isTight_51 : decode cX6_isTight 51 = .ok (.iload_n 1, 1) := by decide +kernel
theorem dX6_isTight_52 : decode cX6_isTight 52 = .ok (.iload_n 2, 1) := by decide +kernel
theorem dX6_isTight_53 : decode cX6_isTight 53 = .ok (.iload_n 3, 1) := by decide +kernel
theorem dX6_isTight_54 : decode cX6_isTight 54 = .ok (.invokestatic 196, 3) := by decide +kernel
theorem dX6_isTight_57 : decode cX6_isTight 57 = .ok (.iaload, 1) := by decide +kernel
theorem dX6_isTight_58 : decode cX6_isTight 58 = .ok (.iload 4, 2) := by decide +kernel
theorem dX6_isTight_60 : decode cX6_isTight 60 = .ok (.if_icmp .ne 7, 3) := by decide +kernel
theorem dX6_isTight_63 : decode cX6_isTight 63 = .ok (.iconst 1, 1) := by decide +kernel
theorem dX6_isTight_64 : decode cX6_isTight 64 = .ok (.goto 4, 3) := by decide +kernel
theorem dX6_isTight_67 : decode cX6_isTight 67 = .ok (.iconst 0, 1) := by decide +kernel
theorem dX6_isTight_68 : decode cX6_isTight 68 = .ok (.ireturn, 1) := by decide +kernel
theorem dX6_shorten_0 : decode cX6_shorten 0 = .ok (.aload_n 0, 1) := by decide +kernel
theorem dX6_shorten_1 : decode cX6_shorten 1 = .ok (.iload_n 1, 1) := by decide +kernel
theorem dX6_shorten_2 : decode cX6_shorten 2 = .ok (.iload_n 2, 1) := by decide +kernel
theorem dX6_shorten_3 : decode cX6_shorten 3 = .ok (.iload_n 3, 1) := by decide +kernel
theorem dX6_shorten_4 : decode cX6_shorten 4 = .ok (.invokevirtual 227, 3) := by decide +kernel
theorem dX6_shorten_7 : decode cX6_shorten 7 = .ok (.ifCond .ne 5, 3) := by decide +kernel
theorem dX6_shorten_10 : decode cX6_shorten 10 = .ok (.iconst 0, 1) := by decide +kernel
theorem dX6_shorten_11 : decode cX6_shorten 11 = .ok (.ireturn, 1) := by decide +kernel
theorem dX6_shorten_12 : decode cX6_shorten 12 = .ok (.aload_n 0, 1) := by decide +kernel
theorem dX6_shorten_13 : decode cX6_shorten 13 = .ok (.getfield 63, 3) := by decide +kernel
theorem dX6_shorten_16 : decode cX6_shorten 16 = .ok (.iload_n 1, 1) := by decide +kernel
theorem dX6_shorten_17 : decode cX6_shorten 17 = .ok (.iload_n 2, 1) := by decide +kernel
theorem dX6_shorten_18 : decode cX6_shorten 18 = .ok (.iload_n 3, 1) := by decide +kernel
theorem dX6_shorten_19 : decode cX6_shorten 19 = .ok (.invokestatic 196, 3) := by decide +kernel
theorem dX6_shorten_22 : decode cX6_shorten 22 = .ok (.iaload, 1) := by decide +kernel
theorem dX6_shorten_23 : decode cX6_shorten 23 = .ok (.istore 4, 2) := by decide +kernel
theorem dX6_shorten_25 : decode cX6_shorten 25 = .ok (.iload 4, 2) := by decide +kernel
theorem dX6_shorten_27 : decode cX6_shorten 27 = .ok (.bipush (-9), 2) := by decide +kernel
theorem dX6_shorten_29 : decode cX6_shorten 29 = .ok (.if_icmp .eq 27, 3) := by decide +kernel
theorem dX6_shorten_32 : decode cX6_shorten 32 = .ok (.aload_n 0, 1) := by decide +kernel
theorem dX6_shorten_33 : decode cX6_shorten 33 = .ok (.getfield 63, 3) := by decide +kernel
theorem dX6_shorten_36 : decode cX6_shorten 36 = .ok (.iload_n 1, 1) := by decide +kernel
theorem dX6_shorten_37 : decode cX6_shorten 37 = .ok (.iaload, 1) := by decide +kernel
theorem dX6_shorten_38 : decode cX6_shorten 38 = .ok (.bipush (-9), 2) := by decide +kernel
theorem dX6_shorten_40 : decode cX6_shorten 40 = .ok (.if_icmp .eq 18, 3) := by decide +kernel
theorem dX6_shorten_43 : decode cX6_shorten 43 = .ok (.aload_n 0, 1) := by decide +kernel
theorem dX6_shorten_44 : decode cX6_shorten 44 = .ok (.getfield 63, 3) := by decide +kernel
theorem dX6_shorten_47 : decode cX6_shorten 47 = .ok (.iload_n 1, 1) := by decide +kernel
theorem dX6_shorten_48 : decode cX6_shorten 48 = .ok (.iaload, 1) := by decide +kernel
theorem dX6_shorten_49 : decode cX6_shorten 49 = .ok (.iload 4, 2) := by decide +kernel
theorem dX6_shorten_51 : decode cX6_shorten 51 = .ok (.iconst 1, 1) := by decide +kernel
theorem dX6_shorten_52 : decode cX6_shorten 52 = .ok (.iadd, 1) := by decide +kernel
theorem dX6_shorten_53 : decode cX6_shorten 53 = .ok (.if_icmp .gt 5, 3) := by decide +kernel
theorem dX6_shorten_56 : decode cX6_shorten 56 = .ok (.iconst 0, 1) := by decide +kernel
theorem dX6_shorten_57 : decode cX6_shorten 57 = .ok (.ireturn, 1) := by decide +kernel
theorem dX6_shorten_58 : decode cX6_shorten 58 = .ok (.aload_n 0, 1) := by decide +kernel
theorem dX6_shorten_59 : decode cX6_shorten 59 = .ok (.getfield 63, 3) := by decide +kernel
theorem dX6_shorten_62 : decode cX6_shorten 62 = .ok (.iload_n 1, 1) := by decide +kernel
theorem dX6_shorten_63 : decode cX6_shorten 63 = .ok (.iload 4, 2) := by decide +kernel
theorem dX6_shorten_65 : decode cX6_shorten 65 = .ok (.iconst 1, 1) := by decide +kernel
theorem dX6_shorten_66 : decode cX6_shorten 66 = .ok (.iadd, 1) := by decide +kernel
theorem dX6_shorten_67 : decode cX6_shorten 67 = .ok (.iastore, 1) := by decide +kernel
theorem dX6_shorten_68 : decode cX6_shorten 68 = .ok (.iconst 1, 1) := by decide +kernel
theorem dX6_shorten_69 : decode cX6_shorten 69 = .ok (.ireturn, 1) := by decide +kernel
theorem dX6_layLeft_0 : decode cX6_layLeft 0 = .ok (.iconst 0, 1) := by decide +kernel
theorem dX6_layLeft_1 : decode cX6_layLeft 1 = .ok (.istore_n 1, 1) := by decide +kernel
theorem dX6_layLeft_2 : decode cX6_layLeft 2 = .ok (.iload_n 1, 1) := by decide +kernel
theorem dX6_layLeft_3 : decode cX6_layLeft 3 = .ok (.sipush 1024, 3) := by decide +kernel
theorem dX6_layLeft_6 : decode cX6_layLeft 6 = .ok (.if_icmp .ge 17, 3) := by decide +kernel
theorem dX6_layLeft_9 : decode cX6_layLeft 9 = .ok (.aload_n 0, 1) := by decide +kernel
theorem dX6_layLeft_10 : decode cX6_layLeft 10 = .ok (.getfield 63, 3) := by decide +kernel
theorem dX6_layLeft_13 : decode cX6_layLeft 13 = .ok (.iload_n 1, 1) := by decide +kernel
theorem dX6_layLeft_14 : decode cX6_layLeft 14 = .ok (.bipush (-9), 2) := by decide +kernel
theorem dX6_layLeft_16 : decode cX6_layLeft 16 = .ok (.iastore, 1) := by decide +kernel
theorem dX6_layLeft_17 : decode cX6_layLeft 17 = .ok (.iinc 1 1, 3) := by decide +kernel
theorem dX6_layLeft_20 : decode cX6_layLeft 20 = .ok (.goto (-18), 3) := by decide +kernel
theorem dX6_layLeft_23 : decode cX6_layLeft 23 = .ok (.aload_n 0, 1) := by decide +kernel
theorem dX6_layLeft_24 : decode cX6_layLeft 24 = .ok (.getfield 63, 3) := by decide +kernel
theorem dX6_layLeft_27 : decode cX6_layLeft 27 = .ok (.aload_n 0, 1) := by decide +kernel
theorem dX6_layLeft_28 : decode cX6_layLeft 28 = .ok (.invokevirtual 221, 3) := by decide +kernel
theorem dX6_layLeft_31 : decode cX6_layLeft 31 = .ok (.iconst 0, 1) := by decide +kernel
theorem dX6_layLeft_32 : decode cX6_layLeft 32 = .ok (.iastore, 1) := by decide +kernel
theorem dX6_layLeft_33 : decode cX6_layLeft 33 = .ok (.iconst 1, 1) := by decide +kernel
theorem dX6_layLeft_34 : decode cX6_layLeft 34 = .ok (.istore_n 1, 1) := by decide +kernel
theorem dX6_layLeft_35 : decode cX6_layLeft 35 = .ok (.iload_n 1, 1) := by decide +kernel
theorem dX6_layLeft_36 : decode cX6_layLeft 36 = .ok (.ifCond .eq 67, 3) := by decide +kernel
theorem dX6_layLeft_39 : decode cX6_layLeft 39 = .ok (.iconst 0, 1) := by decide +kernel
theorem dX6_layLeft_40 : decode cX6_layLeft 40 = .ok (.istore_n 1, 1) := by decide +kernel
theorem dX6_layLeft_41 : decode cX6_layLeft 41 = .ok (.iconst 0, 1) := by decide +kernel
theorem dX6_layLeft_42 : decode cX6_layLeft 42 = .ok (.istore_n 2, 1) := by decide +kernel
theorem dX6_layLeft_43 : decode cX6_layLeft 43 = .ok (.iload_n 2, 1) := by decide +kernel
theorem dX6_layLeft_44 : decode cX6_layLeft 44 = .ok (.sipush 1024, 3) := by decide +kernel
theorem dX6_layLeft_47 : decode cX6_layLeft 47 = .ok (.if_icmp .ge 53, 3) := by decide +kernel
theorem dX6_layLeft_50 : decode cX6_layLeft 50 = .ok (.iconst 0, 1) := by decide +kernel
theorem dX6_layLeft_51 : decode cX6_layLeft 51 = .ok (.istore_n 3, 1) := by decide +kernel
theorem dX6_layLeft_52 : decode cX6_layLeft 52 = .ok (.iload_n 3, 1) := by decide +kernel
theorem dX6_layLeft_53 : decode cX6_layLeft 53 = .ok (.aload_n 0, 1) := by decide +kernel
theorem dX6_layLeft_54 : decode cX6_layLeft 54 = .ok (.invokevirtual 149, 3) := by decide +kernel
theorem dX6_layLeft_57 : decode cX6_layLeft 57 = .ok (.if_icmp .gt 37, 3) := by decide +kernel
theorem dX6_layLeft_60 : decode cX6_layLeft 60 = .ok (.iload_n 1, 1) := by decide +kernel
theorem dX6_layLeft_61 : decode cX6_layLeft 61 = .ok (.aload_n 0, 1) := by decide +kernel
theorem dX6_layLeft_62 : decode cX6_layLeft 62 = .ok (.iload_n 2, 1) := by decide +kernel
theorem dX6_layLeft_63 : decode cX6_layLeft 63 = .ok (.iload_n 2, 1) := by decide +kernel
theorem dX6_layLeft_64 : decode cX6_layLeft 64 = .ok (.iconst 3, 1) := by decide +kernel
theorem dX6_layLeft_65 : decode cX6_layLeft 65 = .ok (.iand, 1) := by decide +kernel
theorem dX6_layLeft_66 : decode cX6_layLeft 66 = .ok (.iconst 1, 1) := by decide +kernel
theorem dX6_layLeft_67 : decode cX6_layLeft 67 = .ok (.iadd, 1) := by decide +kernel
theorem dX6_layLeft_68 : decode cX6_layLeft 68 = .ok (.iload_n 3, 1) := by decide +kernel
theorem dX6_layLeft_69 : decode cX6_layLeft 69 = .ok (.invokevirtual 230, 3) := by decide +kernel
theorem dX6_layLeft_72 : decode cX6_layLeft 72 = .ok (.ior, 1) := by decide +kernel
theorem dX6_layLeft_73 : decode cX6_layLeft 73 = .ok (.istore_n 1, 1) := by decide +kernel
theorem dX6_layLeft_74 : decode cX6_layLeft 74 = .ok (.iload_n 1, 1) := by decide +kernel
theorem dX6_layLeft_75 : decode cX6_layLeft 75 = .ok (.aload_n 0, 1) := by decide +kernel
theorem dX6_layLeft_76 : decode cX6_layLeft 76 = .ok (.iload_n 2, 1) := by decide +kernel
theorem dX6_layLeft_77 : decode cX6_layLeft 77 = .ok (.iload_n 2, 1) := by decide +kernel
theorem dX6_layLeft_78 : decode cX6_layLeft 78 = .ok (.iconst 3, 1) := by decide +kernel
theorem dX6_layLeft_79 : decode cX6_layLeft 79 = .ok (.iand, 1) := by decide +kernel
theorem dX6_layLeft_80 : decode cX6_layLeft 80 = .ok (.iconst 1, 1) := by decide +kernel
theorem dX6_layLeft_81 : decode cX6_layLeft 81 = .ok (.isub, 1) := by decide +kernel
theorem dX6_layLeft_82 : decode cX6_layLeft 82 = .ok (.iload_n 3, 1) := by decide +kernel
theorem dX6_layLeft_83 : decode cX6_layLeft 83 = .ok (.invokevirtual 230, 3) := by decide +kernel
theorem dX6_layLeft_86 : decode cX6_layLeft 86 = .ok (.ior, 1) := by decide +kernel
theorem dX6_layLeft_87 : decode cX6_layLeft 87 = .ok (.istore_n 1, 1) := by decide +kernel
theorem dX6_layLeft_88 : decode cX6_layLeft 88 = .ok (.iinc 3 1, 3) := by decide +kernel
theorem dX6_layLeft_91 : decode cX6_layLeft 91 = .ok (.goto (-39), 3) := by decide +kernel
theorem dX6_layLeft_94 : decode cX6_layLeft 94 = .ok (.iinc 2 1, 3) := by decide +kernel
theorem dX6_layLeft_97 : decode cX6_layLeft 97 = .ok (.goto (-54), 3) := by decide +kernel
theorem dX6_layLeft_100 : decode cX6_layLeft 100 = .ok (.goto (-65), 3) := by decide +kernel
theorem dX6_layLeft_103 : decode cX6_layLeft 103 = .ok (.return_, 1) := by decide +kernel
theorem dX6_isNext_0 : decode cX6_isNext 0 = .ok (.aload_n 0, 1) := by decide +kernel
theorem dX6_isNext_1 : decode cX6_isNext 1 = .ok (.iload_n 1, 1) := by decide +kernel
theorem dX6_isNext_2 : decode cX6_isNext 2 = .ok (.iload_n 2, 1) := by decide +kernel
theorem dX6_isNext_3 : decode cX6_isNext 3 = .ok (.iload_n 3, 1) := by decide +kernel
theorem dX6_isNext_4 : decode cX6_isNext 4 = .ok (.invokevirtual 227, 3) := by decide +kernel
theorem dX6_isNext_7 : decode cX6_isNext 7 = .ok (.ifCond .eq 29, 3) := by decide +kernel
theorem dX6_isNext_10 : decode cX6_isNext 10 = .ok (.aload_n 0, 1) := by decide +kernel
theorem dX6_isNext_11 : decode cX6_isNext 11 = .ok (.getfield 63, 3) := by decide +kernel
theorem dX6_isNext_14 : decode cX6_isNext 14 = .ok (.iload_n 1, 1) := by decide +kernel
theorem dX6_isNext_15 : decode cX6_isNext 15 = .ok (.iload_n 2, 1) := by decide +kernel
theorem dX6_isNext_16 : decode cX6_isNext 16 = .ok (.iload_n 3, 1) := by decide +kernel
theorem dX6_isNext_17 : decode cX6_isNext 17 = .ok (.invokestatic 196, 3) := by decide +kernel
theorem dX6_isNext_20 : decode cX6_isNext 20 = .ok (.iaload, 1) := by decide +kernel
theorem dX6_isNext_21 : decode cX6_isNext 21 = .ok (.aload_n 0, 1) := by decide +kernel
theorem dX6_isNext_22 : decode cX6_isNext 22 = .ok (.getfield 63, 3) := by decide +kernel
theorem dX6_isNext_25 : decode cX6_isNext 25 = .ok (.iload_n 1, 1) := by decide +kernel
theorem dX6_isNext_26 : decode cX6_isNext 26 = .ok (.iaload, 1) := by decide +kernel
theorem dX6_isNext_27 : decode cX6_isNext 27 = .ok (.iconst 1, 1) := by decide +kernel
theorem dX6_isNext_28 : decode cX6_isNext 28 = .ok (.isub, 1) := by decide +kernel
theorem dX6_isNext_29 : decode cX6_isNext 29 = .ok (.if_icmp .ne 7, 3) := by decide +kernel
theorem dX6_isNext_32 : decode cX6_isNext 32 = .ok (.iconst 1, 1) := by decide +kernel
theorem dX6_isNext_33 : decode cX6_isNext 33 = .ok (.goto 4, 3) := by decide +kernel
theorem dX6_isNext_36 : decode cX6_isNext 36 = .ok (.iconst 0, 1) := by decide +kernel
theorem dX6_isNext_37 : decode cX6_isNext 37 = .ok (.ireturn, 1) := by decide +kernel
theorem dX6_findNext_0 : decode cX6_findNext 0 = .ok (.iconst (-1), 1) := by decide +kernel
theorem dX6_findNext_1 : decode cX6_findNext 1 = .ok (.istore_n 2, 1) := by decide +kernel
theorem dX6_findNext_2 : decode cX6_findNext 2 = .ok (.iload_n 2, 1) := by decide +kernel
theorem dX6_findNext_3 : decode cX6_findNext 3 = .ok (.iconst 2, 1) := by decide +kernel
theorem dX6_findNext_4 : decode cX6_findNext 4 = .ok (.if_icmp .ge 54, 3) := by decide +kernel
theorem dX6_findNext_7 : decode cX6_findNext 7 = .ok (.iconst 0, 1) := by decide +kernel
theorem dX6_findNext_8 : decode cX6_findNext 8 = .ok (.istore_n 3, 1) := by decide +kernel
theorem dX6_findNext_9 : decode cX6_findNext 9 = .ok (.iload_n 3, 1) := by decide +kernel
theorem dX6_findNext_10 : decode cX6_findNext 10 = .ok (.aload_n 0, 1) := by decide +kernel
theorem dX6_findNext_11 : decode cX6_findNext 11 = .ok (.invokevirtual 149, 3) := by decide +kernel
theorem dX6_findNext_14 : decode cX6_findNext 14 = .ok (.if_icmp .gt 38, 3) := by decide +kernel
theorem dX6_findNext_17 : decode cX6_findNext 17 = .ok (.aload_n 0, 1) := by decide +kernel
theorem dX6_findNext_18 : decode cX6_findNext 18 = .ok (.iload_n 1, 1) := by decide +kernel
theorem dX6_findNext_19 : decode cX6_findNext 19 = .ok (.iload_n 1, 1) := by decide +kernel
theorem dX6_findNext_20 : decode cX6_findNext 20 = .ok (.iconst 3, 1) := by decide +kernel
theorem dX6_findNext_21 : decode cX6_findNext 21 = .ok (.iand, 1) := by decide +kernel
theorem dX6_findNext_22 : decode cX6_findNext 22 = .ok (.iload_n 2, 1) := by decide +kernel
theorem dX6_findNext_23 : decode cX6_findNext 23 = .ok (.iadd, 1) := by decide +kernel
theorem dX6_findNext_24 : decode cX6_findNext 24 = .ok (.iload_n 3, 1) := by decide +kernel
theorem dX6_findNext_25 : decode cX6_findNext 25 = .ok (.invokevirtual 233, 3) := by decide +kernel
theorem dX6_findNext_28 : decode cX6_findNext 28 = .ok (.ifCond .eq 18, 3) := by decide +kernel
theorem dX6_findNext_31 : decode cX6_findNext 31 = .ok (.aload_n 0, 1) := by decide +kernel
theorem dX6_findNext_32 : decode cX6_findNext 32 = .ok (.iload_n 1, 1) := by decide +kernel
theorem dX6_findNext_33 : decode cX6_findNext 33 = .ok (.iconst 3, 1) := by decide +kernel
theorem dX6_findNext_34 : decode cX6_findNext 34 = .ok (.iand, 1) := by decide +kernel
theorem dX6_findNext_35 : decode cX6_findNext 35 = .ok (.iload_n 2, 1) := by decide +kernel
theorem dX6_findNext_36 : decode cX6_findNext 36 = .ok (.iadd, 1) := by decide +kernel
theorem dX6_findNext_37 : decode cX6_findNext 37 = .ok (.putfield 236, 3) := by decide +kernel
theorem dX6_findNext_40 : decode cX6_findNext 40 = .ok (.aload_n 0, 1) := by decide +kernel
theorem dX6_findNext_41 : decode cX6_findNext 41 = .ok (.iload_n 3, 1) := by decide +kernel
theorem dX6_findNext_42 : decode cX6_findNext 42 = .ok (.putfield 239, 3) := by decide +kernel
theorem dX6_findNext_45 : decode cX6_findNext 45 = .ok (.return_, 1) := by decide +kernel
theorem dX6_findNext_46 : decode cX6_findNext 46 = .ok (.iinc 3 1, 3) := by decide +kernel
theorem dX6_findNext_49 : decode cX6_findNext 49 = .ok (.goto (-40), 3) := by decide +kernel
theorem dX6_findNext_52 : decode cX6_findNext 52 = .ok (.iinc 2 2, 3) := by decide +kernel
theorem dX6_findNext_55 : decode cX6_findNext 55 = .ok (.goto (-53), 3) := by decide +kernel
theorem dX6_findNext_58 : decode cX6_findNext 58 = .ok (.return_, 1) := by decide +kernel
theorem dX6_trip_0 : decode cX6_trip 0 = .ok (.iload_n 1, 1) := by decide +kernel
theorem dX6_trip_1 : decode cX6_trip 1 = .ok (.ifCond .ge 5, 3) := by decide +kernel
theorem dX6_trip_4 : decode cX6_trip 4 = .ok (.iconst (-1), 1) := by decide +kernel
theorem dX6_trip_5 : decode cX6_trip 5 = .ok (.ireturn, 1) := by decide +kernel
theorem dX6_trip_6 : decode cX6_trip 6 = .ok (.iload_n 2, 1) := by decide +kernel
theorem dX6_trip_7 : decode cX6_trip 7 = .ok (.iconst 0, 1) := by decide +kernel
theorem dX6_trip_8 : decode cX6_trip 8 = .ok (.iconst 1, 1) := by decide +kernel
theorem dX6_trip_9 : decode cX6_trip 9 = .ok (.invokestatic 80, 3) := by decide +kernel
theorem dX6_trip_12 : decode cX6_trip 12 = .ok (.ifCond .ne 6, 3) := by decide +kernel
theorem dX6_trip_15 : decode cX6_trip 15 = .ok (.bipush (-2), 2) := by decide +kernel
theorem dX6_trip_17 : decode cX6_trip 17 = .ok (.ireturn, 1) := by decide +kernel
theorem dX6_trip_18 : decode cX6_trip 18 = .ok (.aload_n 0, 1) := by decide +kernel
theorem dX6_trip_19 : decode cX6_trip 19 = .ok (.getfield 84, 3) := by decide +kernel
theorem dX6_trip_22 : decode cX6_trip 22 = .ok (.ifCond .ne 6, 3) := by decide +kernel
theorem dX6_trip_25 : decode cX6_trip 25 = .ok (.bipush (-3), 2) := by decide +kernel
theorem dX6_trip_27 : decode cX6_trip 27 = .ok (.ireturn, 1) := by decide +kernel
theorem dX6_trip_28 : decode cX6_trip 28 = .ok (.aload_n 0, 1) := by decide +kernel
theorem dX6_trip_29 : decode cX6_trip 29 = .ok (.invokevirtual 224, 3) := by decide +kernel
theorem dX6_trip_32 : decode cX6_trip 32 = .ok (.bipush (-9), 2) := by decide +kernel
theorem dX6_trip_34 : decode cX6_trip 34 = .ok (.if_icmp .ne 6, 3) := by decide +kernel
theorem dX6_trip_37 : decode cX6_trip 37 = .ok (.bipush (-9), 2) := by decide +kernel
theorem dX6_trip_39 : decode cX6_trip 39 = .ok (.ireturn, 1) := by decide +kernel
theorem dX6_trip_40 : decode cX6_trip 40 = .ok (.aload_n 0, 1) := by decide +kernel
theorem dX6_trip_41 : decode cX6_trip 41 = .ok (.invokevirtual 242, 3) := by decide +kernel
theorem dX6_trip_44 : decode cX6_trip 44 = .ok (.iload_n 1, 1) := by decide +kernel
theorem dX6_trip_45 : decode cX6_trip 45 = .ok (.aload_n 0, 1) := by decide +kernel
theorem dX6_trip_46 : decode cX6_trip 46 = .ok (.getfield 63, 3) := by decide +kernel
theorem dX6_trip_49 : decode cX6_trip 49 = .ok (.iconst 0, 1) := by decide +kernel
theorem dX6_trip_50 : decode cX6_trip 50 = .ok (.iaload, 1) := by decide +kernel
theorem dX6_trip_51 : decode cX6_trip 51 = .ok (.if_icmp .lt 6, 3) := by decide +kernel
theorem dX6_trip_54 : decode cX6_trip 54 = .ok (.bipush (-9), 2) := by decide +kernel
theorem dX6_trip_56 : decode cX6_trip 56 = .ok (.ireturn, 1) := by decide +kernel
theorem dX6_trip_57 : decode cX6_trip 57 = .ok (.iconst 0, 1) := by decide +kernel
theorem dX6_trip_58 : decode cX6_trip 58 = .ok (.istore_n 3, 1) := by decide +kernel
theorem dX6_trip_59 : decode cX6_trip 59 = .ok (.iconst 0, 1) := by decide +kernel
theorem dX6_trip_60 : decode cX6_trip 60 = .ok (.istore 4, 2) := by decide +kernel
theorem dX6_trip_62 : decode cX6_trip 62 = .ok (.iload 4, 2) := by decide +kernel
theorem dX6_trip_64 : decode cX6_trip 64 = .ok (.iload_n 1, 1) := by decide +kernel
theorem dX6_trip_65 : decode cX6_trip 65 = .ok (.if_icmp .gt 27, 3) := by decide +kernel
theorem dX6_trip_68 : decode cX6_trip 68 = .ok (.aload_n 0, 1) := by decide +kernel
theorem dX6_trip_69 : decode cX6_trip 69 = .ok (.iload_n 3, 1) := by decide +kernel
theorem dX6_trip_70 : decode cX6_trip 70 = .ok (.invokevirtual 245, 3) := by decide +kernel
theorem dX6_trip_73 : decode cX6_trip 73 = .ok (.iload_n 3, 1) := by decide +kernel
theorem dX6_trip_74 : decode cX6_trip 74 = .ok (.aload_n 0, 1) := by decide +kernel
theorem dX6_trip_75 : decode cX6_trip 75 = .ok (.getfield 236, 3) := by decide +kernel
theorem dX6_trip_78 : decode cX6_trip 78 = .ok (.aload_n 0, 1) := by decide +kernel
theorem dX6_trip_79 : decode cX6_trip 79 = .ok (.getfield 239, 3) := by decide +kernel
theorem dX6_trip_82 : decode cX6_trip 82 = .ok (.invokestatic 196, 3) := by decide +kernel
theorem dX6_trip_85 : decode cX6_trip 85 = .ok (.istore_n 3, 1) := by decide +kernel
theorem dX6_trip_86 : decode cX6_trip 86 = .ok (.iinc 4 1, 3) := by decide +kernel
theorem dX6_trip_89 : decode cX6_trip 89 = .ok (.goto (-27), 3) := by decide +kernel
theorem dX6_trip_92 : decode cX6_trip 92 = .ok (.iload_n 2, 1) := by decide +kernel
theorem dX6_trip_93 : decode cX6_trip 93 = .ok (.ifCond .ne 10, 3) := by decide +kernel
theorem dX6_trip_96 : decode cX6_trip 96 = .ok (.aload_n 0, 1) := by decide +kernel
theorem dX6_trip_97 : decode cX6_trip 97 = .ok (.getfield 236, 3) := by decide +kernel
theorem dX6_trip_100 : decode cX6_trip 100 = .ok (.goto 7, 3) := by decide +kernel
theorem dX6_trip_103 : decode cX6_trip 103 = .ok (.aload_n 0, 1) := by decide +kernel
theorem dX6_trip_104 : decode cX6_trip 104 = .ok (.getfield 239, 3) := by decide +kernel
theorem dX6_trip_107 : decode cX6_trip 107 = .ok (.ireturn, 1) := by decide +kernel
theorem dX6_spread_0 : decode cX6_spread 0 = .ok (.aload_n 0, 1) := by decide +kernel
theorem dX6_spread_1 : decode cX6_spread 1 = .ok (.iload_n 1, 1) := by decide +kernel
theorem dX6_spread_2 : decode cX6_spread 2 = .ok (.iload_n 2, 1) := by decide +kernel
theorem dX6_spread_3 : decode cX6_spread 3 = .ok (.iload_n 3, 1) := by decide +kernel
theorem dX6_spread_4 : decode cX6_spread 4 = .ok (.invokevirtual 188, 3) := by decide +kernel
theorem dX6_spread_7 : decode cX6_spread 7 = .ok (.ifCond .ne 5, 3) := by decide +kernel
theorem dX6_spread_10 : decode cX6_spread 10 = .ok (.iconst 0, 1) := by decide +kernel
theorem dX6_spread_11 : decode cX6_spread 11 = .ok (.ireturn, 1) := by decide +kernel
theorem dX6_spread_12 : decode cX6_spread 12 = .ok (.iload_n 1, 1) := by decide +kernel
theorem dX6_spread_13 : decode cX6_spread 13 = .ok (.iload_n 2, 1) := by decide +kernel
theorem dX6_spread_14 : decode cX6_spread 14 = .ok (.iload_n 3, 1) := by decide +kernel
theorem dX6_spread_15 : decode cX6_spread 15 = .ok (.invokestatic 196, 3) := by decide +kernel
theorem dX6_spread_18 : decode cX6_spread 18 = .ok (.istore 4, 2) := by decide +kernel
theorem dX6_spread_20 : decode cX6_spread 20 = .ok (.aload_n 0, 1) := by decide +kernel
theorem dX6_spread_21 : decode cX6_spread 21 = .ok (.getfield 63, 3) := by decide +kernel
theorem dX6_spread_24 : decode cX6_spread 24 = .ok (.iload 4, 2) := by decide +kernel
theorem dX6_spread_26 : decode cX6_spread 26 = .ok (.iaload, 1) := by decide +kernel
theorem dX6_spread_27 : decode cX6_spread 27 = .ok (.bipush (-9), 2) := by decide +kernel
theorem dX6_spread_29 : decode cX6_spread 29 = .ok (.if_icmp .eq 23, 3) := by decide +kernel
theorem dX6_spread_32 : decode cX6_spread 32 = .ok (.aload_n 0, 1) := by decide +kernel
theorem dX6_spread_33 : decode cX6_spread 33 = .ok (.getfield 63, 3) := by decide +kernel
theorem dX6_spread_36 : decode cX6_spread 36 = .ok (.iload 4, 2) := by decide +kernel
theorem dX6_spread_38 : decode cX6_spread 38 = .ok (.iaload, 1) := by decide +kernel
theorem dX6_spread_39 : decode cX6_spread 39 = .ok (.aload_n 0, 1) := by decide +kernel
theorem dX6_spread_40 : decode cX6_spread 40 = .ok (.getfield 63, 3) := by decide +kernel
theorem dX6_spread_43 : decode cX6_spread 43 = .ok (.iload_n 1, 1) := by decide +kernel
theorem dX6_spread_44 : decode cX6_spread 44 = .ok (.iaload, 1) := by decide +kernel
theorem dX6_spread_45 : decode cX6_spread 45 = .ok (.iconst 1, 1) := by decide +kernel
theorem dX6_spread_46 : decode cX6_spread 46 = .ok (.iadd, 1) := by decide +kernel
theorem dX6_spread_47 : decode cX6_spread 47 = .ok (.if_icmp .gt 5, 3) := by decide +kernel
theorem dX6_spread_50 : decode cX6_spread 50 = .ok (.iconst 0, 1) := by decide +kernel
theorem dX6_spread_51 : decode cX6_spread 51 = .ok (.ireturn, 1) := by decide +kernel
theorem dX6_spread_52 : decode cX6_spread 52 = .ok (.aload_n 0, 1) := by decide +kernel
theorem dX6_spread_53 : decode cX6_spread 53 = .ok (.getfield 63, 3) := by decide +kernel
theorem dX6_spread_56 : decode cX6_spread 56 = .ok (.iload 4, 2) := by decide +kernel
theorem dX6_spread_58 : decode cX6_spread 58 = .ok (.aload_n 0, 1) := by decide +kernel
theorem dX6_spread_59 : decode cX6_spread 59 = .ok (.getfield 63, 3) := by decide +kernel
theorem dX6_spread_62 : decode cX6_spread 62 = .ok (.iload_n 1, 1) := by decide +kernel
theorem dX6_spread_63 : decode cX6_spread 63 = .ok (.iaload, 1) := by decide +kernel
theorem dX6_spread_64 : decode cX6_spread 64 = .ok (.iconst 1, 1) := by decide +kernel
theorem dX6_spread_65 : decode cX6_spread 65 = .ok (.iadd, 1) := by decide +kernel
theorem dX6_spread_66 : decode cX6_spread 66 = .ok (.iastore, 1) := by decide +kernel
theorem dX6_spread_67 : decode cX6_spread 67 = .ok (.iconst 1, 1) := by decide +kernel
theorem dX6_spread_68 : decode cX6_spread 68 = .ok (.ireturn, 1) := by decide +kernel
theorem dX6_fewest_0 : decode cX6_fewest 0 = .ok (.aload_n 0, 1) := by decide +kernel
theorem dX6_fewest_1 : decode cX6_fewest 1 = .ok (.getfield 84, 3) := by decide +kernel
theorem dX6_fewest_4 : decode cX6_fewest 4 = .ok (.ifCond .ne 6, 3) := by decide +kernel
theorem dX6_fewest_7 : decode cX6_fewest 7 = .ok (.bipush (-3), 2) := by decide +kernel
theorem dX6_fewest_9 : decode cX6_fewest 9 = .ok (.ireturn, 1) := by decide +kernel
theorem dX6_fewest_10 : decode cX6_fewest 10 = .ok (.iconst 0, 1) := by decide +kernel
theorem dX6_fewest_11 : decode cX6_fewest 11 = .ok (.istore_n 1, 1) := by decide +kernel
theorem dX6_fewest_12 : decode cX6_fewest 12 = .ok (.iload_n 1, 1) := by decide +kernel
theorem dX6_fewest_13 : decode cX6_fewest 13 = .ok (.sipush 1024, 3) := by decide +kernel
theorem dX6_fewest_16 : decode cX6_fewest 16 = .ok (.if_icmp .ge 17, 3) := by decide +kernel
theorem dX6_fewest_19 : decode cX6_fewest 19 = .ok (.aload_n 0, 1) := by decide +kernel
theorem dX6_fewest_20 : decode cX6_fewest 20 = .ok (.getfield 63, 3) := by decide +kernel
theorem dX6_fewest_23 : decode cX6_fewest 23 = .ok (.iload_n 1, 1) := by decide +kernel
theorem dX6_fewest_24 : decode cX6_fewest 24 = .ok (.bipush (-9), 2) := by decide +kernel
theorem dX6_fewest_26 : decode cX6_fewest 26 = .ok (.iastore, 1) := by decide +kernel
theorem dX6_fewest_27 : decode cX6_fewest 27 = .ok (.iinc 1 1, 3) := by decide +kernel
theorem dX6_fewest_30 : decode cX6_fewest 30 = .ok (.goto (-18), 3) := by decide +kernel
theorem dX6_fewest_33 : decode cX6_fewest 33 = .ok (.aload_n 0, 1) := by decide +kernel
theorem dX6_fewest_34 : decode cX6_fewest 34 = .ok (.getfield 63, 3) := by decide +kernel
theorem dX6_fewest_37 : decode cX6_fewest 37 = .ok (.iconst 0, 1) := by decide +kernel
theorem dX6_fewest_38 : decode cX6_fewest 38 = .ok (.iconst 0, 1) := by decide +kernel
theorem dX6_fewest_39 : decode cX6_fewest 39 = .ok (.iastore, 1) := by decide +kernel
theorem dX6_fewest_40 : decode cX6_fewest 40 = .ok (.iconst 1, 1) := by decide +kernel
theorem dX6_fewest_41 : decode cX6_fewest 41 = .ok (.istore_n 1, 1) := by decide +kernel
theorem dX6_fewest_42 : decode cX6_fewest 42 = .ok (.iload_n 1, 1) := by decide +kernel
theorem dX6_fewest_43 : decode cX6_fewest 43 = .ok (.ifCond .eq 78, 3) := by decide +kernel
theorem dX6_fewest_46 : decode cX6_fewest 46 = .ok (.iconst 0, 1) := by decide +kernel
theorem dX6_fewest_47 : decode cX6_fewest 47 = .ok (.istore_n 1, 1) := by decide +kernel
theorem dX6_fewest_48 : decode cX6_fewest 48 = .ok (.iconst 0, 1) := by decide +kernel
theorem dX6_fewest_49 : decode cX6_fewest 49 = .ok (.istore_n 2, 1) := by decide +kernel
theorem dX6_fewest_50 : decode cX6_fewest 50 = .ok (.iload_n 2, 1) := by decide +kernel
theorem dX6_fewest_51 : decode cX6_fewest 51 = .ok (.sipush 1024, 3) := by decide +kernel
theorem dX6_fewest_54 : decode cX6_fewest 54 = .ok (.if_icmp .ge 64, 3) := by decide +kernel
theorem dX6_fewest_57 : decode cX6_fewest 57 = .ok (.iconst 0, 1) := by decide +kernel
theorem dX6_fewest_58 : decode cX6_fewest 58 = .ok (.istore_n 3, 1) := by decide +kernel
theorem dX6_fewest_59 : decode cX6_fewest 59 = .ok (.iload_n 3, 1) := by decide +kernel
theorem dX6_fewest_60 : decode cX6_fewest 60 = .ok (.aload_n 0, 1) := by decide +kernel
theorem dX6_fewest_61 : decode cX6_fewest 61 = .ok (.invokevirtual 149, 3) := by decide +kernel
theorem dX6_fewest_64 : decode cX6_fewest 64 = .ok (.if_icmp .gt 48, 3) := by decide +kernel
theorem dX6_fewest_67 : decode cX6_fewest 67 = .ok (.aload_n 0, 1) := by decide +kernel
theorem dX6_fewest_68 : decode cX6_fewest 68 = .ok (.getfield 63, 3) := by decide +kernel
theorem dX6_fewest_71 : decode cX6_fewest 71 = .ok (.iload_n 2, 1) := by decide +kernel
theorem dX6_fewest_72 : decode cX6_fewest 72 = .ok (.iaload, 1) := by decide +kernel
theorem dX6_fewest_73 : decode cX6_fewest 73 = .ok (.bipush (-9), 2) := by decide +kernel
theorem dX6_fewest_75 : decode cX6_fewest 75 = .ok (.if_icmp .eq 37, 3) := by decide +kernel
theorem dX6_fewest_78 : decode cX6_fewest 78 = .ok (.iload_n 1, 1) := by decide +kernel
theorem dX6_fewest_79 : decode cX6_fewest 79 = .ok (.aload_n 0, 1) := by decide +kernel
theorem dX6_fewest_80 : decode cX6_fewest 80 = .ok (.iload_n 2, 1) := by decide +kernel
theorem dX6_fewest_81 : decode cX6_fewest 81 = .ok (.iload_n 2, 1) := by decide +kernel
theorem dX6_fewest_82 : decode cX6_fewest 82 = .ok (.iconst 3, 1) := by decide +kernel
theorem dX6_fewest_83 : decode cX6_fewest 83 = .ok (.iand, 1) := by decide +kernel
theorem dX6_fewest_84 : decode cX6_fewest 84 = .ok (.iconst 1, 1) := by decide +kernel
theorem dX6_fewest_85 : decode cX6_fewest 85 = .ok (.iadd, 1) := by decide +kernel
theorem dX6_fewest_86 : decode cX6_fewest 86 = .ok (.iload_n 3, 1) := by decide +kernel
theorem dX6_fewest_87 : decode cX6_fewest 87 = .ok (.invokevirtual 249, 3) := by decide +kernel
theorem dX6_fewest_90 : decode cX6_fewest 90 = .ok (.ior, 1) := by decide +kernel
theorem dX6_fewest_91 : decode cX6_fewest 91 = .ok (.istore_n 1, 1) := by decide +kernel
theorem dX6_fewest_92 : decode cX6_fewest 92 = .ok (.iload_n 1, 1) := by decide +kernel
theorem dX6_fewest_93 : decode cX6_fewest 93 = .ok (.aload_n 0, 1) := by decide +kernel
theorem dX6_fewest_94 : decode cX6_fewest 94 = .ok (.iload_n 2, 1) := by decide +kernel
theorem dX6_fewest_95 : decode cX6_fewest 95 = .ok (.iload_n 2, 1) := by decide +kernel
theorem dX6_fewest_96 : decode cX6_fewest 96 = .ok (.iconst 3, 1) := by decide +kernel
theorem dX6_fewest_97 : decode cX6_fewest 97 = .ok (.iand, 1) := by decide +kernel
theorem dX6_fewest_98 : decode cX6_fewest 98 = .ok (.iconst 1, 1) := by decide +kernel
theorem dX6_fewest_99 : decode cX6_fewest 99 = .ok (.isub, 1) := by decide +kernel
theorem dX6_fewest_100 : decode cX6_fewest 100 = .ok (.iload_n 3, 1) := by decide +kernel
theorem dX6_fewest_101 : decode cX6_fewest 101 = .ok (.invokevirtual 249, 3) := by decide +kernel
theorem dX6_fewest_104 : decode cX6_fewest 104 = .ok (.ior, 1) := by decide +kernel
theorem dX6_fewest_105 : decode cX6_fewest 105 = .ok (.istore_n 1, 1) := by decide +kernel
theorem dX6_fewest_106 : decode cX6_fewest 106 = .ok (.iinc 3 1, 3) := by decide +kernel
theorem dX6_fewest_109 : decode cX6_fewest 109 = .ok (.goto (-50), 3) := by decide +kernel
theorem dX6_fewest_112 : decode cX6_fewest 112 = .ok (.iinc 2 1, 3) := by decide +kernel
theorem dX6_fewest_115 : decode cX6_fewest 115 = .ok (.goto (-65), 3) := by decide +kernel
theorem dX6_fewest_118 : decode cX6_fewest 118 = .ok (.goto (-76), 3) := by decide +kernel
theorem dX6_fewest_121 : decode cX6_fewest 121 = .ok (.aload_n 0, 1) := by decide +kernel
theorem dX6_fewest_122 : decode cX6_fewest 122 = .ok (.getfield 63, 3) := by decide +kernel
theorem dX6_fewest_125 : decode cX6_fewest 125 = .ok (.aload_n 0, 1) := by decide +kernel
theorem dX6_fewest_126 : decode cX6_fewest 126 = .ok (.invokevirtual 221, 3) := by decide +kernel
theorem dX6_fewest_129 : decode cX6_fewest 129 = .ok (.iaload, 1) := by decide +kernel
theorem dX6_fewest_130 : decode cX6_fewest 130 = .ok (.ireturn, 1) := by decide +kernel
theorem dX6_cost_0 : decode cX6_cost 0 = .ok (.aload_n 0, 1) := by decide +kernel
theorem dX6_cost_1 : decode cX6_cost 1 = .ok (.iload_n 1, 1) := by decide +kernel
theorem dX6_cost_2 : decode cX6_cost 2 = .ok (.invokevirtual 143, 3) := by decide +kernel
theorem dX6_cost_5 : decode cX6_cost 5 = .ok (.ifCond .ne 5, 3) := by decide +kernel
theorem dX6_cost_8 : decode cX6_cost 8 = .ok (.iconst (-1), 1) := by decide +kernel
theorem dX6_cost_9 : decode cX6_cost 9 = .ok (.ireturn, 1) := by decide +kernel
theorem dX6_cost_10 : decode cX6_cost 10 = .ok (.aload_n 0, 1) := by decide +kernel
theorem dX6_cost_11 : decode cX6_cost 11 = .ok (.invokevirtual 224, 3) := by decide +kernel
theorem dX6_cost_14 : decode cX6_cost 14 = .ok (.istore_n 2, 1) := by decide +kernel
theorem dX6_cost_15 : decode cX6_cost 15 = .ok (.iload_n 2, 1) := by decide +kernel
theorem dX6_cost_16 : decode cX6_cost 16 = .ok (.bipush (-9), 2) := by decide +kernel
theorem dX6_cost_18 : decode cX6_cost 18 = .ok (.if_icmp .eq 11, 3) := by decide +kernel
theorem dX6_cost_21 : decode cX6_cost 21 = .ok (.aload_n 0, 1) := by decide +kernel
theorem dX6_cost_22 : decode cX6_cost 22 = .ok (.getfield 87, 3) := by decide +kernel
theorem dX6_cost_25 : decode cX6_cost 25 = .ok (.iconst 1, 1) := by decide +kernel
theorem dX6_cost_26 : decode cX6_cost 26 = .ok (.if_icmp .ne 6, 3) := by decide +kernel
theorem dX6_cost_29 : decode cX6_cost 29 = .ok (.bipush (-9), 2) := by decide +kernel
theorem dX6_cost_31 : decode cX6_cost 31 = .ok (.ireturn, 1) := by decide +kernel
theorem dX6_cost_32 : decode cX6_cost 32 = .ok (.aload_n 0, 1) := by decide +kernel
theorem dX6_cost_33 : decode cX6_cost 33 = .ok (.iload_n 1, 1) := by decide +kernel
theorem dX6_cost_34 : decode cX6_cost 34 = .ok (.putfield 39, 3) := by decide +kernel
theorem dX6_cost_37 : decode cX6_cost 37 = .ok (.aload_n 0, 1) := by decide +kernel
theorem dX6_cost_38 : decode cX6_cost 38 = .ok (.invokevirtual 224, 3) := by decide +kernel
theorem dX6_cost_41 : decode cX6_cost 41 = .ok (.istore_n 3, 1) := by decide +kernel
theorem dX6_cost_42 : decode cX6_cost 42 = .ok (.aload_n 0, 1) := by decide +kernel
theorem dX6_cost_43 : decode cX6_cost 43 = .ok (.bipush (-9), 2) := by decide +kernel
theorem dX6_cost_45 : decode cX6_cost 45 = .ok (.putfield 39, 3) := by decide +kernel
theorem dX6_cost_48 : decode cX6_cost 48 = .ok (.iload_n 3, 1) := by decide +kernel
theorem dX6_cost_49 : decode cX6_cost 49 = .ok (.bipush (-9), 2) := by decide +kernel
theorem dX6_cost_51 : decode cX6_cost 51 = .ok (.if_icmp .ne 8, 3) := by decide +kernel
theorem dX6_cost_54 : decode cX6_cost 54 = .ok (.bipush (-9), 2) := by decide +kernel
theorem dX6_cost_56 : decode cX6_cost 56 = .ok (.goto 10, 3) := by decide +kernel
theorem dX6_cost_59 : decode cX6_cost 59 = .ok (.iload_n 2, 1) := by decide +kernel
theorem dX6_cost_60 : decode cX6_cost 60 = .ok (.iload_n 3, 1) := by decide +kernel
theorem dX6_cost_61 : decode cX6_cost 61 = .ok (.isub, 1) := by decide +kernel
theorem dX6_cost_62 : decode cX6_cost 62 = .ok (.sipush 1000, 3) := by decide +kernel
theorem dX6_cost_65 : decode cX6_cost 65 = .ok (.iadd, 1) := by decide +kernel
theorem dX6_cost_66 : decode cX6_cost 66 = .ok (.ireturn, 1) := by decide +kernel
theorem dX6_help_0 : decode cX6_help 0 = .ok (.iload_n 1, 1) := by decide +kernel
theorem dX6_help_1 : decode cX6_help 1 = .ok (.iconst 0, 1) := by decide +kernel
theorem dX6_help_2 : decode cX6_help 2 = .ok (.bipush 36, 2) := by decide +kernel
theorem dX6_help_4 : decode cX6_help 4 = .ok (.invokestatic 80, 3) := by decide +kernel
theorem dX6_help_7 : decode cX6_help 7 = .ok (.ifCond .ne 6, 3) := by decide +kernel
theorem dX6_help_10 : decode cX6_help 10 = .ok (.bipush (-2), 2) := by decide +kernel
theorem dX6_help_12 : decode cX6_help 12 = .ok (.ireturn, 1) := by decide +kernel
theorem dX6_help_13 : decode cX6_help 13 = .ok (.aload_n 0, 1) := by decide +kernel
theorem dX6_help_14 : decode cX6_help 14 = .ok (.getfield 84, 3) := by decide +kernel
theorem dX6_help_17 : decode cX6_help 17 = .ok (.ifCond .ne 6, 3) := by decide +kernel
theorem dX6_help_20 : decode cX6_help 20 = .ok (.bipush (-3), 2) := by decide +kernel
theorem dX6_help_22 : decode cX6_help 22 = .ok (.ireturn, 1) := by decide +kernel
theorem dX6_help_23 : decode cX6_help 23 = .ok (.aload_n 0, 1) := by decide +kernel
theorem dX6_help_24 : decode cX6_help 24 = .ok (.invokevirtual 224, 3) := by decide +kernel
theorem dX6_help_27 : decode cX6_help 27 = .ok (.istore_n 2, 1) := by decide +kernel
theorem dX6_help_28 : decode cX6_help 28 = .ok (.aload_n 0, 1) := by decide +kernel
theorem dX6_help_29 : decode cX6_help 29 = .ok (.dup, 1) := by decide +kernel
theorem dX6_help_30 : decode cX6_help 30 = .ok (.getfield 114, 3) := by decide +kernel
theorem dX6_help_33 : decode cX6_help 33 = .ok (.iload_n 1, 1) := by decide +kernel
theorem dX6_help_34 : decode cX6_help 34 = .ok (.iadd, 1) := by decide +kernel
theorem dX6_help_35 : decode cX6_help 35 = .ok (.putfield 114, 3) := by decide +kernel
theorem dX6_help_38 : decode cX6_help 38 = .ok (.aload_n 0, 1) := by decide +kernel
theorem dX6_help_39 : decode cX6_help 39 = .ok (.invokevirtual 224, 3) := by decide +kernel
theorem dX6_help_42 : decode cX6_help 42 = .ok (.istore_n 3, 1) := by decide +kernel
theorem dX6_help_43 : decode cX6_help 43 = .ok (.aload_n 0, 1) := by decide +kernel
theorem dX6_help_44 : decode cX6_help 44 = .ok (.dup, 1) := by decide +kernel
theorem dX6_help_45 : decode cX6_help 45 = .ok (.getfield 114, 3) := by decide +kernel
theorem dX6_help_48 : decode cX6_help 48 = .ok (.iload_n 1, 1) := by decide +kernel
theorem dX6_help_49 : decode cX6_help 49 = .ok (.isub, 1) := by decide +kernel
theorem dX6_help_50 : decode cX6_help 50 = .ok (.putfield 114, 3) := by decide +kernel
theorem dX6_help_53 : decode cX6_help 53 = .ok (.iload_n 2, 1) := by decide +kernel
theorem dX6_help_54 : decode cX6_help 54 = .ok (.bipush (-9), 2) := by decide +kernel
theorem dX6_help_56 : decode cX6_help 56 = .ok (.if_icmp .eq 9, 3) := by decide +kernel
theorem dX6_help_59 : decode cX6_help 59 = .ok (.iload_n 3, 1) := by decide +kernel
theorem dX6_help_60 : decode cX6_help 60 = .ok (.bipush (-9), 2) := by decide +kernel
theorem dX6_help_62 : decode cX6_help 62 = .ok (.if_icmp .ne 8, 3) := by decide +kernel
theorem dX6_help_65 : decode cX6_help 65 = .ok (.bipush (-9), 2) := by decide +kernel
theorem dX6_help_67 : decode cX6_help 67 = .ok (.goto 6, 3) := by decide +kernel
theorem dX6_help_70 : decode cX6_help 70 = .ok (.iload_n 2, 1) := by decide +kernel
theorem dX6_help_71 : decode cX6_help 71 = .ok (.iload_n 3, 1) := by decide +kernel
theorem dX6_help_72 : decode cX6_help 72 = .ok (.isub, 1) := by decide +kernel
theorem dX6_help_73 : decode cX6_help 73 = .ok (.ireturn, 1) := by decide +kernel
theorem dX6_reading_0 : decode cX6_reading 0 = .ok (.aload_n 0, 1) := by decide +kernel
theorem dX6_reading_1 : decode cX6_reading 1 = .ok (.iload_n 1, 1) := by decide +kernel
theorem dX6_reading_2 : decode cX6_reading 2 = .ok (.invokevirtual 143, 3) := by decide +kernel
theorem dX6_reading_5 : decode cX6_reading 5 = .ok (.ifCond .eq 11, 3) := by decide +kernel
theorem dX6_reading_8 : decode cX6_reading 8 = .ok (.aload_n 0, 1) := by decide +kernel
theorem dX6_reading_9 : decode cX6_reading 9 = .ok (.iload_n 2, 1) := by decide +kernel
theorem dX6_reading_10 : decode cX6_reading 10 = .ok (.invokevirtual 160, 3) := by decide +kernel
theorem dX6_reading_13 : decode cX6_reading 13 = .ok (.ifCond .ne 5, 3) := by decide +kernel
theorem dX6_reading_16 : decode cX6_reading 16 = .ok (.iconst (-1), 1) := by decide +kernel
theorem dX6_reading_17 : decode cX6_reading 17 = .ok (.ireturn, 1) := by decide +kernel
theorem dX6_reading_18 : decode cX6_reading 18 = .ok (.iload_n 3, 1) := by decide +kernel
theorem dX6_reading_19 : decode cX6_reading 19 = .ok (.iconst 0, 1) := by decide +kernel
theorem dX6_reading_20 : decode cX6_reading 20 = .ok (.bipush 99, 2) := by decide +kernel
theorem dX6_reading_22 : decode cX6_reading 22 = .ok (.invokestatic 80, 3) := by decide +kernel
theorem dX6_reading_25 : decode cX6_reading 25 = .ok (.ifCond .ne 6, 3) := by decide +kernel
theorem dX6_reading_28 : decode cX6_reading 28 = .ok (.bipush (-2), 2) := by decide +kernel
theorem dX6_reading_30 : decode cX6_reading 30 = .ok (.ireturn, 1) := by decide +kernel
theorem dX6_reading_31 : decode cX6_reading 31 = .ok (.aload_n 0, 1) := by decide +kernel
theorem dX6_reading_32 : decode cX6_reading 32 = .ok (.getfield 123, 3) := by decide +kernel
theorem dX6_reading_35 : decode cX6_reading 35 = .ok (.bipush 8, 2) := by decide +kernel
theorem dX6_reading_37 : decode cX6_reading 37 = .ok (.if_icmp .ne 6, 3) := by decide +kernel
theorem dX6_reading_40 : decode cX6_reading 40 = .ok (.bipush (-4), 2) := by decide +kernel
theorem dX6_reading_42 : decode cX6_reading 42 = .ok (.ireturn, 1) := by decide +kernel
theorem dX6_reading_43 : decode cX6_reading 43 = .ok (.aload_n 0, 1) := by decide +kernel
theorem dX6_reading_44 : decode cX6_reading 44 = .ok (.getfield 66, 3) := by decide +kernel
theorem dX6_reading_47 : decode cX6_reading 47 = .ok (.aload_n 0, 1) := by decide +kernel
theorem dX6_reading_48 : decode cX6_reading 48 = .ok (.getfield 123, 3) := by decide +kernel
theorem dX6_reading_51 : decode cX6_reading 51 = .ok (.iload_n 1, 1) := by decide +kernel
theorem dX6_reading_52 : decode cX6_reading 52 = .ok (.iastore, 1) := by decide +kernel
theorem dX6_reading_53 : decode cX6_reading 53 = .ok (.aload_n 0, 1) := by decide +kernel
theorem dX6_reading_54 : decode cX6_reading 54 = .ok (.getfield 69, 3) := by decide +kernel
theorem dX6_reading_57 : decode cX6_reading 57 = .ok (.aload_n 0, 1) := by decide +kernel
theorem dX6_reading_58 : decode cX6_reading 58 = .ok (.getfield 123, 3) := by decide +kernel
theorem dX6_reading_61 : decode cX6_reading 61 = .ok (.iload_n 2, 1) := by decide +kernel
theorem dX6_reading_62 : decode cX6_reading 62 = .ok (.iastore, 1) := by decide +kernel
theorem dX6_reading_63 : decode cX6_reading 63 = .ok (.aload_n 0, 1) := by decide +kernel
theorem dX6_reading_64 : decode cX6_reading 64 = .ok (.getfield 72, 3) := by decide +kernel
theorem dX6_reading_67 : decode cX6_reading 67 = .ok (.aload_n 0, 1) := by decide +kernel
theorem dX6_reading_68 : decode cX6_reading 68 = .ok (.getfield 123, 3) := by decide +kernel
theorem dX6_reading_71 : decode cX6_reading 71 = .ok (.iload_n 3, 1) := by decide +kernel
theorem dX6_reading_72 : decode cX6_reading 72 = .ok (.iastore, 1) := by decide +kernel
theorem dX6_reading_73 : decode cX6_reading 73 = .ok (.aload_n 0, 1) := by decide +kernel
theorem dX6_reading_74 : decode cX6_reading 74 = .ok (.dup, 1) := by decide +kernel
theorem dX6_reading_75 : decode cX6_reading 75 = .ok (.getfield 123, 3) := by decide +kernel
theorem dX6_reading_78 : decode cX6_reading 78 = .ok (.iconst 1, 1) := by decide +kernel
theorem dX6_reading_79 : decode cX6_reading 79 = .ok (.iadd, 1) := by decide +kernel
theorem dX6_reading_80 : decode cX6_reading 80 = .ok (.putfield 123, 3) := by decide +kernel
theorem dX6_reading_83 : decode cX6_reading 83 = .ok (.aload_n 0, 1) := by decide +kernel
theorem dX6_reading_84 : decode cX6_reading 84 = .ok (.getfield 123, 3) := by decide +kernel
theorem dX6_reading_87 : decode cX6_reading 87 = .ok (.iconst 1, 1) := by decide +kernel
theorem dX6_reading_88 : decode cX6_reading 88 = .ok (.isub, 1) := by decide +kernel
theorem dX6_reading_89 : decode cX6_reading 89 = .ok (.ireturn, 1) := by decide +kernel
theorem dX6_back_0 : decode cX6_back 0 = .ok (.iload_n 1, 1) := by decide +kernel
theorem dX6_back_1 : decode cX6_back 1 = .ok (.iconst 0, 1) := by decide +kernel
theorem dX6_back_2 : decode cX6_back 2 = .ok (.aload_n 0, 1) := by decide +kernel
theorem dX6_back_3 : decode cX6_back 3 = .ok (.getfield 123, 3) := by decide +kernel
theorem dX6_back_6 : decode cX6_back 6 = .ok (.invokestatic 80, 3) := by decide +kernel
theorem dX6_back_9 : decode cX6_back 9 = .ok (.ifCond .ne 6, 3) := by decide +kernel
theorem dX6_back_12 : decode cX6_back 12 = .ok (.bipush (-2), 2) := by decide +kernel
theorem dX6_back_14 : decode cX6_back 14 = .ok (.ireturn, 1) := by decide +kernel
theorem dX6_back_15 : decode cX6_back 15 = .ok (.aload_n 0, 1) := by decide +kernel
theorem dX6_back_16 : decode cX6_back 16 = .ok (.dup, 1) := by decide +kernel
theorem dX6_back_17 : decode cX6_back 17 = .ok (.getfield 123, 3) := by decide +kernel
theorem dX6_back_20 : decode cX6_back 20 = .ok (.iload_n 1, 1) := by decide +kernel
theorem dX6_back_21 : decode cX6_back 21 = .ok (.isub, 1) := by decide +kernel
theorem dX6_back_22 : decode cX6_back 22 = .ok (.putfield 123, 3) := by decide +kernel
theorem dX6_back_25 : decode cX6_back 25 = .ok (.aload_n 0, 1) := by decide +kernel
theorem dX6_back_26 : decode cX6_back 26 = .ok (.getfield 123, 3) := by decide +kernel
theorem dX6_back_29 : decode cX6_back 29 = .ok (.ireturn, 1) := by decide +kernel
theorem dX6_areSo_0 : decode cX6_areSo 0 = .ok (.aload_n 0, 1) := by decide +kernel
theorem dX6_areSo_1 : decode cX6_areSo 1 = .ok (.invokevirtual 205, 3) := by decide +kernel
theorem dX6_areSo_4 : decode cX6_areSo 4 = .ok (.bipush (-9), 2) := by decide +kernel
theorem dX6_areSo_6 : decode cX6_areSo 6 = .ok (.if_icmp .eq 5, 3) := by decide +kernel
theorem dX6_areSo_9 : decode cX6_areSo 9 = .ok (.iconst 0, 1) := by decide +kernel
theorem dX6_areSo_10 : decode cX6_areSo 10 = .ok (.ireturn, 1) := by decide +kernel
theorem dX6_areSo_11 : decode cX6_areSo 11 = .ok (.iconst 0, 1) := by decide +kernel
theorem dX6_areSo_12 : decode cX6_areSo 12 = .ok (.istore_n 1, 1) := by decide +kernel
theorem dX6_areSo_13 : decode cX6_areSo 13 = .ok (.iload_n 1, 1) := by decide +kernel
theorem dX6_areSo_14 : decode cX6_areSo 14 = .ok (.aload_n 0, 1) := by decide +kernel
theorem dX6_areSo_15 : decode cX6_areSo 15 = .ok (.getfield 123, 3) := by decide +kernel
theorem dX6_areSo_18 : decode cX6_areSo 18 = .ok (.if_icmp .ge 36, 3) := by decide +kernel
theorem dX6_areSo_21 : decode cX6_areSo 21 = .ok (.aload_n 0, 1) := by decide +kernel
theorem dX6_areSo_22 : decode cX6_areSo 22 = .ok (.aload_n 0, 1) := by decide +kernel
theorem dX6_areSo_23 : decode cX6_areSo 23 = .ok (.getfield 66, 3) := by decide +kernel
theorem dX6_areSo_26 : decode cX6_areSo 26 = .ok (.iload_n 1, 1) := by decide +kernel
theorem dX6_areSo_27 : decode cX6_areSo 27 = .ok (.iaload, 1) := by decide +kernel
theorem dX6_areSo_28 : decode cX6_areSo 28 = .ok (.aload_n 0, 1) := by decide +kernel
theorem dX6_areSo_29 : decode cX6_areSo 29 = .ok (.getfield 72, 3) := by decide +kernel
theorem dX6_areSo_32 : decode cX6_areSo 32 = .ok (.iload_n 1, 1) := by decide +kernel
theorem dX6_areSo_33 : decode cX6_areSo 33 = .ok (.iaload, 1) := by decide +kernel
theorem dX6_areSo_34 : decode cX6_areSo 34 = .ok (.invokevirtual 208, 3) := by decide +kernel
theorem dX6_areSo_37 : decode cX6_areSo 37 = .ok (.aload_n 0, 1) := by decide +kernel
theorem dX6_areSo_38 : decode cX6_areSo 38 = .ok (.getfield 69, 3) := by decide +kernel
theorem dX6_areSo_41 : decode cX6_areSo 41 = .ok (.iload_n 1, 1) := by decide +kernel
theorem dX6_areSo_42 : decode cX6_areSo 42 = .ok (.iaload, 1) := by decide +kernel
theorem dX6_areSo_43 : decode cX6_areSo 43 = .ok (.if_icmp .eq 5, 3) := by decide +kernel
theorem dX6_areSo_46 : decode cX6_areSo 46 = .ok (.iconst 0, 1) := by decide +kernel
theorem dX6_areSo_47 : decode cX6_areSo 47 = .ok (.ireturn, 1) := by decide +kernel
theorem dX6_areSo_48 : decode cX6_areSo 48 = .ok (.iinc 1 1, 3) := by decide +kernel
theorem dX6_areSo_51 : decode cX6_areSo 51 = .ok (.goto (-38), 3) := by decide +kernel
theorem dX6_areSo_54 : decode cX6_areSo 54 = .ok (.iconst 1, 1) := by decide +kernel
theorem dX6_areSo_55 : decode cX6_areSo 55 = .ok (.ireturn, 1) := by decide +kernel
theorem dX6_since_0 : decode cX6_since 0 = .ok (.aload_n 0, 1) := by decide +kernel
theorem dX6_since_1 : decode cX6_since 1 = .ok (.iconst 0, 1) := by decide +kernel
theorem dX6_since_2 : decode cX6_since 2 = .ok (.putfield 75, 3) := by decide +kernel
theorem dX6_since_5 : decode cX6_since 5 = .ok (.iload_n 1, 1) := by decide +kernel
theorem dX6_since_6 : decode cX6_since 6 = .ok (.invokestatic 93, 3) := by decide +kernel
theorem dX6_since_9 : decode cX6_since 9 = .ok (.ifCond .ne 5, 3) := by decide +kernel
theorem dX6_since_12 : decode cX6_since 12 = .ok (.iconst (-1), 1) := by decide +kernel
theorem dX6_since_13 : decode cX6_since 13 = .ok (.ireturn, 1) := by decide +kernel
theorem dX6_since_14 : decode cX6_since 14 = .ok (.iload_n 2, 1) := by decide +kernel
theorem dX6_since_15 : decode cX6_since 15 = .ok (.iload 4, 2) := by decide +kernel
theorem dX6_since_17 : decode cX6_since 17 = .ok (.invokestatic 199, 3) := by decide +kernel
theorem dX6_since_20 : decode cX6_since 20 = .ok (.ifCond .ne 6, 3) := by decide +kernel
theorem dX6_since_23 : decode cX6_since 23 = .ok (.bipush (-2), 2) := by decide +kernel
theorem dX6_since_25 : decode cX6_since 25 = .ok (.ireturn, 1) := by decide +kernel
theorem dX6_since_26 : decode cX6_since 26 = .ok (.aload_n 0, 1) := by decide +kernel
theorem dX6_since_27 : decode cX6_since 27 = .ok (.iload_n 1, 1) := by decide +kernel
theorem dX6_since_28 : decode cX6_since 28 = .ok (.iload_n 2, 1) := by decide +kernel
theorem dX6_since_29 : decode cX6_since 29 = .ok (.iload_n 3, 1) := by decide +kernel
theorem dX6_since_30 : decode cX6_since 30 = .ok (.iload 4, 2) := by decide +kernel
theorem dX6_since_32 : decode cX6_since 32 = .ok (.invokevirtual 202, 3) := by decide +kernel
theorem dX6_since_35 : decode cX6_since 35 = .ok (.istore 5, 2) := by decide +kernel
theorem dX6_since_37 : decode cX6_since 37 = .ok (.iload 5, 2) := by decide +kernel
theorem dX6_since_39 : decode cX6_since 39 = .ok (.ifCond .eq 6, 3) := by decide +kernel
theorem dX6_since_42 : decode cX6_since 42 = .ok (.iload 5, 2) := by decide +kernel
theorem dX6_since_44 : decode cX6_since 44 = .ok (.ireturn, 1) := by decide +kernel
theorem dX6_since_45 : decode cX6_since 45 = .ok (.aload_n 0, 1) := by decide +kernel
theorem dX6_since_46 : decode cX6_since 46 = .ok (.getfield 19, 3) := by decide +kernel
theorem dX6_since_49 : decode cX6_since 49 = .ok (.istore 6, 2) := by decide +kernel
theorem dX6_since_51 : decode cX6_since 51 = .ok (.iconst 0, 1) := by decide +kernel
theorem dX6_since_52 : decode cX6_since 52 = .ok (.istore 7, 2) := by decide +kernel
theorem dX6_since_54 : decode cX6_since 54 = .ok (.iconst 0, 1) := by decide +kernel
theorem dX6_since_55 : decode cX6_since 55 = .ok (.istore 8, 2) := by decide +kernel
theorem dX6_since_57 : decode cX6_since 57 = .ok (.iload 8, 2) := by decide +kernel
theorem dX6_since_59 : decode cX6_since 59 = .ok (.bipush 30, 2) := by decide +kernel
theorem dX6_since_61 : decode cX6_since 61 = .ok (.if_icmp .gt 35, 3) := by decide +kernel
theorem dX6_since_64 : decode cX6_since 64 = .ok (.aload_n 0, 1) := by decide +kernel
theorem dX6_since_65 : decode cX6_since 65 = .ok (.iload 8, 2) := by decide +kernel
theorem dX6_since_67 : decode cX6_since 67 = .ok (.putfield 19, 3) := by decide +kernel
theorem dX6_since_70 : decode cX6_since 70 = .ok (.iload 7, 2) := by decide +kernel
theorem dX6_since_72 : decode cX6_since 72 = .ok (.aload_n 0, 1) := by decide +kernel
theorem dX6_since_73 : decode cX6_since 73 = .ok (.invokevirtual 252, 3) := by decide +kernel
theorem dX6_since_76 : decode cX6_since 76 = .ok (.ifCond .eq 10, 3) := by decide +kernel
theorem dX6_since_79 : decode cX6_since 79 = .ok (.iconst 1, 1) := by decide +kernel
theorem dX6_since_80 : decode cX6_since 80 = .ok (.iload 8, 2) := by decide +kernel
theorem dX6_since_82 : decode cX6_since 82 = .ok (.ishl, 1) := by decide +kernel
theorem dX6_since_83 : decode cX6_since 83 = .ok (.goto 4, 3) := by decide +kernel
theorem dX6_since_86 : decode cX6_since 86 = .ok (.iconst 0, 1) := by decide +kernel
theorem dX6_since_87 : decode cX6_since 87 = .ok (.ior, 1) := by decide +kernel
theorem dX6_since_88 : decode cX6_since 88 = .ok (.istore 7, 2) := by decide +kernel
theorem dX6_since_90 : decode cX6_since 90 = .ok (.iinc 8 1, 3) := by decide +kernel
theorem dX6_since_93 : decode cX6_since 93 = .ok (.goto (-36), 3) := by decide +kernel
theorem dX6_since_96 : decode cX6_since 96 = .ok (.aload_n 0, 1) := by decide +kernel
theorem dX6_since_97 : decode cX6_since 97 = .ok (.iload 6, 2) := by decide +kernel
theorem dX6_since_99 : decode cX6_since 99 = .ok (.putfield 19, 3) := by decide +kernel
theorem dX6_since_102 : decode cX6_since 102 = .ok (.iload 7, 2) := by decide +kernel
theorem dX6_since_104 : decode cX6_since 104 = .ok (.ireturn, 1) := by decide +kernel
theorem dX6_kinds_0 : decode cX6_kinds 0 = .ok (.aload_n 0, 1) := by decide +kernel
theorem dX6_kinds_1 : decode cX6_kinds 1 = .ok (.iconst 0, 1) := by decide +kernel
theorem dX6_kinds_2 : decode cX6_kinds 2 = .ok (.putfield 75, 3) := by decide +kernel
theorem dX6_kinds_5 : decode cX6_kinds 5 = .ok (.aload_n 0, 1) := by decide +kernel
theorem dX6_kinds_6 : decode cX6_kinds 6 = .ok (.iload_n 1, 1) := by decide +kernel
theorem dX6_kinds_7 : decode cX6_kinds 7 = .ok (.invokevirtual 143, 3) := by decide +kernel
theorem dX6_kinds_10 : decode cX6_kinds 10 = .ok (.ifCond .eq 10, 3) := by decide +kernel
theorem dX6_kinds_13 : decode cX6_kinds 13 = .ok (.iload_n 2, 1) := by decide +kernel
theorem dX6_kinds_14 : decode cX6_kinds 14 = .ok (.invokestatic 93, 3) := by decide +kernel
theorem dX6_kinds_17 : decode cX6_kinds 17 = .ok (.ifCond .ne 5, 3) := by decide +kernel
theorem dX6_kinds_20 : decode cX6_kinds 20 = .ok (.iconst (-1), 1) := by decide +kernel
theorem dX6_kinds_21 : decode cX6_kinds 21 = .ok (.ireturn, 1) := by decide +kernel
theorem dX6_kinds_22 : decode cX6_kinds 22 = .ok (.iload_n 3, 1) := by decide +kernel
theorem dX6_kinds_23 : decode cX6_kinds 23 = .ok (.iload 5, 2) := by decide +kernel
theorem dX6_kinds_25 : decode cX6_kinds 25 = .ok (.invokestatic 199, 3) := by decide +kernel
theorem dX6_kinds_28 : decode cX6_kinds 28 = .ok (.ifCond .ne 6, 3) := by decide +kernel
theorem dX6_kinds_31 : decode cX6_kinds 31 = .ok (.bipush (-2), 2) := by decide +kernel
theorem dX6_kinds_33 : decode cX6_kinds 33 = .ok (.ireturn, 1) := by decide +kernel
theorem dX6_kinds_34 : decode cX6_kinds 34 = .ok (.aload_n 0, 1) := by decide +kernel
theorem dX6_kinds_35 : decode cX6_kinds 35 = .ok (.iload_n 2, 1) := by decide +kernel
theorem dX6_kinds_36 : decode cX6_kinds 36 = .ok (.iload_n 3, 1) := by decide +kernel
theorem dX6_kinds_37 : decode cX6_kinds 37 = .ok (.iload 4, 2) := by decide +kernel
theorem dX6_kinds_39 : decode cX6_kinds 39 = .ok (.iload 5, 2) := by decide +kernel
theorem dX6_kinds_41 : decode cX6_kinds 41 = .ok (.invokevirtual 202, 3) := by decide +kernel
theorem dX6_kinds_44 : decode cX6_kinds 44 = .ok (.istore 6, 2) := by decide +kernel
theorem dX6_kinds_46 : decode cX6_kinds 46 = .ok (.iload 6, 2) := by decide +kernel
theorem dX6_kinds_48 : decode cX6_kinds 48 = .ok (.ifCond .eq 6, 3) := by decide +kernel
theorem dX6_kinds_51 : decode cX6_kinds 51 = .ok (.iload 6, 2) := by decide +kernel
theorem dX6_kinds_53 : decode cX6_kinds 53 = .ok (.ireturn, 1) := by decide +kernel
theorem dX6_kinds_54 : decode cX6_kinds 54 = .ok (.aload_n 0, 1) := by decide +kernel
theorem dX6_kinds_55 : decode cX6_kinds 55 = .ok (.getfield 33, 3) := by decide +kernel
theorem dX6_kinds_58 : decode cX6_kinds 58 = .ok (.iload_n 1, 1) := by decide +kernel
theorem dX6_kinds_59 : decode cX6_kinds 59 = .ok (.iaload, 1) := by decide +kernel
theorem dX6_kinds_60 : decode cX6_kinds 60 = .ok (.istore 7, 2) := by decide +kernel
theorem dX6_kinds_62 : decode cX6_kinds 62 = .ok (.iconst 0, 1) := by decide +kernel
theorem dX6_kinds_63 : decode cX6_kinds 63 = .ok (.istore 8, 2) := by decide +kernel
theorem dX6_kinds_65 : decode cX6_kinds 65 = .ok (.iconst 0, 1) := by decide +kernel
theorem dX6_kinds_66 : decode cX6_kinds 66 = .ok (.istore 9, 2) := by decide +kernel
theorem dX6_kinds_68 : decode cX6_kinds 68 = .ok (.iload 9, 2) := by decide +kernel
theorem dX6_kinds_70 : decode cX6_kinds 70 = .ok (.iconst 3, 1) := by decide +kernel
theorem dX6_kinds_71 : decode cX6_kinds 71 = .ok (.if_icmp .ge 37, 3) := by decide +kernel
theorem dX6_kinds_74 : decode cX6_kinds 74 = .ok (.aload_n 0, 1) := by decide +kernel
theorem dX6_kinds_75 : decode cX6_kinds 75 = .ok (.getfield 33, 3) := by decide +kernel
theorem dX6_kinds_78 : decode cX6_kinds 78 = .ok (.iload_n 1, 1) := by decide +kernel
theorem dX6_kinds_79 : decode cX6_kinds 79 = .ok (.iload 9, 2) := by decide +kernel
theorem dX6_kinds_81 : decode cX6_kinds 81 = .ok (.iastore, 1) := by decide +kernel
theorem dX6_kinds_82 : decode cX6_kinds 82 = .ok (.iload 8, 2) := by decide +kernel
theorem dX6_kinds_84 : decode cX6_kinds 84 = .ok (.aload_n 0, 1) := by decide +kernel
theorem dX6_kinds_85 : decode cX6_kinds 85 = .ok (.invokevirtual 252, 3) := by decide +kernel
theorem dX6_kinds_88 : decode cX6_kinds 88 = .ok (.ifCond .eq 10, 3) := by decide +kernel
theorem dX6_kinds_91 : decode cX6_kinds 91 = .ok (.iconst 1, 1) := by decide +kernel
theorem dX6_kinds_92 : decode cX6_kinds 92 = .ok (.iload 9, 2) := by decide +kernel
theorem dX6_kinds_94 : decode cX6_kinds 94 = .ok (.ishl, 1) := by decide +kernel
theorem dX6_kinds_95 : decode cX6_kinds 95 = .ok (.goto 4, 3) := by decide +kernel
theorem dX6_kinds_98 : decode cX6_kinds 98 = .ok (.iconst 0, 1) := by decide +kernel
theorem dX6_kinds_99 : decode cX6_kinds 99 = .ok (.ior, 1) := by decide +kernel
theorem dX6_kinds_100 : decode cX6_kinds 100 = .ok (.istore 8, 2) := by decide +kernel
theorem dX6_kinds_102 : decode cX6_kinds 102 = .ok (.iinc 9 1, 3) := by decide +kernel
theorem dX6_kinds_105 : decode cX6_kinds 105 = .ok (.goto (-37), 3) := by decide +kernel
theorem dX6_kinds_108 : decode cX6_kinds 108 = .ok (.aload_n 0, 1) := by decide +kernel
theorem dX6_kinds_109 : decode cX6_kinds 109 = .ok (.getfield 33, 3) := by decide +kernel
theorem dX6_kinds_112 : decode cX6_kinds 112 = .ok (.iload_n 1, 1) := by decide +kernel
theorem dX6_kinds_113 : decode cX6_kinds 113 = .ok (.iload 7, 2) := by decide +kernel
theorem dX6_kinds_115 : decode cX6_kinds 115 = .ok (.iastore, 1) := by decide +kernel
theorem dX6_kinds_116 : decode cX6_kinds 116 = .ok (.iload 8, 2) := by decide +kernel
theorem dX6_kinds_118 : decode cX6_kinds 118 = .ok (.ireturn, 1) := by decide +kernel
theorem dX6_sheet_0 : decode cX6_sheet 0 = .ok (.aload_n 0, 1) := by decide +kernel
theorem dX6_sheet_1 : decode cX6_sheet 1 = .ok (.iconst 0, 1) := by decide +kernel
theorem dX6_sheet_2 : decode cX6_sheet 2 = .ok (.putfield 75, 3) := by decide +kernel
theorem dX6_sheet_5 : decode cX6_sheet 5 = .ok (.iload_n 1, 1) := by decide +kernel
theorem dX6_sheet_6 : decode cX6_sheet 6 = .ok (.invokestatic 93, 3) := by decide +kernel
theorem dX6_sheet_9 : decode cX6_sheet 9 = .ok (.ifCond .ne 5, 3) := by decide +kernel
theorem dX6_sheet_12 : decode cX6_sheet 12 = .ok (.iconst (-1), 1) := by decide +kernel
theorem dX6_sheet_13 : decode cX6_sheet 13 = .ok (.ireturn, 1) := by decide +kernel
theorem dX6_sheet_14 : decode cX6_sheet 14 = .ok (.iload_n 2, 1) := by decide +kernel
theorem dX6_sheet_15 : decode cX6_sheet 15 = .ok (.invokestatic 97, 3) := by decide +kernel
theorem dX6_sheet_18 : decode cX6_sheet 18 = .ok (.ifCond .eq 9, 3) := by decide +kernel
theorem dX6_sheet_21 : decode cX6_sheet 21 = .ok (.iload_n 3, 1) := by decide +kernel
theorem dX6_sheet_22 : decode cX6_sheet 22 = .ok (.bipush 60, 2) := by decide +kernel
theorem dX6_sheet_24 : decode cX6_sheet 24 = .ok (.if_icmp .le 6, 3) := by decide +kernel
theorem dX6_sheet_27 : decode cX6_sheet 27 = .ok (.bipush (-2), 2) := by decide +kernel
theorem dX6_sheet_29 : decode cX6_sheet 29 = .ok (.ireturn, 1) := by decide +kernel
theorem dX6_sheet_30 : decode cX6_sheet 30 = .ok (.iload_n 3, 1) := by decide +kernel
theorem dX6_sheet_31 : decode cX6_sheet 31 = .ok (.ifCond .ge 9, 3) := by decide +kernel
theorem dX6_sheet_34 : decode cX6_sheet 34 = .ok (.aload_n 0, 1) := by decide +kernel
theorem dX6_sheet_35 : decode cX6_sheet 35 = .ok (.iconst 4, 1) := by decide +kernel
theorem dX6_sheet_36 : decode cX6_sheet 36 = .ok (.invokevirtual 104, 3) := by decide +kernel
theorem dX6_sheet_39 : decode cX6_sheet 39 = .ok (.ireturn, 1) := by decide +kernel
theorem dX6_sheet_40 : decode cX6_sheet 40 = .ok (.aload_n 0, 1) := by decide +kernel
theorem dX6_sheet_41 : decode cX6_sheet 41 = .ok (.getfield 9, 3) := by decide +kernel
theorem dX6_sheet_44 : decode cX6_sheet 44 = .ok (.iload_n 1, 1) := by decide +kernel
theorem dX6_sheet_45 : decode cX6_sheet 45 = .ok (.iload_n 2, 1) := by decide +kernel
theorem dX6_sheet_46 : decode cX6_sheet 46 = .ok (.iastore, 1) := by decide +kernel
theorem dX6_sheet_47 : decode cX6_sheet 47 = .ok (.aload_n 0, 1) := by decide +kernel
theorem dX6_sheet_48 : decode cX6_sheet 48 = .ok (.getfield 13, 3) := by decide +kernel
theorem dX6_sheet_51 : decode cX6_sheet 51 = .ok (.iload_n 1, 1) := by decide +kernel
theorem dX6_sheet_52 : decode cX6_sheet 52 = .ok (.iload_n 3, 1) := by decide +kernel
theorem dX6_sheet_53 : decode cX6_sheet 53 = .ok (.iastore, 1) := by decide +kernel
theorem dX6_sheet_54 : decode cX6_sheet 54 = .ok (.iconst 0, 1) := by decide +kernel
theorem dX6_sheet_55 : decode cX6_sheet 55 = .ok (.istore 4, 2) := by decide +kernel
theorem dX6_sheet_57 : decode cX6_sheet 57 = .ok (.iload 4, 2) := by decide +kernel
theorem dX6_sheet_59 : decode cX6_sheet 59 = .ok (.bipush 60, 2) := by decide +kernel
theorem dX6_sheet_61 : decode cX6_sheet 61 = .ok (.if_icmp .ge 22, 3) := by decide +kernel
theorem dX6_sheet_64 : decode cX6_sheet 64 = .ok (.aload_n 0, 1) := by decide +kernel
theorem dX6_sheet_65 : decode cX6_sheet 65 = .ok (.getfield 16, 3) := by decide +kernel
theorem dX6_sheet_68 : decode cX6_sheet 68 = .ok (.bipush 60, 2) := by decide +kernel
theorem dX6_sheet_70 : decode cX6_sheet 70 = .ok (.iload_n 1, 1) := by decide +kernel
theorem dX6_sheet_71 : decode cX6_sheet 71 = .ok (.imul, 1) := by decide +kernel
theorem dX6_sheet_72 : decode cX6_sheet 72 = .ok (.iload 4, 2) := by decide +kernel
theorem dX6_sheet_74 : decode cX6_sheet 74 = .ok (.iadd, 1) := by decide +kernel
theorem dX6_sheet_75 : decode cX6_sheet 75 = .ok (.iconst 0, 1) := by decide +kernel
theorem dX6_sheet_76 : decode cX6_sheet 76 = .ok (.iastore, 1) := by decide +kernel
theorem dX6_sheet_77 : decode cX6_sheet 77 = .ok (.iinc 4 1, 3) := by decide +kernel
theorem dX6_sheet_80 : decode cX6_sheet 80 = .ok (.goto (-23), 3) := by decide +kernel
theorem dX6_sheet_83 : decode cX6_sheet 83 = .ok (.iconst 1, 1) := by decide +kernel
theorem dX6_sheet_84 : decode cX6_sheet 84 = .ok (.ireturn, 1) := by decide +kernel
theorem dX6_lose_0 : decode cX6_lose 0 = .ok (.iload_n 1, 1) := by decide +kernel
theorem dX6_lose_1 : decode cX6_lose 1 = .ok (.invokestatic 93, 3) := by decide +kernel
theorem dX6_lose_4 : decode cX6_lose 4 = .ok (.ifCond .ne 5, 3) := by decide +kernel
theorem dX6_lose_7 : decode cX6_lose 7 = .ok (.iconst (-1), 1) := by decide +kernel
theorem dX6_lose_8 : decode cX6_lose 8 = .ok (.ireturn, 1) := by decide +kernel
theorem dX6_lose_9 : decode cX6_lose 9 = .ok (.aload_n 0, 1) := by decide +kernel
theorem dX6_lose_10 : decode cX6_lose 10 = .ok (.getfield 9, 3) := by decide +kernel
theorem dX6_lose_13 : decode cX6_lose 13 = .ok (.iload_n 1, 1) := by decide +kernel
theorem dX6_lose_14 : decode cX6_lose 14 = .ok (.iaload, 1) := by decide +kernel
theorem dX6_lose_15 : decode cX6_lose 15 = .ok (.bipush (-9), 2) := by decide +kernel
theorem dX6_lose_17 : decode cX6_lose 17 = .ok (.if_icmp .ne 7, 3) := by decide +kernel
theorem dX6_lose_20 : decode cX6_lose 20 = .ok (.iconst 0, 1) := by decide +kernel
theorem dX6_lose_21 : decode cX6_lose 21 = .ok (.goto 4, 3) := by decide +kernel
theorem dX6_lose_24 : decode cX6_lose 24 = .ok (.iconst 1, 1) := by decide +kernel
theorem dX6_lose_25 : decode cX6_lose 25 = .ok (.istore_n 2, 1) := by decide +kernel
theorem dX6_lose_26 : decode cX6_lose 26 = .ok (.aload_n 0, 1) := by decide +kernel
theorem dX6_lose_27 : decode cX6_lose 27 = .ok (.getfield 9, 3) := by decide +kernel
theorem dX6_lose_30 : decode cX6_lose 30 = .ok (.iload_n 1, 1) := by decide +kernel
theorem dX6_lose_31 : decode cX6_lose 31 = .ok (.bipush (-9), 2) := by decide +kernel
theorem dX6_lose_33 : decode cX6_lose 33 = .ok (.iastore, 1) := by decide +kernel
theorem dX6_lose_34 : decode cX6_lose 34 = .ok (.iload_n 2, 1) := by decide +kernel
theorem dX6_lose_35 : decode cX6_lose 35 = .ok (.ireturn, 1) := by decide +kernel
theorem dX6_put_0 : decode cX6_put 0 = .ok (.aload_n 0, 1) := by decide +kernel
theorem dX6_put_1 : decode cX6_put 1 = .ok (.iconst 0, 1) := by decide +kernel
theorem dX6_put_2 : decode cX6_put 2 = .ok (.putfield 75, 3) := by decide +kernel
theorem dX6_put_5 : decode cX6_put 5 = .ok (.iload_n 1, 1) := by decide +kernel
theorem dX6_put_6 : decode cX6_put 6 = .ok (.invokestatic 93, 3) := by decide +kernel
theorem dX6_put_9 : decode cX6_put 9 = .ok (.ifCond .ne 5, 3) := by decide +kernel
theorem dX6_put_12 : decode cX6_put 12 = .ok (.iconst (-1), 1) := by decide +kernel
theorem dX6_put_13 : decode cX6_put 13 = .ok (.ireturn, 1) := by decide +kernel
theorem dX6_put_14 : decode cX6_put 14 = .ok (.aload_n 0, 1) := by decide +kernel
theorem dX6_put_15 : decode cX6_put 15 = .ok (.getfield 9, 3) := by decide +kernel
theorem dX6_put_18 : decode cX6_put 18 = .ok (.iload_n 1, 1) := by decide +kernel
theorem dX6_put_19 : decode cX6_put 19 = .ok (.iaload, 1) := by decide +kernel
theorem dX6_put_20 : decode cX6_put 20 = .ok (.bipush (-9), 2) := by decide +kernel
theorem dX6_put_22 : decode cX6_put 22 = .ok (.if_icmp .ne 9, 3) := by decide +kernel
theorem dX6_put_25 : decode cX6_put 25 = .ok (.aload_n 0, 1) := by decide +kernel
theorem dX6_put_26 : decode cX6_put 26 = .ok (.iconst 1, 1) := by decide +kernel
theorem dX6_put_27 : decode cX6_put 27 = .ok (.invokevirtual 104, 3) := by decide +kernel
theorem dX6_put_30 : decode cX6_put 30 = .ok (.ireturn, 1) := by decide +kernel
theorem dX6_put_31 : decode cX6_put 31 = .ok (.iload_n 2, 1) := by decide +kernel
theorem dX6_put_32 : decode cX6_put 32 = .ok (.iconst 0, 1) := by decide +kernel
theorem dX6_put_33 : decode cX6_put 33 = .ok (.aload_n 0, 1) := by decide +kernel
theorem dX6_put_34 : decode cX6_put 34 = .ok (.getfield 13, 3) := by decide +kernel
theorem dX6_put_37 : decode cX6_put 37 = .ok (.iload_n 1, 1) := by decide +kernel
theorem dX6_put_38 : decode cX6_put 38 = .ok (.iaload, 1) := by decide +kernel
theorem dX6_put_39 : decode cX6_put 39 = .ok (.iconst 1, 1) := by decide +kernel
theorem dX6_put_40 : decode cX6_put 40 = .ok (.isub, 1) := by decide +kernel
theorem dX6_put_41 : decode cX6_put 41 = .ok (.invokestatic 80, 3) := by decide +kernel
theorem dX6_put_44 : decode cX6_put 44 = .ok (.ifCond .ne 9, 3) := by decide +kernel
theorem dX6_put_47 : decode cX6_put 47 = .ok (.aload_n 0, 1) := by decide +kernel
theorem dX6_put_48 : decode cX6_put 48 = .ok (.iconst 3, 1) := by decide +kernel
theorem dX6_put_49 : decode cX6_put 49 = .ok (.invokevirtual 104, 3) := by decide +kernel
theorem dX6_put_52 : decode cX6_put 52 = .ok (.ireturn, 1) := by decide +kernel
theorem dX6_put_53 : decode cX6_put 53 = .ok (.aload_n 0, 1) := by decide +kernel
theorem dX6_put_54 : decode cX6_put 54 = .ok (.getfield 16, 3) := by decide +kernel
theorem dX6_put_57 : decode cX6_put 57 = .ok (.bipush 60, 2) := by decide +kernel
theorem dX6_put_59 : decode cX6_put 59 = .ok (.iload_n 1, 1) := by decide +kernel
theorem dX6_put_60 : decode cX6_put 60 = .ok (.imul, 1) := by decide +kernel
theorem dX6_put_61 : decode cX6_put 61 = .ok (.iload_n 2, 1) := by decide +kernel
theorem dX6_put_62 : decode cX6_put 62 = .ok (.iadd, 1) := by decide +kernel
theorem dX6_put_63 : decode cX6_put 63 = .ok (.aload_n 0, 1) := by decide +kernel
theorem dX6_put_64 : decode cX6_put 64 = .ok (.getfield 9, 3) := by decide +kernel
theorem dX6_put_67 : decode cX6_put 67 = .ok (.iload_n 1, 1) := by decide +kernel
theorem dX6_put_68 : decode cX6_put 68 = .ok (.iaload, 1) := by decide +kernel
theorem dX6_put_69 : decode cX6_put 69 = .ok (.ifCond .ne 8, 3) := by decide +kernel
theorem dX6_put_72 : decode cX6_put 72 = .ok (.iload_n 3, 1) := by decide +kernel
theorem dX6_put_73 : decode cX6_put 73 = .ok (.i2b, 1) := by decide +kernel
theorem dX6_put_74 : decode cX6_put 74 = .ok (.goto 19, 3) := by decide +kernel
theorem dX6_put_77 : decode cX6_put 77 = .ok (.aload_n 0, 1) := by decide +kernel
theorem dX6_put_78 : decode cX6_put 78 = .ok (.getfield 9, 3) := by decide +kernel
theorem dX6_put_81 : decode cX6_put 81 = .ok (.iload_n 1, 1) := by decide +kernel
theorem dX6_put_82 : decode cX6_put 82 = .ok (.iaload, 1) := by decide +kernel
theorem dX6_put_83 : decode cX6_put 83 = .ok (.iconst 1, 1) := by decide +kernel
theorem dX6_put_84 : decode cX6_put 84 = .ok (.if_icmp .ne 8, 3) := by decide +kernel
theorem dX6_put_87 : decode cX6_put 87 = .ok (.iload_n 3, 1) := by decide +kernel
theorem dX6_put_88 : decode cX6_put 88 = .ok (.i2s, 1) := by decide +kernel
theorem dX6_put_89 : decode cX6_put 89 = .ok (.goto 4, 3) := by decide +kernel
theorem dX6_put_92 : decode cX6_put 92 = .ok (.iload_n 3, 1) := by decide +kernel
theorem dX6_put_93 : decode cX6_put 93 = .ok (.iastore, 1) := by decide +kernel
theorem dX6_put_94 : decode cX6_put 94 = .ok (.iconst 1, 1) := by decide +kernel
theorem dX6_put_95 : decode cX6_put 95 = .ok (.ireturn, 1) := by decide +kernel
theorem dX6_cell_0 : decode cX6_cell 0 = .ok (.aload_n 0, 1) := by decide +kernel
theorem dX6_cell_1 : decode cX6_cell 1 = .ok (.iconst 0, 1) := by decide +kernel
theorem dX6_cell_2 : decode cX6_cell 2 = .ok (.putfield 75, 3) := by decide +kernel
theorem dX6_cell_5 : decode cX6_cell 5 = .ok (.iload_n 1, 1) := by decide +kernel
theorem dX6_cell_6 : decode cX6_cell 6 = .ok (.invokestatic 93, 3) := by decide +kernel
theorem dX6_cell_9 : decode cX6_cell 9 = .ok (.ifCond .eq 10, 3) := by decide +kernel
theorem dX6_cell_12 : decode cX6_cell 12 = .ok (.iload_n 3, 1) := by decide +kernel
theorem dX6_cell_13 : decode cX6_cell 13 = .ok (.invokestatic 97, 3) := by decide +kernel
theorem dX6_cell_16 : decode cX6_cell 16 = .ok (.ifCond .ne 7, 3) := by decide +kernel
theorem dX6_cell_19 : decode cX6_cell 19 = .ok (.ldc2_w 78, 3) := by decide +kernel
theorem dX6_cell_22 : decode cX6_cell 22 = .ok (.lreturn, 1) := by decide +kernel
theorem dX6_cell_23 : decode cX6_cell 23 = .ok (.aload_n 0, 1) := by decide +kernel
theorem dX6_cell_24 : decode cX6_cell 24 = .ok (.getfield 9, 3) := by decide +kernel
theorem dX6_cell_27 : decode cX6_cell 27 = .ok (.iload_n 1, 1) := by decide +kernel
theorem dX6_cell_28 : decode cX6_cell 28 = .ok (.iaload, 1) := by decide +kernel
theorem dX6_cell_29 : decode cX6_cell 29 = .ok (.bipush (-9), 2) := by decide +kernel
theorem dX6_cell_31 : decode cX6_cell 31 = .ok (.if_icmp .eq 19, 3) := by decide +kernel
theorem dX6_cell_34 : decode cX6_cell 34 = .ok (.aload_n 0, 1) := by decide +kernel
theorem dX6_cell_35 : decode cX6_cell 35 = .ok (.getfield 9, 3) := by decide +kernel
theorem dX6_cell_38 : decode cX6_cell 38 = .ok (.iload_n 1, 1) := by decide +kernel
theorem dX6_cell_39 : decode cX6_cell 39 = .ok (.iaload, 1) := by decide +kernel
theorem dX6_cell_40 : decode cX6_cell 40 = .ok (.iload_n 3, 1) := by decide +kernel
theorem dX6_cell_41 : decode cX6_cell 41 = .ok (.if_icmp .eq 9, 3) := by decide +kernel
theorem dX6_cell_44 : decode cX6_cell 44 = .ok (.aload_n 0, 1) := by decide +kernel
theorem dX6_cell_45 : decode cX6_cell 45 = .ok (.iconst 2, 1) := by decide +kernel
theorem dX6_cell_46 : decode cX6_cell 46 = .ok (.invokevirtual 256, 3) := by decide +kernel
theorem dX6_cell_49 : decode cX6_cell 49 = .ok (.lreturn, 1) := by decide +kernel
theorem dX6_cell_50 : decode cX6_cell 50 = .ok (.aload_n 0, 1) := by decide +kernel
theorem dX6_cell_51 : decode cX6_cell 51 = .ok (.getfield 9, 3) := by decide +kernel
theorem dX6_cell_54 : decode cX6_cell 54 = .ok (.iload_n 1, 1) := by decide +kernel
theorem dX6_cell_55 : decode cX6_cell 55 = .ok (.iaload, 1) := by decide +kernel
theorem dX6_cell_56 : decode cX6_cell 56 = .ok (.bipush (-9), 2) := by decide +kernel
theorem dX6_cell_58 : decode cX6_cell 58 = .ok (.if_icmp .ne 9, 3) := by decide +kernel
theorem dX6_cell_61 : decode cX6_cell 61 = .ok (.aload_n 0, 1) := by decide +kernel
theorem dX6_cell_62 : decode cX6_cell 62 = .ok (.iconst 1, 1) := by decide +kernel
theorem dX6_cell_63 : decode cX6_cell 63 = .ok (.invokevirtual 256, 3) := by decide +kernel
theorem dX6_cell_66 : decode cX6_cell 66 = .ok (.lreturn, 1) := by decide +kernel
theorem dX6_cell_67 : decode cX6_cell 67 = .ok (.iload_n 2, 1) := by decide +kernel
theorem dX6_cell_68 : decode cX6_cell 68 = .ok (.iconst 0, 1) := by decide +kernel
theorem dX6_cell_69 : decode cX6_cell 69 = .ok (.aload_n 0, 1) := by decide +kernel
theorem dX6_cell_70 : decode cX6_cell 70 = .ok (.getfield 13, 3) := by decide +kernel
theorem dX6_cell_73 : decode cX6_cell 73 = .ok (.iload_n 1, 1) := by decide +kernel
theorem dX6_cell_74 : decode cX6_cell 74 = .ok (.iaload, 1) := by decide +kernel
theorem dX6_cell_75 : decode cX6_cell 75 = .ok (.iconst 1, 1) := by decide +kernel
theorem dX6_cell_76 : decode cX6_cell 76 = .ok (.isub, 1) := by decide +kernel
theorem dX6_cell_77 : decode cX6_cell 77 = .ok (.invokestatic 80, 3) := by decide +kernel
theorem dX6_cell_80 : decode cX6_cell 80 = .ok (.ifCond .ne 9, 3) := by decide +kernel
theorem dX6_cell_83 : decode cX6_cell 83 = .ok (.aload_n 0, 1) := by decide +kernel
theorem dX6_cell_84 : decode cX6_cell 84 = .ok (.iconst 3, 1) := by decide +kernel
theorem dX6_cell_85 : decode cX6_cell 85 = .ok (.invokevirtual 256, 3) := by decide +kernel
theorem dX6_cell_88 : decode cX6_cell 88 = .ok (.lreturn, 1) := by decide +kernel
theorem dX6_cell_89 : decode cX6_cell 89 = .ok (.aload_n 0, 1) := by decide +kernel
theorem dX6_cell_90 : decode cX6_cell 90 = .ok (.getfield 16, 3) := by decide +kernel
theorem dX6_cell_93 : decode cX6_cell 93 = .ok (.bipush 60, 2) := by decide +kernel
theorem dX6_cell_95 : decode cX6_cell 95 = .ok (.iload_n 1, 1) := by decide +kernel
theorem dX6_cell_96 : decode cX6_cell 96 = .ok (.imul, 1) := by decide +kernel
theorem dX6_cell_97 : decode cX6_cell 97 = .ok (.iload_n 2, 1) := by decide +kernel
theorem dX6_cell_98 : decode cX6_cell 98 = .ok (.iadd, 1) := by decide +kernel
theorem dX6_cell_99 : decode cX6_cell 99 = .ok (.iaload, 1) := by decide +kernel
theorem dX6_cell_100 : decode cX6_cell 100 = .ok (.i2l, 1) := by decide +kernel
theorem dX6_cell_101 : decode cX6_cell 101 = .ok (.lreturn, 1) := by decide +kernel
theorem dX6_copy_0 : decode cX6_copy 0 = .ok (.aload_n 0, 1) := by decide +kernel
theorem dX6_copy_1 : decode cX6_copy 1 = .ok (.iconst 0, 1) := by decide +kernel
theorem dX6_copy_2 : decode cX6_copy 2 = .ok (.putfield 75, 3) := by decide +kernel
theorem dX6_copy_5 : decode cX6_copy 5 = .ok (.iload_n 1, 1) := by decide +kernel
theorem dX6_copy_6 : decode cX6_copy 6 = .ok (.invokestatic 93, 3) := by decide +kernel
theorem dX6_copy_9 : decode cX6_copy 9 = .ok (.ifCond .eq 10, 3) := by decide +kernel
theorem dX6_copy_12 : decode cX6_copy 12 = .ok (.iload_n 3, 1) := by decide +kernel
theorem dX6_copy_13 : decode cX6_copy 13 = .ok (.invokestatic 93, 3) := by decide +kernel
theorem dX6_copy_16 : decode cX6_copy 16 = .ok (.ifCond .ne 5, 3) := by decide +kernel
theorem dX6_copy_19 : decode cX6_copy 19 = .ok (.iconst (-1), 1) := by decide +kernel
theorem dX6_copy_20 : decode cX6_copy 20 = .ok (.ireturn, 1) := by decide +kernel
theorem dX6_copy_21 : decode cX6_copy 21 = .ok (.aload_n 0, 1) := by decide +kernel
theorem dX6_copy_22 : decode cX6_copy 22 = .ok (.getfield 9, 3) := by decide +kernel
theorem dX6_copy_25 : decode cX6_copy 25 = .ok (.iload_n 1, 1) := by decide +kernel
theorem dX6_copy_26 : decode cX6_copy 26 = .ok (.iaload, 1) := by decide +kernel
theorem dX6_copy_27 : decode cX6_copy 27 = .ok (.bipush (-9), 2) := by decide +kernel
theorem dX6_copy_29 : decode cX6_copy 29 = .ok (.if_icmp .eq 14, 3) := by decide +kernel
theorem dX6_copy_32 : decode cX6_copy 32 = .ok (.aload_n 0, 1) := by decide +kernel
theorem dX6_copy_33 : decode cX6_copy 33 = .ok (.getfield 9, 3) := by decide +kernel
theorem dX6_copy_36 : decode cX6_copy 36 = .ok (.iload_n 3, 1) := by decide +kernel
theorem dX6_copy_37 : decode cX6_copy 37 = .ok (.iaload, 1) := by decide +kernel
theorem dX6_copy_38 : decode cX6_copy 38 = .ok (.bipush (-9), 2) := by decide +kernel
theorem dX6_copy_40 : decode cX6_copy 40 = .ok (.if_icmp .ne 9, 3) := by decide +kernel
theorem dX6_copy_43 : decode cX6_copy 43 = .ok (.aload_n 0, 1) := by decide +kernel
theorem dX6_copy_44 : decode cX6_copy 44 = .ok (.iconst 1, 1) := by decide +kernel
theorem dX6_copy_45 : decode cX6_copy 45 = .ok (.invokevirtual 104, 3) := by decide +kernel
theorem dX6_copy_48 : decode cX6_copy 48 = .ok (.ireturn, 1) := by decide +kernel
theorem dX6_copy_49 : decode cX6_copy 49 = .ok (.aload_n 0, 1) := by decide +kernel
theorem dX6_copy_50 : decode cX6_copy 50 = .ok (.getfield 9, 3) := by decide +kernel
theorem dX6_copy_53 : decode cX6_copy 53 = .ok (.iload_n 1, 1) := by decide +kernel
theorem dX6_copy_54 : decode cX6_copy 54 = .ok (.iaload, 1) := by decide +kernel
theorem dX6_copy_55 : decode cX6_copy 55 = .ok (.aload_n 0, 1) := by decide +kernel
theorem dX6_copy_56 : decode cX6_copy 56 = .ok (.getfield 9, 3) := by decide +kernel
theorem dX6_copy_59 : decode cX6_copy 59 = .ok (.iload_n 3, 1) := by decide +kernel
theorem dX6_copy_60 : decode cX6_copy 60 = .ok (.iaload, 1) := by decide +kernel
theorem dX6_copy_61 : decode cX6_copy 61 = .ok (.if_icmp .eq 9, 3) := by decide +kernel
theorem dX6_copy_64 : decode cX6_copy 64 = .ok (.aload_n 0, 1) := by decide +kernel
theorem dX6_copy_65 : decode cX6_copy 65 = .ok (.iconst 2, 1) := by decide +kernel
theorem dX6_copy_66 : decode cX6_copy 66 = .ok (.invokevirtual 104, 3) := by decide +kernel
theorem dX6_copy_69 : decode cX6_copy 69 = .ok (.ireturn, 1) := by decide +kernel
theorem dX6_copy_70 : decode cX6_copy 70 = .ok (.iload_n 2, 1) := by decide +kernel
theorem dX6_copy_71 : decode cX6_copy 71 = .ok (.ifCond .lt 38, 3) := by decide +kernel
theorem dX6_copy_74 : decode cX6_copy 74 = .ok (.iload 4, 2) := by decide +kernel
theorem dX6_copy_76 : decode cX6_copy 76 = .ok (.ifCond .lt 33, 3) := by decide +kernel
theorem dX6_copy_79 : decode cX6_copy 79 = .ok (.iload 5, 2) := by decide +kernel
theorem dX6_copy_81 : decode cX6_copy 81 = .ok (.ifCond .lt 28, 3) := by decide +kernel
theorem dX6_copy_84 : decode cX6_copy 84 = .ok (.iload_n 2, 1) := by decide +kernel
theorem dX6_copy_85 : decode cX6_copy 85 = .ok (.aload_n 0, 1) := by decide +kernel
theorem dX6_copy_86 : decode cX6_copy 86 = .ok (.getfield 13, 3) := by decide +kernel
theorem dX6_copy_89 : decode cX6_copy 89 = .ok (.iload_n 1, 1) := by decide +kernel
theorem dX6_copy_90 : decode cX6_copy 90 = .ok (.iaload, 1) := by decide +kernel
theorem dX6_copy_91 : decode cX6_copy 91 = .ok (.if_icmp .gt 18, 3) := by decide +kernel
theorem dX6_copy_94 : decode cX6_copy 94 = .ok (.iload 4, 2) := by decide +kernel
theorem dX6_copy_96 : decode cX6_copy 96 = .ok (.aload_n 0, 1) := by decide +kernel
theorem dX6_copy_97 : decode cX6_copy 97 = .ok (.getfield 13, 3) := by decide +kernel
theorem dX6_copy_100 : decode cX6_copy 100 = .ok (.iload_n 3, 1) := by decide +kernel
theorem dX6_copy_101 : decode cX6_copy 101 = .ok (.iaload, 1) := by decide +kernel
theorem dX6_copy_102 : decode cX6_copy 102 = .ok (.if_icmp .gt 7, 3) := by decide +kernel
theorem dX6_copy_105 : decode cX6_copy 105 = .ok (.iconst 1, 1) := by decide +kernel
theorem dX6_copy_106 : decode cX6_copy 106 = .ok (.goto 4, 3) := by decide +kernel
theorem dX6_copy_109 : decode cX6_copy 109 = .ok (.iconst 0, 1) := by decide +kernel
theorem dX6_copy_110 : decode cX6_copy 110 = .ok (.istore 6, 2) := by decide +kernel
theorem dX6_copy_112 : decode cX6_copy 112 = .ok (.iload 6, 2) := by decide +kernel
theorem dX6_copy_114 : decode cX6_copy 114 = .ok (.ifCond .eq 30, 3) := by decide +kernel
theorem dX6_copy_117 : decode cX6_copy 117 = .ok (.iload 5, 2) := by decide +kernel
theorem dX6_copy_119 : decode cX6_copy 119 = .ok (.aload_n 0, 1) := by decide +kernel
theorem dX6_copy_120 : decode cX6_copy 120 = .ok (.getfield 13, 3) := by decide +kernel
theorem dX6_copy_123 : decode cX6_copy 123 = .ok (.iload_n 1, 1) := by decide +kernel
theorem dX6_copy_124 : decode cX6_copy 124 = .ok (.iaload, 1) := by decide +kernel
theorem dX6_copy_125 : decode cX6_copy 125 = .ok (.iload_n 2, 1) := by decide +kernel
theorem dX6_copy_126 : decode cX6_copy 126 = .ok (.isub, 1) := by decide +kernel
theorem dX6_copy_127 : decode cX6_copy 127 = .ok (.if_icmp .gt 17, 3) := by decide +kernel
theorem dX6_copy_130 : decode cX6_copy 130 = .ok (.iload 5, 2) := by decide +kernel
theorem dX6_copy_132 : decode cX6_copy 132 = .ok (.aload_n 0, 1) := by decide +kernel
theorem dX6_copy_133 : decode cX6_copy 133 = .ok (.getfield 13, 3) := by decide +kernel
theorem dX6_copy_136 : decode cX6_copy 136 = .ok (.iload_n 3, 1) := by decide +kernel
theorem dX6_copy_137 : decode cX6_copy 137 = .ok (.iaload, 1) := by decide +kernel
theorem dX6_copy_138 : decode cX6_copy 138 = .ok (.iload 4, 2) := by decide +kernel
theorem dX6_copy_140 : decode cX6_copy 140 = .ok (.isub, 1) := by decide +kernel
theorem dX6_copy_141 : decode cX6_copy 141 = .ok (.if_icmp .le 9, 3) := by decide +kernel
theorem dX6_copy_144 : decode cX6_copy 144 = .ok (.aload_n 0, 1) := by decide +kernel
theorem dX6_copy_145 : decode cX6_copy 145 = .ok (.iconst 3, 1) := by decide +kernel
theorem dX6_copy_146 : decode cX6_copy 146 = .ok (.invokevirtual 104, 3) := by decide +kernel
theorem dX6_copy_149 : decode cX6_copy 149 = .ok (.ireturn, 1) := by decide +kernel
theorem dX6_copy_150 : decode cX6_copy 150 = .ok (.iload_n 2, 1) := by decide +kernel
theorem dX6_copy_151 : decode cX6_copy 151 = .ok (.iload 4, 2) := by decide +kernel
theorem dX6_copy_153 : decode cX6_copy 153 = .ok (.if_icmp .ge 7, 3) := by decide +kernel
theorem dX6_copy_156 : decode cX6_copy 156 = .ok (.iconst 1, 1) := by decide +kernel
theorem dX6_copy_157 : decode cX6_copy 157 = .ok (.goto 4, 3) := by decide +kernel
theorem dX6_copy_160 : decode cX6_copy 160 = .ok (.iconst 0, 1) := by decide +kernel
theorem dX6_copy_161 : decode cX6_copy 161 = .ok (.istore 7, 2) := by decide +kernel
theorem dX6_copy_163 : decode cX6_copy 163 = .ok (.iconst 0, 1) := by decide +kernel
theorem dX6_copy_164 : decode cX6_copy 164 = .ok (.istore 8, 2) := by decide +kernel
theorem dX6_copy_166 : decode cX6_copy 166 = .ok (.iload 8, 2) := by decide +kernel
theorem dX6_copy_168 : decode cX6_copy 168 = .ok (.iload 5, 2) := by decide +kernel
theorem dX6_copy_170 : decode cX6_copy 170 = .ok (.if_icmp .ge 57, 3) := by decide +kernel
theorem dX6_copy_173 : decode cX6_copy 173 = .ok (.iload 7, 2) := by decide +kernel
theorem dX6_copy_175 : decode cX6_copy 175 = .ok (.ifCond .eq 13, 3) := by decide +kernel
theorem dX6_copy_178 : decode cX6_copy 178 = .ok (.iload 5, 2) := by decide +kernel
theorem dX6_copy_180 : decode cX6_copy 180 = .ok (.iconst 1, 1) := by decide +kernel
theorem dX6_copy_181 : decode cX6_copy 181 = .ok (.isub, 1) := by decide +kernel
theorem dX6_copy_182 : decode cX6_copy 182 = .ok (.iload 8, 2) := by decide +kernel
theorem dX6_copy_184 : decode cX6_copy 184 = .ok (.isub, 1) := by decide +kernel
theorem dX6_copy_185 : decode cX6_copy 185 = .ok (.goto 5, 3) := by decide +kernel
theorem dX6_copy_188 : decode cX6_copy 188 = .ok (.iload 8, 2) := by decide +kernel
theorem dX6_copy_190 : decode cX6_copy 190 = .ok (.istore 9, 2) := by decide +kernel
theorem dX6_copy_192 : decode cX6_copy 192 = .ok (.aload_n 0, 1) := by decide +kernel
theorem dX6_copy_193 : decode cX6_copy 193 = .ok (.getfield 16, 3) := by decide +kernel
theorem dX6_copy_196 : decode cX6_copy 196 = .ok (.bipush 60, 2) := by decide +kernel
theorem dX6_copy_198 : decode cX6_copy 198 = .ok (.iload_n 3, 1) := by decide +kernel
theorem dX6_copy_199 : decode cX6_copy 199 = .ok (.imul, 1) := by decide +kernel
theorem dX6_copy_200 : decode cX6_copy 200 = .ok (.iload 4, 2) := by decide +kernel
theorem dX6_copy_202 : decode cX6_copy 202 = .ok (.iadd, 1) := by decide +kernel
theorem dX6_copy_203 : decode cX6_copy 203 = .ok (.iload 9, 2) := by decide +kernel
theorem dX6_copy_205 : decode cX6_copy 205 = .ok (.iadd, 1) := by decide +kernel
theorem dX6_copy_206 : decode cX6_copy 206 = .ok (.aload_n 0, 1) := by decide +kernel
theorem dX6_copy_207 : decode cX6_copy 207 = .ok (.getfield 16, 3) := by decide +kernel
theorem dX6_copy_210 : decode cX6_copy 210 = .ok (.bipush 60, 2) := by decide +kernel
theorem dX6_copy_212 : decode cX6_copy 212 = .ok (.iload_n 1, 1) := by decide +kernel
theorem dX6_copy_213 : decode cX6_copy 213 = .ok (.imul, 1) := by decide +kernel
theorem dX6_copy_214 : decode cX6_copy 214 = .ok (.iload_n 2, 1) := by decide +kernel
theorem dX6_copy_215 : decode cX6_copy 215 = .ok (.iadd, 1) := by decide +kernel
theorem dX6_copy_216 : decode cX6_copy 216 = .ok (.iload 9, 2) := by decide +kernel
theorem dX6_copy_218 : decode cX6_copy 218 = .ok (.iadd, 1) := by decide +kernel
theorem dX6_copy_219 : decode cX6_copy 219 = .ok (.iaload, 1) := by decide +kernel
theorem dX6_copy_220 : decode cX6_copy 220 = .ok (.iastore, 1) := by decide +kernel
theorem dX6_copy_221 : decode cX6_copy 221 = .ok (.iinc 8 1, 3) := by decide +kernel
theorem dX6_copy_224 : decode cX6_copy 224 = .ok (.goto (-58), 3) := by decide +kernel
theorem dX6_copy_227 : decode cX6_copy 227 = .ok (.iload 5, 2) := by decide +kernel
theorem dX6_copy_229 : decode cX6_copy 229 = .ok (.ireturn, 1) := by decide +kernel
theorem dX6_begins_0 : decode cX6_begins 0 = .ok (.aload_n 0, 1) := by decide +kernel
theorem dX6_begins_1 : decode cX6_begins 1 = .ok (.bipush 31, 2) := by decide +kernel
theorem dX6_begins_3 : decode cX6_begins 3 = .ok (.aload_n 0, 1) := by decide +kernel
theorem dX6_begins_4 : decode cX6_begins 4 = .ok (.getfield 260, 3) := by decide +kernel
theorem dX6_begins_7 : decode cX6_begins 7 = .ok (.imul, 1) := by decide +kernel
theorem dX6_begins_8 : decode cX6_begins 8 = .ok (.iload_n 1, 1) := by decide +kernel
theorem dX6_begins_9 : decode cX6_begins 9 = .ok (.iadd, 1) := by decide +kernel
theorem dX6_begins_10 : decode cX6_begins 10 = .ok (.putfield 260, 3) := by decide +kernel
theorem dX6_begins_13 : decode cX6_begins 13 = .ok (.return_, 1) := by decide +kernel
theorem dX6_tell_0 : decode cX6_tell 0 = .ok (.aload_n 0, 1) := by decide +kernel
theorem dX6_tell_1 : decode cX6_tell 1 = .ok (.iload_n 1, 1) := by decide +kernel
theorem dX6_tell_2 : decode cX6_tell 2 = .ok (.invokevirtual 143, 3) := by decide +kernel
theorem dX6_tell_5 : decode cX6_tell 5 = .ok (.ifCond .ne 5, 3) := by decide +kernel
theorem dX6_tell_8 : decode cX6_tell 8 = .ok (.iconst (-1), 1) := by decide +kernel
theorem dX6_tell_9 : decode cX6_tell 9 = .ok (.ireturn, 1) := by decide +kernel
theorem dX6_tell_10 : decode cX6_tell 10 = .ok (.aload_n 0, 1) := by decide +kernel
theorem dX6_tell_11 : decode cX6_tell 11 = .ok (.getfield 36, 3) := by decide +kernel
theorem dX6_tell_14 : decode cX6_tell 14 = .ok (.iload_n 1, 1) := by decide +kernel
theorem dX6_tell_15 : decode cX6_tell 15 = .ok (.iaload, 1) := by decide +kernel
theorem dX6_tell_16 : decode cX6_tell 16 = .ok (.istore_n 2, 1) := by decide +kernel
theorem dX6_tell_17 : decode cX6_tell 17 = .ok (.aload_n 0, 1) := by decide +kernel
theorem dX6_tell_18 : decode cX6_tell 18 = .ok (.getfield 33, 3) := by decide +kernel
theorem dX6_tell_21 : decode cX6_tell 21 = .ok (.iload_n 1, 1) := by decide +kernel
theorem dX6_tell_22 : decode cX6_tell 22 = .ok (.iaload, 1) := by decide +kernel
theorem dX6_tell_23 : decode cX6_tell 23 = .ok (.lookupswitch 67 #[(1, 25), (2, 40)], 25) := by decide +kernel
theorem dX6_tell_48 : decode cX6_tell 48 = .ok (.aload_n 0, 1) := by decide +kernel
theorem dX6_tell_49 : decode cX6_tell 49 = .ok (.iconst 2, 1) := by decide +kernel
theorem dX6_tell_50 : decode cX6_tell 50 = .ok (.invokevirtual 263, 3) := by decide +kernel
theorem dX6_tell_53 : decode cX6_tell 53 = .ok (.aload_n 0, 1) := by decide +kernel
theorem dX6_tell_54 : decode cX6_tell 54 = .ok (.iconst 1, 1) := by decide +kernel
theorem dX6_tell_55 : decode cX6_tell 55 = .ok (.invokevirtual 263, 3) := by decide +kernel
theorem dX6_tell_58 : decode cX6_tell 58 = .ok (.iload_n 2, 1) := by decide +kernel
theorem dX6_tell_59 : decode cX6_tell 59 = .ok (.bipush 100, 2) := by decide +kernel
theorem dX6_tell_61 : decode cX6_tell 61 = .ok (.iadd, 1) := by decide +kernel
theorem dX6_tell_62 : decode cX6_tell 62 = .ok (.ireturn, 1) := by decide +kernel
theorem dX6_tell_63 : decode cX6_tell 63 = .ok (.aload_n 0, 1) := by decide +kernel
theorem dX6_tell_64 : decode cX6_tell 64 = .ok (.iconst 3, 1) := by decide +kernel
theorem dX6_tell_65 : decode cX6_tell 65 = .ok (.invokevirtual 263, 3) := by decide +kernel
theorem dX6_tell_68 : decode cX6_tell 68 = .ok (.aload_n 0, 1) := by decide +kernel
theorem dX6_tell_69 : decode cX6_tell 69 = .ok (.iconst 2, 1) := by decide +kernel
theorem dX6_tell_70 : decode cX6_tell 70 = .ok (.invokevirtual 263, 3) := by decide +kernel
theorem dX6_tell_73 : decode cX6_tell 73 = .ok (.aload_n 0, 1) := by decide +kernel
theorem dX6_tell_74 : decode cX6_tell 74 = .ok (.iconst 1, 1) := by decide +kernel
theorem dX6_tell_75 : decode cX6_tell 75 = .ok (.invokevirtual 263, 3) := by decide +kernel
theorem dX6_tell_78 : decode cX6_tell 78 = .ok (.aload_n 0, 1) := by decide +kernel
theorem dX6_tell_79 : decode cX6_tell 79 = .ok (.iconst 1, 1) := by decide +kernel
theorem dX6_tell_80 : decode cX6_tell 80 = .ok (.invokevirtual 263, 3) := by decide +kernel
theorem dX6_tell_83 : decode cX6_tell 83 = .ok (.iconst 2, 1) := by decide +kernel
theorem dX6_tell_84 : decode cX6_tell 84 = .ok (.iload_n 2, 1) := by decide +kernel
theorem dX6_tell_85 : decode cX6_tell 85 = .ok (.imul, 1) := by decide +kernel
theorem dX6_tell_86 : decode cX6_tell 86 = .ok (.bipush 100, 2) := by decide +kernel
theorem dX6_tell_88 : decode cX6_tell 88 = .ok (.iadd, 1) := by decide +kernel
theorem dX6_tell_89 : decode cX6_tell 89 = .ok (.ireturn, 1) := by decide +kernel
theorem dX6_tell_90 : decode cX6_tell 90 = .ok (.aload_n 0, 1) := by decide +kernel
theorem dX6_tell_91 : decode cX6_tell 91 = .ok (.iconst 1, 1) := by decide +kernel
theorem dX6_tell_92 : decode cX6_tell 92 = .ok (.invokevirtual 263, 3) := by decide +kernel
theorem dX6_tell_95 : decode cX6_tell 95 = .ok (.iload_n 2, 1) := by decide +kernel
theorem dX6_tell_96 : decode cX6_tell 96 = .ok (.ireturn, 1) := by decide +kernel
theorem dX6_hail_0 : decode cX6_hail 0 = .ok (.aload_n 0, 1) := by decide +kernel
theorem dX6_hail_1 : decode cX6_hail 1 = .ok (.iload_n 1, 1) := by decide +kernel
theorem dX6_hail_2 : decode cX6_hail 2 = .ok (.invokevirtual 143, 3) := by decide +kernel
theorem dX6_hail_5 : decode cX6_hail 5 = .ok (.ifCond .ne 5, 3) := by decide +kernel
theorem dX6_hail_8 : decode cX6_hail 8 = .ok (.iconst (-1), 1) := by decide +kernel
theorem dX6_hail_9 : decode cX6_hail 9 = .ok (.ireturn, 1) := by decide +kernel
theorem dX6_hail_10 : decode cX6_hail 10 = .ok (.aload_n 0, 1) := by decide +kernel
theorem dX6_hail_11 : decode cX6_hail 11 = .ok (.aload_n 0, 1) := by decide +kernel
theorem dX6_hail_12 : decode cX6_hail 12 = .ok (.getfield 33, 3) := by decide +kernel
theorem dX6_hail_15 : decode cX6_hail 15 = .ok (.iload_n 1, 1) := by decide +kernel
theorem dX6_hail_16 : decode cX6_hail 16 = .ok (.iaload, 1) := by decide +kernel
theorem dX6_hail_17 : decode cX6_hail 17 = .ok (.iconst 2, 1) := by decide +kernel
theorem dX6_hail_18 : decode cX6_hail 18 = .ok (.if_icmp .ne 7, 3) := by decide +kernel
theorem dX6_hail_21 : decode cX6_hail 21 = .ok (.iconst 5, 1) := by decide +kernel
theorem dX6_hail_22 : decode cX6_hail 22 = .ok (.goto 4, 3) := by decide +kernel
theorem dX6_hail_25 : decode cX6_hail 25 = .ok (.iconst 4, 1) := by decide +kernel
theorem dX6_hail_26 : decode cX6_hail 26 = .ok (.invokevirtual 263, 3) := by decide +kernel
theorem dX6_hail_29 : decode cX6_hail 29 = .ok (.aload_n 0, 1) := by decide +kernel
theorem dX6_hail_30 : decode cX6_hail 30 = .ok (.getfield 33, 3) := by decide +kernel
theorem dX6_hail_33 : decode cX6_hail 33 = .ok (.iload_n 1, 1) := by decide +kernel
theorem dX6_hail_34 : decode cX6_hail 34 = .ok (.iaload, 1) := by decide +kernel
theorem dX6_hail_35 : decode cX6_hail 35 = .ok (.iconst 2, 1) := by decide +kernel
theorem dX6_hail_36 : decode cX6_hail 36 = .ok (.if_icmp .ne 8, 3) := by decide +kernel
theorem dX6_hail_39 : decode cX6_hail 39 = .ok (.bipush 60, 2) := by decide +kernel
theorem dX6_hail_41 : decode cX6_hail 41 = .ok (.goto 4, 3) := by decide +kernel
theorem dX6_hail_44 : decode cX6_hail 44 = .ok (.iload_n 1, 1) := by decide +kernel
theorem dX6_hail_45 : decode cX6_hail 45 = .ok (.ireturn, 1) := by decide +kernel
theorem dX6_as_0 : decode cX6_as 0 = .ok (.aload_n 0, 1) := by decide +kernel
theorem dX6_as_1 : decode cX6_as 1 = .ok (.iconst 0, 1) := by decide +kernel
theorem dX6_as_2 : decode cX6_as 2 = .ok (.putfield 75, 3) := by decide +kernel
theorem dX6_as_5 : decode cX6_as 5 = .ok (.aload_n 0, 1) := by decide +kernel
theorem dX6_as_6 : decode cX6_as 6 = .ok (.iload_n 1, 1) := by decide +kernel
theorem dX6_as_7 : decode cX6_as 7 = .ok (.invokevirtual 143, 3) := by decide +kernel
theorem dX6_as_10 : decode cX6_as 10 = .ok (.ifCond .ne 5, 3) := by decide +kernel
theorem dX6_as_13 : decode cX6_as 13 = .ok (.iconst (-1), 1) := by decide +kernel
theorem dX6_as_14 : decode cX6_as 14 = .ok (.ireturn, 1) := by decide +kernel
theorem dX6_as_15 : decode cX6_as 15 = .ok (.iload_n 2, 1) := by decide +kernel
theorem dX6_as_16 : decode cX6_as 16 = .ok (.iconst 0, 1) := by decide +kernel
theorem dX6_as_17 : decode cX6_as 17 = .ok (.iconst 2, 1) := by decide +kernel
theorem dX6_as_18 : decode cX6_as 18 = .ok (.invokestatic 80, 3) := by decide +kernel
theorem dX6_as_21 : decode cX6_as 21 = .ok (.ifCond .ne 6, 3) := by decide +kernel
theorem dX6_as_24 : decode cX6_as 24 = .ok (.bipush (-2), 2) := by decide +kernel
theorem dX6_as_26 : decode cX6_as 26 = .ok (.ireturn, 1) := by decide +kernel
theorem dX6_as_27 : decode cX6_as 27 = .ok (.aload_n 0, 1) := by decide +kernel
theorem dX6_as_28 : decode cX6_as 28 = .ok (.getfield 33, 3) := by decide +kernel
theorem dX6_as_31 : decode cX6_as 31 = .ok (.iload_n 1, 1) := by decide +kernel
theorem dX6_as_32 : decode cX6_as 32 = .ok (.iaload, 1) := by decide +kernel
theorem dX6_as_33 : decode cX6_as 33 = .ok (.iload_n 2, 1) := by decide +kernel
theorem dX6_as_34 : decode cX6_as 34 = .ok (.if_icmp .lt 7, 3) := by decide +kernel
theorem dX6_as_37 : decode cX6_as 37 = .ok (.iconst 1, 1) := by decide +kernel
theorem dX6_as_38 : decode cX6_as 38 = .ok (.goto 8, 3) := by decide +kernel
theorem dX6_as_41 : decode cX6_as 41 = .ok (.aload_n 0, 1) := by decide +kernel
theorem dX6_as_42 : decode cX6_as 42 = .ok (.iconst 2, 1) := by decide +kernel
theorem dX6_as_43 : decode cX6_as 43 = .ok (.invokevirtual 104, 3) := by decide +kernel
theorem dX6_as_46 : decode cX6_as 46 = .ok (.ireturn, 1) := by decide +kernel
theorem dX6_trace_0 : decode cX6_trace 0 = .ok (.aload_n 0, 1) := by decide +kernel
theorem dX6_trace_1 : decode cX6_trace 1 = .ok (.getfield 260, 3) := by decide +kernel
theorem dX6_trace_4 : decode cX6_trace 4 = .ok (.ireturn, 1) := by decide +kernel
theorem dX6_fault_0 : decode cX6_fault 0 = .ok (.aload_n 0, 1) := by decide +kernel
theorem dX6_fault_1 : decode cX6_fault 1 = .ok (.getfield 75, 3) := by decide +kernel
theorem dX6_fault_4 : decode cX6_fault 4 = .ok (.ireturn, 1) := by decide +kernel
theorem dX6_many_0 : decode cX6_many 0 = .ok (.iload_n 1, 1) := by decide +kernel
theorem dX6_many_1 : decode cX6_many 1 = .ok (.ifCond .ne 10, 3) := by decide +kernel
theorem dX6_many_4 : decode cX6_many 4 = .ok (.aload_n 0, 1) := by decide +kernel
theorem dX6_many_5 : decode cX6_many 5 = .ok (.getfield 84, 3) := by decide +kernel
theorem dX6_many_8 : decode cX6_many 8 = .ok (.goto 41, 3) := by decide +kernel
theorem dX6_many_11 : decode cX6_many 11 = .ok (.iload_n 1, 1) := by decide +kernel
theorem dX6_many_12 : decode cX6_many 12 = .ok (.iconst 1, 1) := by decide +kernel
theorem dX6_many_13 : decode cX6_many 13 = .ok (.if_icmp .ne 10, 3) := by decide +kernel
theorem dX6_many_16 : decode cX6_many 16 = .ok (.aload_n 0, 1) := by decide +kernel
theorem dX6_many_17 : decode cX6_many 17 = .ok (.getfield 87, 3) := by decide +kernel
theorem dX6_many_20 : decode cX6_many 20 = .ok (.goto 29, 3) := by decide +kernel
theorem dX6_many_23 : decode cX6_many 23 = .ok (.iload_n 1, 1) := by decide +kernel
theorem dX6_many_24 : decode cX6_many 24 = .ok (.iconst 2, 1) := by decide +kernel
theorem dX6_many_25 : decode cX6_many 25 = .ok (.if_icmp .ne 10, 3) := by decide +kernel
theorem dX6_many_28 : decode cX6_many 28 = .ok (.aload_n 0, 1) := by decide +kernel
theorem dX6_many_29 : decode cX6_many 29 = .ok (.getfield 114, 3) := by decide +kernel
theorem dX6_many_32 : decode cX6_many 32 = .ok (.goto 17, 3) := by decide +kernel
theorem dX6_many_35 : decode cX6_many 35 = .ok (.iload_n 1, 1) := by decide +kernel
theorem dX6_many_36 : decode cX6_many 36 = .ok (.iconst 3, 1) := by decide +kernel
theorem dX6_many_37 : decode cX6_many 37 = .ok (.if_icmp .ne 10, 3) := by decide +kernel
theorem dX6_many_40 : decode cX6_many 40 = .ok (.aload_n 0, 1) := by decide +kernel
theorem dX6_many_41 : decode cX6_many 41 = .ok (.getfield 123, 3) := by decide +kernel
theorem dX6_many_44 : decode cX6_many 44 = .ok (.goto 5, 3) := by decide +kernel
theorem dX6_many_47 : decode cX6_many 47 = .ok (.bipush (-2), 2) := by decide +kernel
theorem dX6_many_49 : decode cX6_many 49 = .ok (.ireturn, 1) := by decide +kernel
end
section
theorem dL_law_0 : decode cL_law 0 = .ok (.new 7, 3) := by decide +kernel
theorem dL_law_3 : decode cL_law 3 = .ok (.dup, 1) := by decide +kernel
theorem dL_law_4 : decode cL_law 4 = .ok (.invokespecial 9, 3) := by decide +kernel
theorem dL_law_7 : decode cL_law 7 = .ok (.astore_n 1, 1) := by decide +kernel
theorem dL_law_8 : decode cL_law 8 = .ok (.new 10, 3) := by decide +kernel
theorem dL_law_11 : decode cL_law 11 = .ok (.dup, 1) := by decide +kernel
theorem dL_law_12 : decode cL_law 12 = .ok (.invokespecial 12, 3) := by decide +kernel
theorem dL_law_15 : decode cL_law 15 = .ok (.astore_n 2, 1) := by decide +kernel
theorem dL_law_16 : decode cL_law 16 = .ok (.iconst 0, 1) := by decide +kernel
theorem dL_law_17 : decode cL_law 17 = .ok (.istore_n 3, 1) := by decide +kernel
theorem dL_law_18 : decode cL_law 18 = .ok (.iload_n 3, 1) := by decide +kernel
theorem dL_law_19 : decode cL_law 19 = .ok (.aload_n 0, 1) := by decide +kernel
theorem dL_law_20 : decode cL_law 20 = .ok (.arraylength, 1) := by decide +kernel
theorem dL_law_21 : decode cL_law 21 = .ok (.bipush 7, 2) := by decide +kernel
theorem dL_law_23 : decode cL_law 23 = .ok (.isub, 1) := by decide +kernel
theorem dL_law_24 : decode cL_law 24 = .ok (.if_icmp .gt 1220, 3) := by decide +kernel
theorem dL_law_27 : decode cL_law 27 = .ok (.aload_n 0, 1) := by decide +kernel
theorem dL_law_28 : decode cL_law 28 = .ok (.iload_n 3, 1) := by decide +kernel
theorem dL_law_29 : decode cL_law 29 = .ok (.iaload, 1) := by decide +kernel
theorem dL_law_30 : decode cL_law 30 = .ok (.bipush 31, 2) := by decide +kernel
theorem dL_law_32 : decode cL_law 32 = .ok (.iand, 1) := by decide +kernel
theorem dL_law_33 : decode cL_law 33 = .ok (.tableswitch 1205 0 29 #[135, 188, 221, 254, 277, 300, 349, 372, 435, 510, 574, 587, 620, 633, 656, 679, 722, 745, 798, 861, 904, 927, 970, 1014, 1077, 1100, 1123, 1156, 1169, 1182], 135) := by decide +kernel
theorem dL_law_168 : decode cL_law 168 = .ok (.aload_n 1, 1) := by decide +kernel
theorem dL_law_169 : decode cL_law 169 = .ok (.aload_n 0, 1) := by decide +kernel
theorem dL_law_170 : decode cL_law 170 = .ok (.iload_n 3, 1) := by decide +kernel
theorem dL_law_171 : decode cL_law 171 = .ok (.iconst 1, 1) := by decide +kernel
theorem dL_law_172 : decode cL_law 172 = .ok (.iadd, 1) := by decide +kernel
theorem dL_law_173 : decode cL_law 173 = .ok (.iaload, 1) := by decide +kernel
theorem dL_law_174 : decode cL_law 174 = .ok (.aload_n 0, 1) := by decide +kernel
theorem dL_law_175 : decode cL_law 175 = .ok (.iload_n 3, 1) := by decide +kernel
theorem dL_law_176 : decode cL_law 176 = .ok (.iconst 2, 1) := by decide +kernel
theorem dL_law_177 : decode cL_law 177 = .ok (.iadd, 1) := by decide +kernel
theorem dL_law_178 : decode cL_law 178 = .ok (.iaload, 1) := by decide +kernel
theorem dL_law_179 : decode cL_law 179 = .ok (.aload_n 0, 1) := by decide +kernel
theorem dL_law_180 : decode cL_law 180 = .ok (.iload_n 3, 1) := by decide +kernel
theorem dL_law_181 : decode cL_law 181 = .ok (.iconst 3, 1) := by decide +kernel
theorem dL_law_182 : decode cL_law 182 = .ok (.iadd, 1) := by decide +kernel
theorem dL_law_183 : decode cL_law 183 = .ok (.iaload, 1) := by decide +kernel
theorem dL_law_184 : decode cL_law 184 = .ok (.aload_n 0, 1) := by decide +kernel
theorem dL_law_185 : decode cL_law 185 = .ok (.iload_n 3, 1) := by decide +kernel
theorem dL_law_186 : decode cL_law 186 = .ok (.iconst 4, 1) := by decide +kernel
theorem dL_law_187 : decode cL_law 187 = .ok (.iadd, 1) := by decide +kernel
theorem dL_law_188 : decode cL_law 188 = .ok (.iaload, 1) := by decide +kernel
theorem dL_law_189 : decode cL_law 189 = .ok (.invokevirtual 13, 3) := by decide +kernel
theorem dL_law_192 : decode cL_law 192 = .ok (.aload_n 2, 1) := by decide +kernel
theorem dL_law_193 : decode cL_law 193 = .ok (.aload_n 0, 1) := by decide +kernel
theorem dL_law_194 : decode cL_law 194 = .ok (.iload_n 3, 1) := by decide +kernel
theorem dL_law_195 : decode cL_law 195 = .ok (.iconst 1, 1) := by decide +kernel
theorem dL_law_196 : decode cL_law 196 = .ok (.iadd, 1) := by decide +kernel
theorem dL_law_197 : decode cL_law 197 = .ok (.iaload, 1) := by decide +kernel
theorem dL_law_198 : decode cL_law 198 = .ok (.aload_n 0, 1) := by decide +kernel
theorem dL_law_199 : decode cL_law 199 = .ok (.iload_n 3, 1) := by decide +kernel
theorem dL_law_200 : decode cL_law 200 = .ok (.iconst 2, 1) := by decide +kernel
theorem dL_law_201 : decode cL_law 201 = .ok (.iadd, 1) := by decide +kernel
theorem dL_law_202 : decode cL_law 202 = .ok (.iaload, 1) := by decide +kernel
theorem dL_law_203 : decode cL_law 203 = .ok (.aload_n 0, 1) := by decide +kernel
theorem dL_law_204 : decode cL_law 204 = .ok (.iload_n 3, 1) := by decide +kernel
theorem dL_law_205 : decode cL_law 205 = .ok (.iconst 3, 1) := by decide +kernel
theorem dL_law_206 : decode cL_law 206 = .ok (.iadd, 1) := by decide +kernel
theorem dL_law_207 : decode cL_law 207 = .ok (.iaload, 1) := by decide +kernel
theorem dL_law_208 : decode cL_law 208 = .ok (.aload_n 0, 1) := by decide +kernel
theorem dL_law_209 : decode cL_law 209 = .ok (.iload_n 3, 1) := by decide +kernel
theorem dL_law_210 : decode cL_law 210 = .ok (.iconst 4, 1) := by decide +kernel
theorem dL_law_211 : decode cL_law 211 = .ok (.iadd, 1) := by decide +kernel
theorem dL_law_212 : decode cL_law 212 = .ok (.iaload, 1) := by decide +kernel
theorem dL_law_213 : decode cL_law 213 = .ok (.invokevirtual 17, 3) := by decide +kernel
theorem dL_law_216 : decode cL_law 216 = .ok (.if_icmp .eq 1022, 3) := by decide +kernel
theorem dL_law_219 : decode cL_law 219 = .ok (.iconst 0, 1) := by decide +kernel
theorem dL_law_220 : decode cL_law 220 = .ok (.ireturn, 1) := by decide +kernel
theorem dL_law_221 : decode cL_law 221 = .ok (.aload_n 1, 1) := by decide +kernel
theorem dL_law_222 : decode cL_law 222 = .ok (.aload_n 0, 1) := by decide +kernel
theorem dL_law_223 : decode cL_law 223 = .ok (.iload_n 3, 1) := by decide +kernel
theorem dL_law_224 : decode cL_law 224 = .ok (.iconst 1, 1) := by decide +kernel
theorem dL_law_225 : decode cL_law 225 = .ok (.iadd, 1) := by decide +kernel
theorem dL_law_226 : decode cL_law 226 = .ok (.iaload, 1) := by decide +kernel
theorem dL_law_227 : decode cL_law 227 = .ok (.aload_n 0, 1) := by decide +kernel
theorem dL_law_228 : decode cL_law 228 = .ok (.iload_n 3, 1) := by decide +kernel
theorem dL_law_229 : decode cL_law 229 = .ok (.iconst 2, 1) := by decide +kernel
theorem dL_law_230 : decode cL_law 230 = .ok (.iadd, 1) := by decide +kernel
theorem dL_law_231 : decode cL_law 231 = .ok (.iaload, 1) := by decide +kernel
theorem dL_law_232 : decode cL_law 232 = .ok (.invokevirtual 18, 3) := by decide +kernel
theorem dL_law_235 : decode cL_law 235 = .ok (.aload_n 2, 1) := by decide +kernel
theorem dL_law_236 : decode cL_law 236 = .ok (.aload_n 0, 1) := by decide +kernel
theorem dL_law_237 : decode cL_law 237 = .ok (.iload_n 3, 1) := by decide +kernel
theorem dL_law_238 : decode cL_law 238 = .ok (.iconst 1, 1) := by decide +kernel
theorem dL_law_239 : decode cL_law 239 = .ok (.iadd, 1) := by decide +kernel
theorem dL_law_240 : decode cL_law 240 = .ok (.iaload, 1) := by decide +kernel
theorem dL_law_241 : decode cL_law 241 = .ok (.aload_n 0, 1) := by decide +kernel
theorem dL_law_242 : decode cL_law 242 = .ok (.iload_n 3, 1) := by decide +kernel
theorem dL_law_243 : decode cL_law 243 = .ok (.iconst 2, 1) := by decide +kernel
theorem dL_law_244 : decode cL_law 244 = .ok (.iadd, 1) := by decide +kernel
theorem dL_law_245 : decode cL_law 245 = .ok (.iaload, 1) := by decide +kernel
theorem dL_law_246 : decode cL_law 246 = .ok (.invokevirtual 22, 3) := by decide +kernel
theorem dL_law_249 : decode cL_law 249 = .ok (.if_icmp .eq 989, 3) := by decide +kernel
theorem dL_law_252 : decode cL_law 252 = .ok (.iconst 0, 1) := by decide +kernel
theorem dL_law_253 : decode cL_law 253 = .ok (.ireturn, 1) := by decide +kernel
theorem dL_law_254 : decode cL_law 254 = .ok (.aload_n 1, 1) := by decide +kernel
theorem dL_law_255 : decode cL_law 255 = .ok (.aload_n 0, 1) := by decide +kernel
theorem dL_law_256 : decode cL_law 256 = .ok (.iload_n 3, 1) := by decide +kernel
theorem dL_law_257 : decode cL_law 257 = .ok (.iconst 1, 1) := by decide +kernel
theorem dL_law_258 : decode cL_law 258 = .ok (.iadd, 1) := by decide +kernel
theorem dL_law_259 : decode cL_law 259 = .ok (.iaload, 1) := by decide +kernel
theorem dL_law_260 : decode cL_law 260 = .ok (.aload_n 0, 1) := by decide +kernel
theorem dL_law_261 : decode cL_law 261 = .ok (.iload_n 3, 1) := by decide +kernel
theorem dL_law_262 : decode cL_law 262 = .ok (.iconst 2, 1) := by decide +kernel
theorem dL_law_263 : decode cL_law 263 = .ok (.iadd, 1) := by decide +kernel
theorem dL_law_264 : decode cL_law 264 = .ok (.iaload, 1) := by decide +kernel
theorem dL_law_265 : decode cL_law 265 = .ok (.invokevirtual 23, 3) := by decide +kernel
theorem dL_law_268 : decode cL_law 268 = .ok (.aload_n 2, 1) := by decide +kernel
theorem dL_law_269 : decode cL_law 269 = .ok (.aload_n 0, 1) := by decide +kernel
theorem dL_law_270 : decode cL_law 270 = .ok (.iload_n 3, 1) := by decide +kernel
theorem dL_law_271 : decode cL_law 271 = .ok (.iconst 1, 1) := by decide +kernel
theorem dL_law_272 : decode cL_law 272 = .ok (.iadd, 1) := by decide +kernel
theorem dL_law_273 : decode cL_law 273 = .ok (.iaload, 1) := by decide +kernel
theorem dL_law_274 : decode cL_law 274 = .ok (.aload_n 0, 1) := by decide +kernel
theorem dL_law_275 : decode cL_law 275 = .ok (.iload_n 3, 1) := by decide +kernel
theorem dL_law_276 : decode cL_law 276 = .ok (.iconst 2, 1) := by decide +kernel
theorem dL_law_277 : decode cL_law 277 = .ok (.iadd, 1) := by decide +kernel
theorem dL_law_278 : decode cL_law 278 = .ok (.iaload, 1) := by decide +kernel
theorem dL_law_279 : decode cL_law 279 = .ok (.invokevirtual 26, 3) := by decide +kernel
theorem dL_law_282 : decode cL_law 282 = .ok (.if_icmp .eq 956, 3) := by decide +kernel
theorem dL_law_285 : decode cL_law 285 = .ok (.iconst 0, 1) := by decide +kernel
theorem dL_law_286 : decode cL_law 286 = .ok (.ireturn, 1) := by decide +kernel
theorem dL_law_287 : decode cL_law 287 = .ok (.aload_n 1, 1) := by decide +kernel
theorem dL_law_288 : decode cL_law 288 = .ok (.aload_n 0, 1) := by decide +kernel
theorem dL_law_289 : decode cL_law 289 = .ok (.iload_n 3, 1) := by decide +kernel
theorem dL_law_290 : decode cL_law 290 = .ok (.iconst 1, 1) := by decide +kernel
theorem dL_law_291 : decode cL_law 291 = .ok (.iadd, 1) := by decide +kernel
theorem dL_law_292 : decode cL_law 292 = .ok (.iaload, 1) := by decide +kernel
theorem dL_law_293 : decode cL_law 293 = .ok (.invokevirtual 27, 3) := by decide +kernel
theorem dL_law_296 : decode cL_law 296 = .ok (.aload_n 2, 1) := by decide +kernel
theorem dL_law_297 : decode cL_law 297 = .ok (.aload_n 0, 1) := by decide +kernel
theorem dL_law_298 : decode cL_law 298 = .ok (.iload_n 3, 1) := by decide +kernel
theorem dL_law_299 : decode cL_law 299 = .ok (.iconst 1, 1) := by decide +kernel
theorem dL_law_300 : decode cL_law 300 = .ok (.iadd, 1) := by decide +kernel
theorem dL_law_301 : decode cL_law 301 = .ok (.iaload, 1) := by decide +kernel
theorem dL_law_302 : decode cL_law 302 = .ok (.invokevirtual 31, 3) := by decide +kernel
theorem dL_law_305 : decode cL_law 305 = .ok (.if_icmp .eq 933, 3) := by decide +kernel
theorem dL_law_308 : decode cL_law 308 = .ok (.iconst 0, 1) := by decide +kernel
theorem dL_law_309 : decode cL_law 309 = .ok (.ireturn, 1) := by decide +kernel
theorem dL_law_310 : decode cL_law 310 = .ok (.aload_n 1, 1) := by decide +kernel
theorem dL_law_311 : decode cL_law 311 = .ok (.aload_n 0, 1) := by decide +kernel
theorem dL_law_312 : decode cL_law 312 = .ok (.iload_n 3, 1) := by decide +kernel
theorem dL_law_313 : decode cL_law 313 = .ok (.iconst 1, 1) := by decide +kernel
theorem dL_law_314 : decode cL_law 314 = .ok (.iadd, 1) := by decide +kernel
theorem dL_law_315 : decode cL_law 315 = .ok (.iaload, 1) := by decide +kernel
theorem dL_law_316 : decode cL_law 316 = .ok (.invokevirtual 32, 3) := by decide +kernel
theorem dL_law_319 : decode cL_law 319 = .ok (.aload_n 2, 1) := by decide +kernel
theorem dL_law_320 : decode cL_law 320 = .ok (.aload_n 0, 1) := by decide +kernel
theorem dL_law_321 : decode cL_law 321 = .ok (.iload_n 3, 1) := by decide +kernel
theorem dL_law_322 : decode cL_law 322 = .ok (.iconst 1, 1) := by decide +kernel
theorem dL_law_323 : decode cL_law 323 = .ok (.iadd, 1) := by decide +kernel
theorem dL_law_324 : decode cL_law 324 = .ok (.iaload, 1) := by decide +kernel
theorem dL_law_325 : decode cL_law 325 = .ok (.invokevirtual 35, 3) := by decide +kernel
theorem dL_law_328 : decode cL_law 328 = .ok (.if_icmp .eq 910, 3) := by decide +kernel
theorem dL_law_331 : decode cL_law 331 = .ok (.iconst 0, 1) := by decide +kernel
theorem dL_law_332 : decode cL_law 332 = .ok (.ireturn, 1) := by decide +kernel
theorem dL_law_333 : decode cL_law 333 = .ok (.aload_n 1, 1) := by decide +kernel
theorem dL_law_334 : decode cL_law 334 = .ok (.aload_n 0, 1) := by decide +kernel
theorem dL_law_335 : decode cL_law 335 = .ok (.iload_n 3, 1) := by decide +kernel
theorem dL_law_336 : decode cL_law 336 = .ok (.iconst 1, 1) := by decide +kernel
theorem dL_law_337 : decode cL_law 337 = .ok (.iadd, 1) := by decide +kernel
theorem dL_law_338 : decode cL_law 338 = .ok (.iaload, 1) := by decide +kernel
theorem dL_law_339 : decode cL_law 339 = .ok (.aload_n 0, 1) := by decide +kernel
theorem dL_law_340 : decode cL_law 340 = .ok (.iload_n 3, 1) := by decide +kernel
theorem dL_law_341 : decode cL_law 341 = .ok (.iconst 2, 1) := by decide +kernel
theorem dL_law_342 : decode cL_law 342 = .ok (.iadd, 1) := by decide +kernel
theorem dL_law_343 : decode cL_law 343 = .ok (.iaload, 1) := by decide +kernel
theorem dL_law_344 : decode cL_law 344 = .ok (.ifCond .eq 7, 3) := by decide +kernel
theorem dL_law_347 : decode cL_law 347 = .ok (.iconst 1, 1) := by decide +kernel
theorem dL_law_348 : decode cL_law 348 = .ok (.goto 4, 3) := by decide +kernel
theorem dL_law_351 : decode cL_law 351 = .ok (.iconst 0, 1) := by decide +kernel
theorem dL_law_352 : decode cL_law 352 = .ok (.invokevirtual 36, 3) := by decide +kernel
theorem dL_law_355 : decode cL_law 355 = .ok (.aload_n 2, 1) := by decide +kernel
theorem dL_law_356 : decode cL_law 356 = .ok (.aload_n 0, 1) := by decide +kernel
theorem dL_law_357 : decode cL_law 357 = .ok (.iload_n 3, 1) := by decide +kernel
theorem dL_law_358 : decode cL_law 358 = .ok (.iconst 1, 1) := by decide +kernel
theorem dL_law_359 : decode cL_law 359 = .ok (.iadd, 1) := by decide +kernel
theorem dL_law_360 : decode cL_law 360 = .ok (.iaload, 1) := by decide +kernel
theorem dL_law_361 : decode cL_law 361 = .ok (.aload_n 0, 1) := by decide +kernel
theorem dL_law_362 : decode cL_law 362 = .ok (.iload_n 3, 1) := by decide +kernel
theorem dL_law_363 : decode cL_law 363 = .ok (.iconst 2, 1) := by decide +kernel
theorem dL_law_364 : decode cL_law 364 = .ok (.iadd, 1) := by decide +kernel
theorem dL_law_365 : decode cL_law 365 = .ok (.iaload, 1) := by decide +kernel
theorem dL_law_366 : decode cL_law 366 = .ok (.ifCond .eq 7, 3) := by decide +kernel
theorem dL_law_369 : decode cL_law 369 = .ok (.iconst 1, 1) := by decide +kernel
theorem dL_law_370 : decode cL_law 370 = .ok (.goto 4, 3) := by decide +kernel
theorem dL_law_373 : decode cL_law 373 = .ok (.iconst 0, 1) := by decide +kernel
theorem dL_law_374 : decode cL_law 374 = .ok (.invokevirtual 40, 3) := by decide +kernel
theorem dL_law_377 : decode cL_law 377 = .ok (.if_icmp .eq 861, 3) := by decide +kernel
theorem dL_law_380 : decode cL_law 380 = .ok (.iconst 0, 1) := by decide +kernel
theorem dL_law_381 : decode cL_law 381 = .ok (.ireturn, 1) := by decide +kernel
theorem dL_law_382 : decode cL_law 382 = .ok (.aload_n 1, 1) := by decide +kernel
theorem dL_law_383 : decode cL_law 383 = .ok (.aload_n 0, 1) := by decide +kernel
theorem dL_law_384 : decode cL_law 384 = .ok (.iload_n 3, 1) := by decide +kernel
theorem dL_law_385 : decode cL_law 385 = .ok (.iconst 1, 1) := by decide +kernel
theorem dL_law_386 : decode cL_law 386 = .ok (.iadd, 1) := by decide +kernel
theorem dL_law_387 : decode cL_law 387 = .ok (.iaload, 1) := by decide +kernel
theorem dL_law_388 : decode cL_law 388 = .ok (.invokevirtual 41, 3) := by decide +kernel
theorem dL_law_391 : decode cL_law 391 = .ok (.aload_n 2, 1) := by decide +kernel
theorem dL_law_392 : decode cL_law 392 = .ok (.aload_n 0, 1) := by decide +kernel
theorem dL_law_393 : decode cL_law 393 = .ok (.iload_n 3, 1) := by decide +kernel
theorem dL_law_394 : decode cL_law 394 = .ok (.iconst 1, 1) := by decide +kernel
theorem dL_law_395 : decode cL_law 395 = .ok (.iadd, 1) := by decide +kernel
theorem dL_law_396 : decode cL_law 396 = .ok (.iaload, 1) := by decide +kernel
theorem dL_law_397 : decode cL_law 397 = .ok (.invokevirtual 44, 3) := by decide +kernel
theorem dL_law_400 : decode cL_law 400 = .ok (.if_icmp .eq 838, 3) := by decide +kernel
theorem dL_law_403 : decode cL_law 403 = .ok (.iconst 0, 1) := by decide +kernel
theorem dL_law_404 : decode cL_law 404 = .ok (.ireturn, 1) := by decide +kernel
theorem dL_law_405 : decode cL_law 405 = .ok (.aload_n 1, 1) := by decide +kernel
theorem dL_law_406 : decode cL_law 406 = .ok (.aload_n 0, 1) := by decide +kernel
theorem dL_law_407 : decode cL_law 407 = .ok (.iload_n 3, 1) := by decide +kernel
theorem dL_law_408 : decode cL_law 408 = .ok (.iconst 1, 1) := by decide +kernel
theorem dL_law_409 : decode cL_law 409 = .ok (.iadd, 1) := by decide +kernel
theorem dL_law_410 : decode cL_law 410 = .ok (.iaload, 1) := by decide +kernel
theorem dL_law_411 : decode cL_law 411 = .ok (.aload_n 0, 1) := by decide +kernel
theorem dL_law_412 : decode cL_law 412 = .ok (.iload_n 3, 1) := by decide +kernel
theorem dL_law_413 : decode cL_law 413 = .ok (.iconst 2, 1) := by decide +kernel
theorem dL_law_414 : decode cL_law 414 = .ok (.iadd, 1) := by decide +kernel
theorem dL_law_415 : decode cL_law 415 = .ok (.iaload, 1) := by decide +kernel
theorem dL_law_416 : decode cL_law 416 = .ok (.aload_n 0, 1) := by decide +kernel
theorem dL_law_417 : decode cL_law 417 = .ok (.iload_n 3, 1) := by decide +kernel
theorem dL_law_418 : decode cL_law 418 = .ok (.iconst 3, 1) := by decide +kernel
theorem dL_law_419 : decode cL_law 419 = .ok (.iadd, 1) := by decide +kernel
theorem dL_law_420 : decode cL_law 420 = .ok (.iaload, 1) := by decide +kernel
theorem dL_law_421 : decode cL_law 421 = .ok (.aload_n 0, 1) := by decide +kernel
theorem dL_law_422 : decode cL_law 422 = .ok (.iload_n 3, 1) := by decide +kernel
theorem dL_law_423 : decode cL_law 423 = .ok (.iconst 4, 1) := by decide +kernel
theorem dL_law_424 : decode cL_law 424 = .ok (.iadd, 1) := by decide +kernel
theorem dL_law_425 : decode cL_law 425 = .ok (.iaload, 1) := by decide +kernel
theorem dL_law_426 : decode cL_law 426 = .ok (.aload_n 0, 1) := by decide +kernel
theorem dL_law_427 : decode cL_law 427 = .ok (.iload_n 3, 1) := by decide +kernel
theorem dL_law_428 : decode cL_law 428 = .ok (.iconst 5, 1) := by decide +kernel
theorem dL_law_429 : decode cL_law 429 = .ok (.iadd, 1) := by decide +kernel
theorem dL_law_430 : decode cL_law 430 = .ok (.iaload, 1) := by decide +kernel
theorem dL_law_431 : decode cL_law 431 = .ok (.invokevirtual 45, 3) := by decide +kernel
theorem dL_law_434 : decode cL_law 434 = .ok (.aload_n 2, 1) := by decide +kernel
theorem dL_law_435 : decode cL_law 435 = .ok (.aload_n 0, 1) := by decide +kernel
theorem dL_law_436 : decode cL_law 436 = .ok (.iload_n 3, 1) := by decide +kernel
theorem dL_law_437 : decode cL_law 437 = .ok (.iconst 1, 1) := by decide +kernel
theorem dL_law_438 : decode cL_law 438 = .ok (.iadd, 1) := by decide +kernel
theorem dL_law_439 : decode cL_law 439 = .ok (.iaload, 1) := by decide +kernel
theorem dL_law_440 : decode cL_law 440 = .ok (.aload_n 0, 1) := by decide +kernel
theorem dL_law_441 : decode cL_law 441 = .ok (.iload_n 3, 1) := by decide +kernel
theorem dL_law_442 : decode cL_law 442 = .ok (.iconst 2, 1) := by decide +kernel
theorem dL_law_443 : decode cL_law 443 = .ok (.iadd, 1) := by decide +kernel
theorem dL_law_444 : decode cL_law 444 = .ok (.iaload, 1) := by decide +kernel
theorem dL_law_445 : decode cL_law 445 = .ok (.aload_n 0, 1) := by decide +kernel
theorem dL_law_446 : decode cL_law 446 = .ok (.iload_n 3, 1) := by decide +kernel
theorem dL_law_447 : decode cL_law 447 = .ok (.iconst 3, 1) := by decide +kernel
theorem dL_law_448 : decode cL_law 448 = .ok (.iadd, 1) := by decide +kernel
theorem dL_law_449 : decode cL_law 449 = .ok (.iaload, 1) := by decide +kernel
theorem dL_law_450 : decode cL_law 450 = .ok (.aload_n 0, 1) := by decide +kernel
theorem dL_law_451 : decode cL_law 451 = .ok (.iload_n 3, 1) := by decide +kernel
theorem dL_law_452 : decode cL_law 452 = .ok (.iconst 4, 1) := by decide +kernel
theorem dL_law_453 : decode cL_law 453 = .ok (.iadd, 1) := by decide +kernel
theorem dL_law_454 : decode cL_law 454 = .ok (.iaload, 1) := by decide +kernel
theorem dL_law_455 : decode cL_law 455 = .ok (.aload_n 0, 1) := by decide +kernel
theorem dL_law_456 : decode cL_law 456 = .ok (.iload_n 3, 1) := by decide +kernel
theorem dL_law_457 : decode cL_law 457 = .ok (.iconst 5, 1) := by decide +kernel
theorem dL_law_458 : decode cL_law 458 = .ok (.iadd, 1) := by decide +kernel
theorem dL_law_459 : decode cL_law 459 = .ok (.iaload, 1) := by decide +kernel
theorem dL_law_460 : decode cL_law 460 = .ok (.invokevirtual 49, 3) := by decide +kernel
theorem dL_law_463 : decode cL_law 463 = .ok (.if_icmp .eq 775, 3) := by decide +kernel
theorem dL_law_466 : decode cL_law 466 = .ok (.iconst 0, 1) := by decide +kernel
theorem dL_law_467 : decode cL_law 467 = .ok (.ireturn, 1) := by decide +kernel
theorem dL_law_468 : decode cL_law 468 = .ok (.aload_n 1, 1) := by decide +kernel
theorem dL_law_469 : decode cL_law 469 = .ok (.aload_n 0, 1) := by decide +kernel
theorem dL_law_470 : decode cL_law 470 = .ok (.iload_n 3, 1) := by decide +kernel
theorem dL_law_471 : decode cL_law 471 = .ok (.iconst 1, 1) := by decide +kernel
theorem dL_law_472 : decode cL_law 472 = .ok (.iadd, 1) := by decide +kernel
theorem dL_law_473 : decode cL_law 473 = .ok (.iaload, 1) := by decide +kernel
theorem dL_law_474 : decode cL_law 474 = .ok (.aload_n 0, 1) := by decide +kernel
theorem dL_law_475 : decode cL_law 475 = .ok (.iload_n 3, 1) := by decide +kernel
theorem dL_law_476 : decode cL_law 476 = .ok (.iconst 2, 1) := by decide +kernel
theorem dL_law_477 : decode cL_law 477 = .ok (.iadd, 1) := by decide +kernel
theorem dL_law_478 : decode cL_law 478 = .ok (.iaload, 1) := by decide +kernel
theorem dL_law_479 : decode cL_law 479 = .ok (.aload_n 0, 1) := by decide +kernel
theorem dL_law_480 : decode cL_law 480 = .ok (.iload_n 3, 1) := by decide +kernel
theorem dL_law_481 : decode cL_law 481 = .ok (.iconst 3, 1) := by decide +kernel
theorem dL_law_482 : decode cL_law 482 = .ok (.iadd, 1) := by decide +kernel
theorem dL_law_483 : decode cL_law 483 = .ok (.iaload, 1) := by decide +kernel
theorem dL_law_484 : decode cL_law 484 = .ok (.aload_n 0, 1) := by decide +kernel
theorem dL_law_485 : decode cL_law 485 = .ok (.iload_n 3, 1) := by decide +kernel
theorem dL_law_486 : decode cL_law 486 = .ok (.iconst 4, 1) := by decide +kernel
theorem dL_law_487 : decode cL_law 487 = .ok (.iadd, 1) := by decide +kernel
theorem dL_law_488 : decode cL_law 488 = .ok (.iaload, 1) := by decide +kernel
theorem dL_law_489 : decode cL_law 489 = .ok (.aload_n 0, 1) := by decide +kernel
theorem dL_law_490 : decode cL_law 490 = .ok (.iload_n 3, 1) := by decide +kernel
theorem dL_law_491 : decode cL_law 491 = .ok (.iconst 5, 1) := by decide +kernel
theorem dL_law_492 : decode cL_law 492 = .ok (.iadd, 1) := by decide +kernel
theorem dL_law_493 : decode cL_law 493 = .ok (.iaload, 1) := by decide +kernel
theorem dL_law_494 : decode cL_law 494 = .ok (.aload_n 0, 1) := by decide +kernel
theorem dL_law_495 : decode cL_law 495 = .ok (.iload_n 3, 1) := by decide +kernel
theorem dL_law_496 : decode cL_law 496 = .ok (.bipush 6, 2) := by decide +kernel
theorem dL_law_498 : decode cL_law 498 = .ok (.iadd, 1) := by decide +kernel
theorem dL_law_499 : decode cL_law 499 = .ok (.iaload, 1) := by decide +kernel
theorem dL_law_500 : decode cL_law 500 = .ok (.invokevirtual 50, 3) := by decide +kernel
theorem dL_law_503 : decode cL_law 503 = .ok (.aload_n 2, 1) := by decide +kernel
theorem dL_law_504 : decode cL_law 504 = .ok (.aload_n 0, 1) := by decide +kernel
theorem dL_law_505 : decode cL_law 505 = .ok (.iload_n 3, 1) := by decide +kernel
theorem dL_law_506 : decode cL_law 506 = .ok (.iconst 1, 1) := by decide +kernel
theorem dL_law_507 : decode cL_law 507 = .ok (.iadd, 1) := by decide +kernel
theorem dL_law_508 : decode cL_law 508 = .ok (.iaload, 1) := by decide +kernel
theorem dL_law_509 : decode cL_law 509 = .ok (.aload_n 0, 1) := by decide +kernel
theorem dL_law_510 : decode cL_law 510 = .ok (.iload_n 3, 1) := by decide +kernel
theorem dL_law_511 : decode cL_law 511 = .ok (.iconst 2, 1) := by decide +kernel
theorem dL_law_512 : decode cL_law 512 = .ok (.iadd, 1) := by decide +kernel
theorem dL_law_513 : decode cL_law 513 = .ok (.iaload, 1) := by decide +kernel
theorem dL_law_514 : decode cL_law 514 = .ok (.aload_n 0, 1) := by decide +kernel
theorem dL_law_515 : decode cL_law 515 = .ok (.iload_n 3, 1) := by decide +kernel
theorem dL_law_516 : decode cL_law 516 = .ok (.iconst 3, 1) := by decide +kernel
theorem dL_law_517 : decode cL_law 517 = .ok (.iadd, 1) := by decide +kernel
theorem dL_law_518 : decode cL_law 518 = .ok (.iaload, 1) := by decide +kernel
theorem dL_law_519 : decode cL_law 519 = .ok (.aload_n 0, 1) := by decide +kernel
theorem dL_law_520 : decode cL_law 520 = .ok (.iload_n 3, 1) := by decide +kernel
theorem dL_law_521 : decode cL_law 521 = .ok (.iconst 4, 1) := by decide +kernel
theorem dL_law_522 : decode cL_law 522 = .ok (.iadd, 1) := by decide +kernel
theorem dL_law_523 : decode cL_law 523 = .ok (.iaload, 1) := by decide +kernel
theorem dL_law_524 : decode cL_law 524 = .ok (.aload_n 0, 1) := by decide +kernel
theorem dL_law_525 : decode cL_law 525 = .ok (.iload_n 3, 1) := by decide +kernel
theorem dL_law_526 : decode cL_law 526 = .ok (.iconst 5, 1) := by decide +kernel
theorem dL_law_527 : decode cL_law 527 = .ok (.iadd, 1) := by decide +kernel
theorem dL_law_528 : decode cL_law 528 = .ok (.iaload, 1) := by decide +kernel
theorem dL_law_529 : decode cL_law 529 = .ok (.aload_n 0, 1) := by decide +kernel
theorem dL_law_530 : decode cL_law 530 = .ok (.iload_n 3, 1) := by decide +kernel
theorem dL_law_531 : decode cL_law 531 = .ok (.bipush 6, 2) := by decide +kernel
theorem dL_law_533 : decode cL_law 533 = .ok (.iadd, 1) := by decide +kernel
theorem dL_law_534 : decode cL_law 534 = .ok (.iaload, 1) := by decide +kernel
theorem dL_law_535 : decode cL_law 535 = .ok (.invokevirtual 54, 3) := by decide +kernel
theorem dL_law_538 : decode cL_law 538 = .ok (.if_icmp .eq 700, 3) := by decide +kernel
theorem dL_law_541 : decode cL_law 541 = .ok (.iconst 0, 1) := by decide +kernel
theorem dL_law_542 : decode cL_law 542 = .ok (.ireturn, 1) := by decide +kernel
theorem dL_law_543 : decode cL_law 543 = .ok (.aload_n 1, 1) := by decide +kernel
theorem dL_law_544 : decode cL_law 544 = .ok (.aload_n 0, 1) := by decide +kernel
theorem dL_law_545 : decode cL_law 545 = .ok (.iload_n 3, 1) := by decide +kernel
theorem dL_law_546 : decode cL_law 546 = .ok (.iconst 1, 1) := by decide +kernel
theorem dL_law_547 : decode cL_law 547 = .ok (.iadd, 1) := by decide +kernel
theorem dL_law_548 : decode cL_law 548 = .ok (.iaload, 1) := by decide +kernel
theorem dL_law_549 : decode cL_law 549 = .ok (.aload_n 0, 1) := by decide +kernel
theorem dL_law_550 : decode cL_law 550 = .ok (.iload_n 3, 1) := by decide +kernel
theorem dL_law_551 : decode cL_law 551 = .ok (.iconst 2, 1) := by decide +kernel
theorem dL_law_552 : decode cL_law 552 = .ok (.iadd, 1) := by decide +kernel
theorem dL_law_553 : decode cL_law 553 = .ok (.iaload, 1) := by decide +kernel
theorem dL_law_554 : decode cL_law 554 = .ok (.aload_n 0, 1) := by decide +kernel
theorem dL_law_555 : decode cL_law 555 = .ok (.iload_n 3, 1) := by decide +kernel
theorem dL_law_556 : decode cL_law 556 = .ok (.iconst 3, 1) := by decide +kernel
theorem dL_law_557 : decode cL_law 557 = .ok (.iadd, 1) := by decide +kernel
theorem dL_law_558 : decode cL_law 558 = .ok (.iaload, 1) := by decide +kernel
theorem dL_law_559 : decode cL_law 559 = .ok (.aload_n 0, 1) := by decide +kernel
theorem dL_law_560 : decode cL_law 560 = .ok (.iload_n 3, 1) := by decide +kernel
theorem dL_law_561 : decode cL_law 561 = .ok (.iconst 4, 1) := by decide +kernel
theorem dL_law_562 : decode cL_law 562 = .ok (.iadd, 1) := by decide +kernel
theorem dL_law_563 : decode cL_law 563 = .ok (.iaload, 1) := by decide +kernel
theorem dL_law_564 : decode cL_law 564 = .ok (.aload_n 0, 1) := by decide +kernel
theorem dL_law_565 : decode cL_law 565 = .ok (.iload_n 3, 1) := by decide +kernel
theorem dL_law_566 : decode cL_law 566 = .ok (.iconst 5, 1) := by decide +kernel
theorem dL_law_567 : decode cL_law 567 = .ok (.iadd, 1) := by decide +kernel
theorem dL_law_568 : decode cL_law 568 = .ok (.iaload, 1) := by decide +kernel
theorem dL_law_569 : decode cL_law 569 = .ok (.invokevirtual 55, 3) := by decide +kernel
theorem dL_law_572 : decode cL_law 572 = .ok (.aload_n 2, 1) := by decide +kernel
theorem dL_law_573 : decode cL_law 573 = .ok (.aload_n 0, 1) := by decide +kernel
theorem dL_law_574 : decode cL_law 574 = .ok (.iload_n 3, 1) := by decide +kernel
theorem dL_law_575 : decode cL_law 575 = .ok (.iconst 1, 1) := by decide +kernel
theorem dL_law_576 : decode cL_law 576 = .ok (.iadd, 1) := by decide +kernel
theorem dL_law_577 : decode cL_law 577 = .ok (.iaload, 1) := by decide +kernel
theorem dL_law_578 : decode cL_law 578 = .ok (.aload_n 0, 1) := by decide +kernel
theorem dL_law_579 : decode cL_law 579 = .ok (.iload_n 3, 1) := by decide +kernel
theorem dL_law_580 : decode cL_law 580 = .ok (.iconst 2, 1) := by decide +kernel
theorem dL_law_581 : decode cL_law 581 = .ok (.iadd, 1) := by decide +kernel
theorem dL_law_582 : decode cL_law 582 = .ok (.iaload, 1) := by decide +kernel
theorem dL_law_583 : decode cL_law 583 = .ok (.aload_n 0, 1) := by decide +kernel
theorem dL_law_584 : decode cL_law 584 = .ok (.iload_n 3, 1) := by decide +kernel
theorem dL_law_585 : decode cL_law 585 = .ok (.iconst 3, 1) := by decide +kernel
theorem dL_law_586 : decode cL_law 586 = .ok (.iadd, 1) := by decide +kernel
theorem dL_law_587 : decode cL_law 587 = .ok (.iaload, 1) := by decide +kernel
theorem dL_law_588 : decode cL_law 588 = .ok (.aload_n 0, 1) := by decide +kernel
theorem dL_law_589 : decode cL_law 589 = .ok (.iload_n 3, 1) := by decide +kernel
theorem dL_law_590 : decode cL_law 590 = .ok (.iconst 4, 1) := by decide +kernel
theorem dL_law_591 : decode cL_law 591 = .ok (.iadd, 1) := by decide +kernel
theorem dL_law_592 : decode cL_law 592 = .ok (.iaload, 1) := by decide +kernel
theorem dL_law_593 : decode cL_law 593 = .ok (.aload_n 0, 1) := by decide +kernel
theorem dL_law_594 : decode cL_law 594 = .ok (.iload_n 3, 1) := by decide +kernel
theorem dL_law_595 : decode cL_law 595 = .ok (.iconst 5, 1) := by decide +kernel
theorem dL_law_596 : decode cL_law 596 = .ok (.iadd, 1) := by decide +kernel
theorem dL_law_597 : decode cL_law 597 = .ok (.iaload, 1) := by decide +kernel
theorem dL_law_598 : decode cL_law 598 = .ok (.invokevirtual 59, 3) := by decide +kernel
theorem dL_law_601 : decode cL_law 601 = .ok (.lcmp, 1) := by decide +kernel
theorem dL_law_602 : decode cL_law 602 = .ok (.ifCond .eq 636, 3) := by decide +kernel
theorem dL_law_605 : decode cL_law 605 = .ok (.iconst 0, 1) := by decide +kernel
theorem dL_law_606 : decode cL_law 606 = .ok (.ireturn, 1) := by decide +kernel
theorem dL_law_607 : decode cL_law 607 = .ok (.aload_n 1, 1) := by decide +kernel
theorem dL_law_608 : decode cL_law 608 = .ok (.invokevirtual 60, 3) := by decide +kernel
theorem dL_law_611 : decode cL_law 611 = .ok (.aload_n 2, 1) := by decide +kernel
theorem dL_law_612 : decode cL_law 612 = .ok (.invokevirtual 64, 3) := by decide +kernel
theorem dL_law_615 : decode cL_law 615 = .ok (.if_icmp .eq 623, 3) := by decide +kernel
theorem dL_law_618 : decode cL_law 618 = .ok (.iconst 0, 1) := by decide +kernel
theorem dL_law_619 : decode cL_law 619 = .ok (.ireturn, 1) := by decide +kernel
theorem dL_law_620 : decode cL_law 620 = .ok (.aload_n 1, 1) := by decide +kernel
theorem dL_law_621 : decode cL_law 621 = .ok (.aload_n 0, 1) := by decide +kernel
theorem dL_law_622 : decode cL_law 622 = .ok (.iload_n 3, 1) := by decide +kernel
theorem dL_law_623 : decode cL_law 623 = .ok (.iconst 1, 1) := by decide +kernel
theorem dL_law_624 : decode cL_law 624 = .ok (.iadd, 1) := by decide +kernel
theorem dL_law_625 : decode cL_law 625 = .ok (.iaload, 1) := by decide +kernel
theorem dL_law_626 : decode cL_law 626 = .ok (.aload_n 0, 1) := by decide +kernel
theorem dL_law_627 : decode cL_law 627 = .ok (.iload_n 3, 1) := by decide +kernel
theorem dL_law_628 : decode cL_law 628 = .ok (.iconst 2, 1) := by decide +kernel
theorem dL_law_629 : decode cL_law 629 = .ok (.iadd, 1) := by decide +kernel
theorem dL_law_630 : decode cL_law 630 = .ok (.iaload, 1) := by decide +kernel
theorem dL_law_631 : decode cL_law 631 = .ok (.invokevirtual 65, 3) := by decide +kernel
theorem dL_law_634 : decode cL_law 634 = .ok (.aload_n 2, 1) := by decide +kernel
theorem dL_law_635 : decode cL_law 635 = .ok (.aload_n 0, 1) := by decide +kernel
theorem dL_law_636 : decode cL_law 636 = .ok (.iload_n 3, 1) := by decide +kernel
theorem dL_law_637 : decode cL_law 637 = .ok (.iconst 1, 1) := by decide +kernel
theorem dL_law_638 : decode cL_law 638 = .ok (.iadd, 1) := by decide +kernel
theorem dL_law_639 : decode cL_law 639 = .ok (.iaload, 1) := by decide +kernel
theorem dL_law_640 : decode cL_law 640 = .ok (.aload_n 0, 1) := by decide +kernel
theorem dL_law_641 : decode cL_law 641 = .ok (.iload_n 3, 1) := by decide +kernel
theorem dL_law_642 : decode cL_law 642 = .ok (.iconst 2, 1) := by decide +kernel
theorem dL_law_643 : decode cL_law 643 = .ok (.iadd, 1) := by decide +kernel
theorem dL_law_644 : decode cL_law 644 = .ok (.iaload, 1) := by decide +kernel
theorem dL_law_645 : decode cL_law 645 = .ok (.invokevirtual 68, 3) := by decide +kernel
theorem dL_law_648 : decode cL_law 648 = .ok (.if_icmp .eq 590, 3) := by decide +kernel
theorem dL_law_651 : decode cL_law 651 = .ok (.iconst 0, 1) := by decide +kernel
theorem dL_law_652 : decode cL_law 652 = .ok (.ireturn, 1) := by decide +kernel
theorem dL_law_653 : decode cL_law 653 = .ok (.aload_n 1, 1) := by decide +kernel
theorem dL_law_654 : decode cL_law 654 = .ok (.invokevirtual 69, 3) := by decide +kernel
theorem dL_law_657 : decode cL_law 657 = .ok (.aload_n 2, 1) := by decide +kernel
theorem dL_law_658 : decode cL_law 658 = .ok (.invokevirtual 72, 3) := by decide +kernel
theorem dL_law_661 : decode cL_law 661 = .ok (.if_icmp .eq 577, 3) := by decide +kernel
theorem dL_law_664 : decode cL_law 664 = .ok (.iconst 0, 1) := by decide +kernel
theorem dL_law_665 : decode cL_law 665 = .ok (.ireturn, 1) := by decide +kernel
theorem dL_law_666 : decode cL_law 666 = .ok (.aload_n 1, 1) := by decide +kernel
theorem dL_law_667 : decode cL_law 667 = .ok (.aload_n 0, 1) := by decide +kernel
theorem dL_law_668 : decode cL_law 668 = .ok (.iload_n 3, 1) := by decide +kernel
theorem dL_law_669 : decode cL_law 669 = .ok (.iconst 1, 1) := by decide +kernel
theorem dL_law_670 : decode cL_law 670 = .ok (.iadd, 1) := by decide +kernel
theorem dL_law_671 : decode cL_law 671 = .ok (.iaload, 1) := by decide +kernel
theorem dL_law_672 : decode cL_law 672 = .ok (.invokevirtual 73, 3) := by decide +kernel
theorem dL_law_675 : decode cL_law 675 = .ok (.aload_n 2, 1) := by decide +kernel
theorem dL_law_676 : decode cL_law 676 = .ok (.aload_n 0, 1) := by decide +kernel
theorem dL_law_677 : decode cL_law 677 = .ok (.iload_n 3, 1) := by decide +kernel
theorem dL_law_678 : decode cL_law 678 = .ok (.iconst 1, 1) := by decide +kernel
theorem dL_law_679 : decode cL_law 679 = .ok (.iadd, 1) := by decide +kernel
theorem dL_law_680 : decode cL_law 680 = .ok (.iaload, 1) := by decide +kernel
theorem dL_law_681 : decode cL_law 681 = .ok (.invokevirtual 76, 3) := by decide +kernel
theorem dL_law_684 : decode cL_law 684 = .ok (.if_icmp .eq 554, 3) := by decide +kernel
theorem dL_law_687 : decode cL_law 687 = .ok (.iconst 0, 1) := by decide +kernel
theorem dL_law_688 : decode cL_law 688 = .ok (.ireturn, 1) := by decide +kernel
theorem dL_law_689 : decode cL_law 689 = .ok (.aload_n 1, 1) := by decide +kernel
theorem dL_law_690 : decode cL_law 690 = .ok (.aload_n 0, 1) := by decide +kernel
theorem dL_law_691 : decode cL_law 691 = .ok (.iload_n 3, 1) := by decide +kernel
theorem dL_law_692 : decode cL_law 692 = .ok (.iconst 1, 1) := by decide +kernel
theorem dL_law_693 : decode cL_law 693 = .ok (.iadd, 1) := by decide +kernel
theorem dL_law_694 : decode cL_law 694 = .ok (.iaload, 1) := by decide +kernel
theorem dL_law_695 : decode cL_law 695 = .ok (.invokevirtual 77, 3) := by decide +kernel
theorem dL_law_698 : decode cL_law 698 = .ok (.aload_n 2, 1) := by decide +kernel
theorem dL_law_699 : decode cL_law 699 = .ok (.aload_n 0, 1) := by decide +kernel
theorem dL_law_700 : decode cL_law 700 = .ok (.iload_n 3, 1) := by decide +kernel
theorem dL_law_701 : decode cL_law 701 = .ok (.iconst 1, 1) := by decide +kernel
theorem dL_law_702 : decode cL_law 702 = .ok (.iadd, 1) := by decide +kernel
theorem dL_law_703 : decode cL_law 703 = .ok (.iaload, 1) := by decide +kernel
theorem dL_law_704 : decode cL_law 704 = .ok (.invokevirtual 80, 3) := by decide +kernel
theorem dL_law_707 : decode cL_law 707 = .ok (.if_icmp .eq 531, 3) := by decide +kernel
theorem dL_law_710 : decode cL_law 710 = .ok (.iconst 0, 1) := by decide +kernel
theorem dL_law_711 : decode cL_law 711 = .ok (.ireturn, 1) := by decide +kernel
theorem dL_law_712 : decode cL_law 712 = .ok (.aload_n 1, 1) := by decide +kernel
theorem dL_law_713 : decode cL_law 713 = .ok (.aload_n 0, 1) := by decide +kernel
theorem dL_law_714 : decode cL_law 714 = .ok (.iload_n 3, 1) := by decide +kernel
theorem dL_law_715 : decode cL_law 715 = .ok (.iconst 1, 1) := by decide +kernel
theorem dL_law_716 : decode cL_law 716 = .ok (.iadd, 1) := by decide +kernel
theorem dL_law_717 : decode cL_law 717 = .ok (.iaload, 1) := by decide +kernel
theorem dL_law_718 : decode cL_law 718 = .ok (.aload_n 0, 1) := by decide +kernel
theorem dL_law_719 : decode cL_law 719 = .ok (.iload_n 3, 1) := by decide +kernel
theorem dL_law_720 : decode cL_law 720 = .ok (.iconst 2, 1) := by decide +kernel
theorem dL_law_721 : decode cL_law 721 = .ok (.iadd, 1) := by decide +kernel
theorem dL_law_722 : decode cL_law 722 = .ok (.iaload, 1) := by decide +kernel
theorem dL_law_723 : decode cL_law 723 = .ok (.aload_n 0, 1) := by decide +kernel
theorem dL_law_724 : decode cL_law 724 = .ok (.iload_n 3, 1) := by decide +kernel
theorem dL_law_725 : decode cL_law 725 = .ok (.iconst 3, 1) := by decide +kernel
theorem dL_law_726 : decode cL_law 726 = .ok (.iadd, 1) := by decide +kernel
theorem dL_law_727 : decode cL_law 727 = .ok (.iaload, 1) := by decide +kernel
theorem dL_law_728 : decode cL_law 728 = .ok (.invokevirtual 81, 3) := by decide +kernel
theorem dL_law_731 : decode cL_law 731 = .ok (.aload_n 2, 1) := by decide +kernel
theorem dL_law_732 : decode cL_law 732 = .ok (.aload_n 0, 1) := by decide +kernel
theorem dL_law_733 : decode cL_law 733 = .ok (.iload_n 3, 1) := by decide +kernel
theorem dL_law_734 : decode cL_law 734 = .ok (.iconst 1, 1) := by decide +kernel
theorem dL_law_735 : decode cL_law 735 = .ok (.iadd, 1) := by decide +kernel
theorem dL_law_736 : decode cL_law 736 = .ok (.iaload, 1) := by decide +kernel
theorem dL_law_737 : decode cL_law 737 = .ok (.aload_n 0, 1) := by decide +kernel
theorem dL_law_738 : decode cL_law 738 = .ok (.iload_n 3, 1) := by decide +kernel
theorem dL_law_739 : decode cL_law 739 = .ok (.iconst 2, 1) := by decide +kernel
theorem dL_law_740 : decode cL_law 740 = .ok (.iadd, 1) := by decide +kernel
theorem dL_law_741 : decode cL_law 741 = .ok (.iaload, 1) := by decide +kernel
theorem dL_law_742 : decode cL_law 742 = .ok (.aload_n 0, 1) := by decide +kernel
theorem dL_law_743 : decode cL_law 743 = .ok (.iload_n 3, 1) := by decide +kernel
theorem dL_law_744 : decode cL_law 744 = .ok (.iconst 3, 1) := by decide +kernel
theorem dL_law_745 : decode cL_law 745 = .ok (.iadd, 1) := by decide +kernel
theorem dL_law_746 : decode cL_law 746 = .ok (.iaload, 1) := by decide +kernel
theorem dL_law_747 : decode cL_law 747 = .ok (.invokevirtual 85, 3) := by decide +kernel
theorem dL_law_750 : decode cL_law 750 = .ok (.if_icmp .eq 488, 3) := by decide +kernel
theorem dL_law_753 : decode cL_law 753 = .ok (.iconst 0, 1) := by decide +kernel
theorem dL_law_754 : decode cL_law 754 = .ok (.ireturn, 1) := by decide +kernel
theorem dL_law_755 : decode cL_law 755 = .ok (.aload_n 1, 1) := by decide +kernel
theorem dL_law_756 : decode cL_law 756 = .ok (.aload_n 0, 1) := by decide +kernel
theorem dL_law_757 : decode cL_law 757 = .ok (.iload_n 3, 1) := by decide +kernel
theorem dL_law_758 : decode cL_law 758 = .ok (.iconst 1, 1) := by decide +kernel
theorem dL_law_759 : decode cL_law 759 = .ok (.iadd, 1) := by decide +kernel
theorem dL_law_760 : decode cL_law 760 = .ok (.iaload, 1) := by decide +kernel
theorem dL_law_761 : decode cL_law 761 = .ok (.invokevirtual 86, 3) := by decide +kernel
theorem dL_law_764 : decode cL_law 764 = .ok (.aload_n 2, 1) := by decide +kernel
theorem dL_law_765 : decode cL_law 765 = .ok (.aload_n 0, 1) := by decide +kernel
theorem dL_law_766 : decode cL_law 766 = .ok (.iload_n 3, 1) := by decide +kernel
theorem dL_law_767 : decode cL_law 767 = .ok (.iconst 1, 1) := by decide +kernel
theorem dL_law_768 : decode cL_law 768 = .ok (.iadd, 1) := by decide +kernel
theorem dL_law_769 : decode cL_law 769 = .ok (.iaload, 1) := by decide +kernel
theorem dL_law_770 : decode cL_law 770 = .ok (.invokevirtual 89, 3) := by decide +kernel
theorem dL_law_773 : decode cL_law 773 = .ok (.if_icmp .eq 465, 3) := by decide +kernel
theorem dL_law_776 : decode cL_law 776 = .ok (.iconst 0, 1) := by decide +kernel
theorem dL_law_777 : decode cL_law 777 = .ok (.ireturn, 1) := by decide +kernel
theorem dL_law_778 : decode cL_law 778 = .ok (.aload_n 1, 1) := by decide +kernel
theorem dL_law_779 : decode cL_law 779 = .ok (.aload_n 0, 1) := by decide +kernel
theorem dL_law_780 : decode cL_law 780 = .ok (.iload_n 3, 1) := by decide +kernel
theorem dL_law_781 : decode cL_law 781 = .ok (.iconst 1, 1) := by decide +kernel
theorem dL_law_782 : decode cL_law 782 = .ok (.iadd, 1) := by decide +kernel
theorem dL_law_783 : decode cL_law 783 = .ok (.iaload, 1) := by decide +kernel
theorem dL_law_784 : decode cL_law 784 = .ok (.aload_n 0, 1) := by decide +kernel
theorem dL_law_785 : decode cL_law 785 = .ok (.iload_n 3, 1) := by decide +kernel
theorem dL_law_786 : decode cL_law 786 = .ok (.iconst 2, 1) := by decide +kernel
theorem dL_law_787 : decode cL_law 787 = .ok (.iadd, 1) := by decide +kernel
theorem dL_law_788 : decode cL_law 788 = .ok (.iaload, 1) := by decide +kernel
theorem dL_law_789 : decode cL_law 789 = .ok (.aload_n 0, 1) := by decide +kernel
theorem dL_law_790 : decode cL_law 790 = .ok (.iload_n 3, 1) := by decide +kernel
theorem dL_law_791 : decode cL_law 791 = .ok (.iconst 3, 1) := by decide +kernel
theorem dL_law_792 : decode cL_law 792 = .ok (.iadd, 1) := by decide +kernel
theorem dL_law_793 : decode cL_law 793 = .ok (.iaload, 1) := by decide +kernel
theorem dL_law_794 : decode cL_law 794 = .ok (.aload_n 0, 1) := by decide +kernel
theorem dL_law_795 : decode cL_law 795 = .ok (.iload_n 3, 1) := by decide +kernel
theorem dL_law_796 : decode cL_law 796 = .ok (.iconst 4, 1) := by decide +kernel
theorem dL_law_797 : decode cL_law 797 = .ok (.iadd, 1) := by decide +kernel
theorem dL_law_798 : decode cL_law 798 = .ok (.iaload, 1) := by decide +kernel
theorem dL_law_799 : decode cL_law 799 = .ok (.invokevirtual 90, 3) := by decide +kernel
theorem dL_law_802 : decode cL_law 802 = .ok (.aload_n 2, 1) := by decide +kernel
theorem dL_law_803 : decode cL_law 803 = .ok (.aload_n 0, 1) := by decide +kernel
theorem dL_law_804 : decode cL_law 804 = .ok (.iload_n 3, 1) := by decide +kernel
theorem dL_law_805 : decode cL_law 805 = .ok (.iconst 1, 1) := by decide +kernel
theorem dL_law_806 : decode cL_law 806 = .ok (.iadd, 1) := by decide +kernel
theorem dL_law_807 : decode cL_law 807 = .ok (.iaload, 1) := by decide +kernel
theorem dL_law_808 : decode cL_law 808 = .ok (.aload_n 0, 1) := by decide +kernel
theorem dL_law_809 : decode cL_law 809 = .ok (.iload_n 3, 1) := by decide +kernel
theorem dL_law_810 : decode cL_law 810 = .ok (.iconst 2, 1) := by decide +kernel
theorem dL_law_811 : decode cL_law 811 = .ok (.iadd, 1) := by decide +kernel
theorem dL_law_812 : decode cL_law 812 = .ok (.iaload, 1) := by decide +kernel
theorem dL_law_813 : decode cL_law 813 = .ok (.aload_n 0, 1) := by decide +kernel
theorem dL_law_814 : decode cL_law 814 = .ok (.iload_n 3, 1) := by decide +kernel
theorem dL_law_815 : decode cL_law 815 = .ok (.iconst 3, 1) := by decide +kernel
theorem dL_law_816 : decode cL_law 816 = .ok (.iadd, 1) := by decide +kernel
theorem dL_law_817 : decode cL_law 817 = .ok (.iaload, 1) := by decide +kernel
theorem dL_law_818 : decode cL_law 818 = .ok (.aload_n 0, 1) := by decide +kernel
theorem dL_law_819 : decode cL_law 819 = .ok (.iload_n 3, 1) := by decide +kernel
theorem dL_law_820 : decode cL_law 820 = .ok (.iconst 4, 1) := by decide +kernel
theorem dL_law_821 : decode cL_law 821 = .ok (.iadd, 1) := by decide +kernel
theorem dL_law_822 : decode cL_law 822 = .ok (.iaload, 1) := by decide +kernel
theorem dL_law_823 : decode cL_law 823 = .ok (.invokevirtual 93, 3) := by decide +kernel
theorem dL_law_826 : decode cL_law 826 = .ok (.if_icmp .eq 412, 3) := by decide +kernel
theorem dL_law_829 : decode cL_law 829 = .ok (.iconst 0, 1) := by decide +kernel
theorem dL_law_830 : decode cL_law 830 = .ok (.ireturn, 1) := by decide +kernel
theorem dL_law_831 : decode cL_law 831 = .ok (.aload_n 1, 1) := by decide +kernel
theorem dL_law_832 : decode cL_law 832 = .ok (.aload_n 0, 1) := by decide +kernel
theorem dL_law_833 : decode cL_law 833 = .ok (.iload_n 3, 1) := by decide +kernel
theorem dL_law_834 : decode cL_law 834 = .ok (.iconst 1, 1) := by decide +kernel
theorem dL_law_835 : decode cL_law 835 = .ok (.iadd, 1) := by decide +kernel
theorem dL_law_836 : decode cL_law 836 = .ok (.iaload, 1) := by decide +kernel
theorem dL_law_837 : decode cL_law 837 = .ok (.aload_n 0, 1) := by decide +kernel
theorem dL_law_838 : decode cL_law 838 = .ok (.iload_n 3, 1) := by decide +kernel
theorem dL_law_839 : decode cL_law 839 = .ok (.iconst 2, 1) := by decide +kernel
theorem dL_law_840 : decode cL_law 840 = .ok (.iadd, 1) := by decide +kernel
theorem dL_law_841 : decode cL_law 841 = .ok (.iaload, 1) := by decide +kernel
theorem dL_law_842 : decode cL_law 842 = .ok (.aload_n 0, 1) := by decide +kernel
theorem dL_law_843 : decode cL_law 843 = .ok (.iload_n 3, 1) := by decide +kernel
theorem dL_law_844 : decode cL_law 844 = .ok (.iconst 3, 1) := by decide +kernel
theorem dL_law_845 : decode cL_law 845 = .ok (.iadd, 1) := by decide +kernel
theorem dL_law_846 : decode cL_law 846 = .ok (.iaload, 1) := by decide +kernel
theorem dL_law_847 : decode cL_law 847 = .ok (.aload_n 0, 1) := by decide +kernel
theorem dL_law_848 : decode cL_law 848 = .ok (.iload_n 3, 1) := by decide +kernel
theorem dL_law_849 : decode cL_law 849 = .ok (.iconst 4, 1) := by decide +kernel
theorem dL_law_850 : decode cL_law 850 = .ok (.iadd, 1) := by decide +kernel
theorem dL_law_851 : decode cL_law 851 = .ok (.iaload, 1) := by decide +kernel
theorem dL_law_852 : decode cL_law 852 = .ok (.aload_n 0, 1) := by decide +kernel
theorem dL_law_853 : decode cL_law 853 = .ok (.iload_n 3, 1) := by decide +kernel
theorem dL_law_854 : decode cL_law 854 = .ok (.iconst 5, 1) := by decide +kernel
theorem dL_law_855 : decode cL_law 855 = .ok (.iadd, 1) := by decide +kernel
theorem dL_law_856 : decode cL_law 856 = .ok (.iaload, 1) := by decide +kernel
theorem dL_law_857 : decode cL_law 857 = .ok (.invokevirtual 94, 3) := by decide +kernel
theorem dL_law_860 : decode cL_law 860 = .ok (.aload_n 2, 1) := by decide +kernel
theorem dL_law_861 : decode cL_law 861 = .ok (.aload_n 0, 1) := by decide +kernel
theorem dL_law_862 : decode cL_law 862 = .ok (.iload_n 3, 1) := by decide +kernel
theorem dL_law_863 : decode cL_law 863 = .ok (.iconst 1, 1) := by decide +kernel
theorem dL_law_864 : decode cL_law 864 = .ok (.iadd, 1) := by decide +kernel
theorem dL_law_865 : decode cL_law 865 = .ok (.iaload, 1) := by decide +kernel
theorem dL_law_866 : decode cL_law 866 = .ok (.aload_n 0, 1) := by decide +kernel
theorem dL_law_867 : decode cL_law 867 = .ok (.iload_n 3, 1) := by decide +kernel
theorem dL_law_868 : decode cL_law 868 = .ok (.iconst 2, 1) := by decide +kernel
theorem dL_law_869 : decode cL_law 869 = .ok (.iadd, 1) := by decide +kernel
theorem dL_law_870 : decode cL_law 870 = .ok (.iaload, 1) := by decide +kernel
theorem dL_law_871 : decode cL_law 871 = .ok (.aload_n 0, 1) := by decide +kernel
theorem dL_law_872 : decode cL_law 872 = .ok (.iload_n 3, 1) := by decide +kernel
theorem dL_law_873 : decode cL_law 873 = .ok (.iconst 3, 1) := by decide +kernel
theorem dL_law_874 : decode cL_law 874 = .ok (.iadd, 1) := by decide +kernel
theorem dL_law_875 : decode cL_law 875 = .ok (.iaload, 1) := by decide +kernel
theorem dL_law_876 : decode cL_law 876 = .ok (.aload_n 0, 1) := by decide +kernel
theorem dL_law_877 : decode cL_law 877 = .ok (.iload_n 3, 1) := by decide +kernel
theorem dL_law_878 : decode cL_law 878 = .ok (.iconst 4, 1) := by decide +kernel
theorem dL_law_879 : decode cL_law 879 = .ok (.iadd, 1) := by decide +kernel
theorem dL_law_880 : decode cL_law 880 = .ok (.iaload, 1) := by decide +kernel
theorem dL_law_881 : decode cL_law 881 = .ok (.aload_n 0, 1) := by decide +kernel
theorem dL_law_882 : decode cL_law 882 = .ok (.iload_n 3, 1) := by decide +kernel
theorem dL_law_883 : decode cL_law 883 = .ok (.iconst 5, 1) := by decide +kernel
theorem dL_law_884 : decode cL_law 884 = .ok (.iadd, 1) := by decide +kernel
theorem dL_law_885 : decode cL_law 885 = .ok (.iaload, 1) := by decide +kernel
theorem dL_law_886 : decode cL_law 886 = .ok (.invokevirtual 97, 3) := by decide +kernel
theorem dL_law_889 : decode cL_law 889 = .ok (.if_icmp .eq 349, 3) := by decide +kernel
theorem dL_law_892 : decode cL_law 892 = .ok (.iconst 0, 1) := by decide +kernel
theorem dL_law_893 : decode cL_law 893 = .ok (.ireturn, 1) := by decide +kernel
theorem dL_law_894 : decode cL_law 894 = .ok (.aload_n 1, 1) := by decide +kernel
theorem dL_law_895 : decode cL_law 895 = .ok (.aload_n 0, 1) := by decide +kernel
theorem dL_law_896 : decode cL_law 896 = .ok (.iload_n 3, 1) := by decide +kernel
theorem dL_law_897 : decode cL_law 897 = .ok (.iconst 1, 1) := by decide +kernel
theorem dL_law_898 : decode cL_law 898 = .ok (.iadd, 1) := by decide +kernel
theorem dL_law_899 : decode cL_law 899 = .ok (.iaload, 1) := by decide +kernel
theorem dL_law_900 : decode cL_law 900 = .ok (.aload_n 0, 1) := by decide +kernel
theorem dL_law_901 : decode cL_law 901 = .ok (.iload_n 3, 1) := by decide +kernel
theorem dL_law_902 : decode cL_law 902 = .ok (.iconst 2, 1) := by decide +kernel
theorem dL_law_903 : decode cL_law 903 = .ok (.iadd, 1) := by decide +kernel
theorem dL_law_904 : decode cL_law 904 = .ok (.iaload, 1) := by decide +kernel
theorem dL_law_905 : decode cL_law 905 = .ok (.aload_n 0, 1) := by decide +kernel
theorem dL_law_906 : decode cL_law 906 = .ok (.iload_n 3, 1) := by decide +kernel
theorem dL_law_907 : decode cL_law 907 = .ok (.iconst 3, 1) := by decide +kernel
theorem dL_law_908 : decode cL_law 908 = .ok (.iadd, 1) := by decide +kernel
theorem dL_law_909 : decode cL_law 909 = .ok (.iaload, 1) := by decide +kernel
theorem dL_law_910 : decode cL_law 910 = .ok (.invokevirtual 98, 3) := by decide +kernel
theorem dL_law_913 : decode cL_law 913 = .ok (.aload_n 2, 1) := by decide +kernel
theorem dL_law_914 : decode cL_law 914 = .ok (.aload_n 0, 1) := by decide +kernel
theorem dL_law_915 : decode cL_law 915 = .ok (.iload_n 3, 1) := by decide +kernel
theorem dL_law_916 : decode cL_law 916 = .ok (.iconst 1, 1) := by decide +kernel
theorem dL_law_917 : decode cL_law 917 = .ok (.iadd, 1) := by decide +kernel
theorem dL_law_918 : decode cL_law 918 = .ok (.iaload, 1) := by decide +kernel
theorem dL_law_919 : decode cL_law 919 = .ok (.aload_n 0, 1) := by decide +kernel
theorem dL_law_920 : decode cL_law 920 = .ok (.iload_n 3, 1) := by decide +kernel
theorem dL_law_921 : decode cL_law 921 = .ok (.iconst 2, 1) := by decide +kernel
theorem dL_law_922 : decode cL_law 922 = .ok (.iadd, 1) := by decide +kernel
theorem dL_law_923 : decode cL_law 923 = .ok (.iaload, 1) := by decide +kernel
theorem dL_law_924 : decode cL_law 924 = .ok (.aload_n 0, 1) := by decide +kernel
theorem dL_law_925 : decode cL_law 925 = .ok (.iload_n 3, 1) := by decide +kernel
theorem dL_law_926 : decode cL_law 926 = .ok (.iconst 3, 1) := by decide +kernel
theorem dL_law_927 : decode cL_law 927 = .ok (.iadd, 1) := by decide +kernel
theorem dL_law_928 : decode cL_law 928 = .ok (.iaload, 1) := by decide +kernel
theorem dL_law_929 : decode cL_law 929 = .ok (.invokevirtual 101, 3) := by decide +kernel
theorem dL_law_932 : decode cL_law 932 = .ok (.if_icmp .eq 306, 3) := by decide +kernel
theorem dL_law_935 : decode cL_law 935 = .ok (.iconst 0, 1) := by decide +kernel
theorem dL_law_936 : decode cL_law 936 = .ok (.ireturn, 1) := by decide +kernel
theorem dL_law_937 : decode cL_law 937 = .ok (.aload_n 1, 1) := by decide +kernel
theorem dL_law_938 : decode cL_law 938 = .ok (.aload_n 0, 1) := by decide +kernel
theorem dL_law_939 : decode cL_law 939 = .ok (.iload_n 3, 1) := by decide +kernel
theorem dL_law_940 : decode cL_law 940 = .ok (.iconst 1, 1) := by decide +kernel
theorem dL_law_941 : decode cL_law 941 = .ok (.iadd, 1) := by decide +kernel
theorem dL_law_942 : decode cL_law 942 = .ok (.iaload, 1) := by decide +kernel
theorem dL_law_943 : decode cL_law 943 = .ok (.invokevirtual 102, 3) := by decide +kernel
theorem dL_law_946 : decode cL_law 946 = .ok (.aload_n 2, 1) := by decide +kernel
theorem dL_law_947 : decode cL_law 947 = .ok (.aload_n 0, 1) := by decide +kernel
theorem dL_law_948 : decode cL_law 948 = .ok (.iload_n 3, 1) := by decide +kernel
theorem dL_law_949 : decode cL_law 949 = .ok (.iconst 1, 1) := by decide +kernel
theorem dL_law_950 : decode cL_law 950 = .ok (.iadd, 1) := by decide +kernel
theorem dL_law_951 : decode cL_law 951 = .ok (.iaload, 1) := by decide +kernel
theorem dL_law_952 : decode cL_law 952 = .ok (.invokevirtual 105, 3) := by decide +kernel
theorem dL_law_955 : decode cL_law 955 = .ok (.if_icmp .eq 283, 3) := by decide +kernel
theorem dL_law_958 : decode cL_law 958 = .ok (.iconst 0, 1) := by decide +kernel
theorem dL_law_959 : decode cL_law 959 = .ok (.ireturn, 1) := by decide +kernel
theorem dL_law_960 : decode cL_law 960 = .ok (.aload_n 1, 1) := by decide +kernel
theorem dL_law_961 : decode cL_law 961 = .ok (.aload_n 0, 1) := by decide +kernel
theorem dL_law_962 : decode cL_law 962 = .ok (.iload_n 3, 1) := by decide +kernel
theorem dL_law_963 : decode cL_law 963 = .ok (.iconst 1, 1) := by decide +kernel
theorem dL_law_964 : decode cL_law 964 = .ok (.iadd, 1) := by decide +kernel
theorem dL_law_965 : decode cL_law 965 = .ok (.iaload, 1) := by decide +kernel
theorem dL_law_966 : decode cL_law 966 = .ok (.aload_n 0, 1) := by decide +kernel
theorem dL_law_967 : decode cL_law 967 = .ok (.iload_n 3, 1) := by decide +kernel
theorem dL_law_968 : decode cL_law 968 = .ok (.iconst 2, 1) := by decide +kernel
theorem dL_law_969 : decode cL_law 969 = .ok (.iadd, 1) := by decide +kernel
theorem dL_law_970 : decode cL_law 970 = .ok (.iaload, 1) := by decide +kernel
theorem dL_law_971 : decode cL_law 971 = .ok (.aload_n 0, 1) := by decide +kernel
theorem dL_law_972 : decode cL_law 972 = .ok (.iload_n 3, 1) := by decide +kernel
theorem dL_law_973 : decode cL_law 973 = .ok (.iconst 3, 1) := by decide +kernel
theorem dL_law_974 : decode cL_law 974 = .ok (.iadd, 1) := by decide +kernel
theorem dL_law_975 : decode cL_law 975 = .ok (.iaload, 1) := by decide +kernel
theorem dL_law_976 : decode cL_law 976 = .ok (.invokevirtual 106, 3) := by decide +kernel
theorem dL_law_979 : decode cL_law 979 = .ok (.aload_n 2, 1) := by decide +kernel
theorem dL_law_980 : decode cL_law 980 = .ok (.aload_n 0, 1) := by decide +kernel
theorem dL_law_981 : decode cL_law 981 = .ok (.iload_n 3, 1) := by decide +kernel
theorem dL_law_982 : decode cL_law 982 = .ok (.iconst 1, 1) := by decide +kernel
theorem dL_law_983 : decode cL_law 983 = .ok (.iadd, 1) := by decide +kernel
theorem dL_law_984 : decode cL_law 984 = .ok (.iaload, 1) := by decide +kernel
theorem dL_law_985 : decode cL_law 985 = .ok (.aload_n 0, 1) := by decide +kernel
theorem dL_law_986 : decode cL_law 986 = .ok (.iload_n 3, 1) := by decide +kernel
theorem dL_law_987 : decode cL_law 987 = .ok (.iconst 2, 1) := by decide +kernel
theorem dL_law_988 : decode cL_law 988 = .ok (.iadd, 1) := by decide +kernel
theorem dL_law_989 : decode cL_law 989 = .ok (.iaload, 1) := by decide +kernel
theorem dL_law_990 : decode cL_law 990 = .ok (.aload_n 0, 1) := by decide +kernel
theorem dL_law_991 : decode cL_law 991 = .ok (.iload_n 3, 1) := by decide +kernel
theorem dL_law_992 : decode cL_law 992 = .ok (.iconst 3, 1) := by decide +kernel
theorem dL_law_993 : decode cL_law 993 = .ok (.iadd, 1) := by decide +kernel
theorem dL_law_994 : decode cL_law 994 = .ok (.iaload, 1) := by decide +kernel
theorem dL_law_995 : decode cL_law 995 = .ok (.invokevirtual 109, 3) := by decide +kernel
theorem dL_law_998 : decode cL_law 998 = .ok (.if_icmp .eq 240, 3) := by decide +kernel
theorem dL_law_1001 : decode cL_law 1001 = .ok (.iconst 0, 1) := by decide +kernel
theorem dL_law_1002 : decode cL_law 1002 = .ok (.ireturn, 1) := by decide +kernel
theorem dL_law_1003 : decode cL_law 1003 = .ok (.aload_n 1, 1) := by decide +kernel
theorem dL_law_1004 : decode cL_law 1004 = .ok (.aload_n 0, 1) := by decide +kernel
theorem dL_law_1005 : decode cL_law 1005 = .ok (.iload_n 3, 1) := by decide +kernel
theorem dL_law_1006 : decode cL_law 1006 = .ok (.iconst 1, 1) := by decide +kernel
theorem dL_law_1007 : decode cL_law 1007 = .ok (.iadd, 1) := by decide +kernel
theorem dL_law_1008 : decode cL_law 1008 = .ok (.iaload, 1) := by decide +kernel
theorem dL_law_1009 : decode cL_law 1009 = .ok (.aload_n 0, 1) := by decide +kernel
theorem dL_law_1010 : decode cL_law 1010 = .ok (.iload_n 3, 1) := by decide +kernel
theorem dL_law_1011 : decode cL_law 1011 = .ok (.iconst 2, 1) := by decide +kernel
theorem dL_law_1012 : decode cL_law 1012 = .ok (.iadd, 1) := by decide +kernel
theorem dL_law_1013 : decode cL_law 1013 = .ok (.iaload, 1) := by decide +kernel
theorem dL_law_1014 : decode cL_law 1014 = .ok (.aload_n 0, 1) := by decide +kernel
theorem dL_law_1015 : decode cL_law 1015 = .ok (.iload_n 3, 1) := by decide +kernel
theorem dL_law_1016 : decode cL_law 1016 = .ok (.iconst 3, 1) := by decide +kernel
theorem dL_law_1017 : decode cL_law 1017 = .ok (.iadd, 1) := by decide +kernel
theorem dL_law_1018 : decode cL_law 1018 = .ok (.iaload, 1) := by decide +kernel
theorem dL_law_1019 : decode cL_law 1019 = .ok (.invokevirtual 110, 3) := by decide +kernel
theorem dL_law_1022 : decode cL_law 1022 = .ok (.aload_n 2, 1) := by decide +kernel
theorem dL_law_1023 : decode cL_law 1023 = .ok (.aload_n 0, 1) := by decide +kernel
theorem dL_law_1024 : decode cL_law 1024 = .ok (.iload_n 3, 1) := by decide +kernel
theorem dL_law_1025 : decode cL_law 1025 = .ok (.iconst 1, 1) := by decide +kernel
theorem dL_law_1026 : decode cL_law 1026 = .ok (.iadd, 1) := by decide +kernel
theorem dL_law_1027 : decode cL_law 1027 = .ok (.iaload, 1) := by decide +kernel
theorem dL_law_1028 : decode cL_law 1028 = .ok (.aload_n 0, 1) := by decide +kernel
theorem dL_law_1029 : decode cL_law 1029 = .ok (.iload_n 3, 1) := by decide +kernel
theorem dL_law_1030 : decode cL_law 1030 = .ok (.iconst 2, 1) := by decide +kernel
theorem dL_law_1031 : decode cL_law 1031 = .ok (.iadd, 1) := by decide +kernel
theorem dL_law_1032 : decode cL_law 1032 = .ok (.iaload, 1) := by decide +kernel
theorem dL_law_1033 : decode cL_law 1033 = .ok (.aload_n 0, 1) := by decide +kernel
theorem dL_law_1034 : decode cL_law 1034 = .ok (.iload_n 3, 1) := by decide +kernel
theorem dL_law_1035 : decode cL_law 1035 = .ok (.iconst 3, 1) := by decide +kernel
theorem dL_law_1036 : decode cL_law 1036 = .ok (.iadd, 1) := by decide +kernel
theorem dL_law_1037 : decode cL_law 1037 = .ok (.iaload, 1) := by decide +kernel
theorem dL_law_1038 : decode cL_law 1038 = .ok (.invokevirtual 114, 3) := by decide +kernel
theorem dL_law_1041 : decode cL_law 1041 = .ok (.lcmp, 1) := by decide +kernel
theorem dL_law_1042 : decode cL_law 1042 = .ok (.ifCond .eq 196, 3) := by decide +kernel
theorem dL_law_1045 : decode cL_law 1045 = .ok (.iconst 0, 1) := by decide +kernel
theorem dL_law_1046 : decode cL_law 1046 = .ok (.ireturn, 1) := by decide +kernel
theorem dL_law_1047 : decode cL_law 1047 = .ok (.aload_n 1, 1) := by decide +kernel
theorem dL_law_1048 : decode cL_law 1048 = .ok (.aload_n 0, 1) := by decide +kernel
theorem dL_law_1049 : decode cL_law 1049 = .ok (.iload_n 3, 1) := by decide +kernel
theorem dL_law_1050 : decode cL_law 1050 = .ok (.iconst 1, 1) := by decide +kernel
theorem dL_law_1051 : decode cL_law 1051 = .ok (.iadd, 1) := by decide +kernel
theorem dL_law_1052 : decode cL_law 1052 = .ok (.iaload, 1) := by decide +kernel
theorem dL_law_1053 : decode cL_law 1053 = .ok (.aload_n 0, 1) := by decide +kernel
theorem dL_law_1054 : decode cL_law 1054 = .ok (.iload_n 3, 1) := by decide +kernel
theorem dL_law_1055 : decode cL_law 1055 = .ok (.iconst 2, 1) := by decide +kernel
theorem dL_law_1056 : decode cL_law 1056 = .ok (.iadd, 1) := by decide +kernel
theorem dL_law_1057 : decode cL_law 1057 = .ok (.iaload, 1) := by decide +kernel
theorem dL_law_1058 : decode cL_law 1058 = .ok (.aload_n 0, 1) := by decide +kernel
theorem dL_law_1059 : decode cL_law 1059 = .ok (.iload_n 3, 1) := by decide +kernel
theorem dL_law_1060 : decode cL_law 1060 = .ok (.iconst 3, 1) := by decide +kernel
theorem dL_law_1061 : decode cL_law 1061 = .ok (.iadd, 1) := by decide +kernel
theorem dL_law_1062 : decode cL_law 1062 = .ok (.iaload, 1) := by decide +kernel
theorem dL_law_1063 : decode cL_law 1063 = .ok (.aload_n 0, 1) := by decide +kernel
theorem dL_law_1064 : decode cL_law 1064 = .ok (.iload_n 3, 1) := by decide +kernel
theorem dL_law_1065 : decode cL_law 1065 = .ok (.iconst 4, 1) := by decide +kernel
theorem dL_law_1066 : decode cL_law 1066 = .ok (.iadd, 1) := by decide +kernel
theorem dL_law_1067 : decode cL_law 1067 = .ok (.iaload, 1) := by decide +kernel
theorem dL_law_1068 : decode cL_law 1068 = .ok (.aload_n 0, 1) := by decide +kernel
theorem dL_law_1069 : decode cL_law 1069 = .ok (.iload_n 3, 1) := by decide +kernel
theorem dL_law_1070 : decode cL_law 1070 = .ok (.iconst 5, 1) := by decide +kernel
theorem dL_law_1071 : decode cL_law 1071 = .ok (.iadd, 1) := by decide +kernel
theorem dL_law_1072 : decode cL_law 1072 = .ok (.iaload, 1) := by decide +kernel
theorem dL_law_1073 : decode cL_law 1073 = .ok (.invokevirtual 115, 3) := by decide +kernel
theorem dL_law_1076 : decode cL_law 1076 = .ok (.aload_n 2, 1) := by decide +kernel
theorem dL_law_1077 : decode cL_law 1077 = .ok (.aload_n 0, 1) := by decide +kernel
theorem dL_law_1078 : decode cL_law 1078 = .ok (.iload_n 3, 1) := by decide +kernel
theorem dL_law_1079 : decode cL_law 1079 = .ok (.iconst 1, 1) := by decide +kernel
theorem dL_law_1080 : decode cL_law 1080 = .ok (.iadd, 1) := by decide +kernel
theorem dL_law_1081 : decode cL_law 1081 = .ok (.iaload, 1) := by decide +kernel
theorem dL_law_1082 : decode cL_law 1082 = .ok (.aload_n 0, 1) := by decide +kernel
theorem dL_law_1083 : decode cL_law 1083 = .ok (.iload_n 3, 1) := by decide +kernel
theorem dL_law_1084 : decode cL_law 1084 = .ok (.iconst 2, 1) := by decide +kernel
theorem dL_law_1085 : decode cL_law 1085 = .ok (.iadd, 1) := by decide +kernel
theorem dL_law_1086 : decode cL_law 1086 = .ok (.iaload, 1) := by decide +kernel
theorem dL_law_1087 : decode cL_law 1087 = .ok (.aload_n 0, 1) := by decide +kernel
theorem dL_law_1088 : decode cL_law 1088 = .ok (.iload_n 3, 1) := by decide +kernel
theorem dL_law_1089 : decode cL_law 1089 = .ok (.iconst 3, 1) := by decide +kernel
theorem dL_law_1090 : decode cL_law 1090 = .ok (.iadd, 1) := by decide +kernel
theorem dL_law_1091 : decode cL_law 1091 = .ok (.iaload, 1) := by decide +kernel
theorem dL_law_1092 : decode cL_law 1092 = .ok (.aload_n 0, 1) := by decide +kernel
theorem dL_law_1093 : decode cL_law 1093 = .ok (.iload_n 3, 1) := by decide +kernel
theorem dL_law_1094 : decode cL_law 1094 = .ok (.iconst 4, 1) := by decide +kernel
theorem dL_law_1095 : decode cL_law 1095 = .ok (.iadd, 1) := by decide +kernel
theorem dL_law_1096 : decode cL_law 1096 = .ok (.iaload, 1) := by decide +kernel
theorem dL_law_1097 : decode cL_law 1097 = .ok (.aload_n 0, 1) := by decide +kernel
theorem dL_law_1098 : decode cL_law 1098 = .ok (.iload_n 3, 1) := by decide +kernel
theorem dL_law_1099 : decode cL_law 1099 = .ok (.iconst 5, 1) := by decide +kernel
theorem dL_law_1100 : decode cL_law 1100 = .ok (.iadd, 1) := by decide +kernel
theorem dL_law_1101 : decode cL_law 1101 = .ok (.iaload, 1) := by decide +kernel
theorem dL_law_1102 : decode cL_law 1102 = .ok (.invokevirtual 118, 3) := by decide +kernel
theorem dL_law_1105 : decode cL_law 1105 = .ok (.if_icmp .eq 133, 3) := by decide +kernel
theorem dL_law_1108 : decode cL_law 1108 = .ok (.iconst 0, 1) := by decide +kernel
theorem dL_law_1109 : decode cL_law 1109 = .ok (.ireturn, 1) := by decide +kernel
theorem dL_law_1110 : decode cL_law 1110 = .ok (.aload_n 1, 1) := by decide +kernel
theorem dL_law_1111 : decode cL_law 1111 = .ok (.aload_n 0, 1) := by decide +kernel
theorem dL_law_1112 : decode cL_law 1112 = .ok (.iload_n 3, 1) := by decide +kernel
theorem dL_law_1113 : decode cL_law 1113 = .ok (.iconst 1, 1) := by decide +kernel
theorem dL_law_1114 : decode cL_law 1114 = .ok (.iadd, 1) := by decide +kernel
theorem dL_law_1115 : decode cL_law 1115 = .ok (.iaload, 1) := by decide +kernel
theorem dL_law_1116 : decode cL_law 1116 = .ok (.invokevirtual 119, 3) := by decide +kernel
theorem dL_law_1119 : decode cL_law 1119 = .ok (.aload_n 2, 1) := by decide +kernel
theorem dL_law_1120 : decode cL_law 1120 = .ok (.aload_n 0, 1) := by decide +kernel
theorem dL_law_1121 : decode cL_law 1121 = .ok (.iload_n 3, 1) := by decide +kernel
theorem dL_law_1122 : decode cL_law 1122 = .ok (.iconst 1, 1) := by decide +kernel
theorem dL_law_1123 : decode cL_law 1123 = .ok (.iadd, 1) := by decide +kernel
theorem dL_law_1124 : decode cL_law 1124 = .ok (.iaload, 1) := by decide +kernel
theorem dL_law_1125 : decode cL_law 1125 = .ok (.invokevirtual 122, 3) := by decide +kernel
theorem dL_law_1128 : decode cL_law 1128 = .ok (.if_icmp .eq 110, 3) := by decide +kernel
theorem dL_law_1131 : decode cL_law 1131 = .ok (.iconst 0, 1) := by decide +kernel
theorem dL_law_1132 : decode cL_law 1132 = .ok (.ireturn, 1) := by decide +kernel
theorem dL_law_1133 : decode cL_law 1133 = .ok (.aload_n 1, 1) := by decide +kernel
theorem dL_law_1134 : decode cL_law 1134 = .ok (.aload_n 0, 1) := by decide +kernel
theorem dL_law_1135 : decode cL_law 1135 = .ok (.iload_n 3, 1) := by decide +kernel
theorem dL_law_1136 : decode cL_law 1136 = .ok (.iconst 1, 1) := by decide +kernel
theorem dL_law_1137 : decode cL_law 1137 = .ok (.iadd, 1) := by decide +kernel
theorem dL_law_1138 : decode cL_law 1138 = .ok (.iaload, 1) := by decide +kernel
theorem dL_law_1139 : decode cL_law 1139 = .ok (.invokevirtual 123, 3) := by decide +kernel
theorem dL_law_1142 : decode cL_law 1142 = .ok (.aload_n 2, 1) := by decide +kernel
theorem dL_law_1143 : decode cL_law 1143 = .ok (.aload_n 0, 1) := by decide +kernel
theorem dL_law_1144 : decode cL_law 1144 = .ok (.iload_n 3, 1) := by decide +kernel
theorem dL_law_1145 : decode cL_law 1145 = .ok (.iconst 1, 1) := by decide +kernel
theorem dL_law_1146 : decode cL_law 1146 = .ok (.iadd, 1) := by decide +kernel
theorem dL_law_1147 : decode cL_law 1147 = .ok (.iaload, 1) := by decide +kernel
theorem dL_law_1148 : decode cL_law 1148 = .ok (.invokevirtual 126, 3) := by decide +kernel
theorem dL_law_1151 : decode cL_law 1151 = .ok (.if_icmp .eq 87, 3) := by decide +kernel
theorem dL_law_1154 : decode cL_law 1154 = .ok (.iconst 0, 1) := by decide +kernel
theorem dL_law_1155 : decode cL_law 1155 = .ok (.ireturn, 1) := by decide +kernel
theorem dL_law_1156 : decode cL_law 1156 = .ok (.aload_n 1, 1) := by decide +kernel
theorem dL_law_1157 : decode cL_law 1157 = .ok (.aload_n 0, 1) := by decide +kernel
theorem dL_law_1158 : decode cL_law 1158 = .ok (.iload_n 3, 1) := by decide +kernel
theorem dL_law_1159 : decode cL_law 1159 = .ok (.iconst 1, 1) := by decide +kernel
theorem dL_law_1160 : decode cL_law 1160 = .ok (.iadd, 1) := by decide +kernel
theorem dL_law_1161 : decode cL_law 1161 = .ok (.iaload, 1) := by decide +kernel
theorem dL_law_1162 : decode cL_law 1162 = .ok (.aload_n 0, 1) := by decide +kernel
theorem dL_law_1163 : decode cL_law 1163 = .ok (.iload_n 3, 1) := by decide +kernel
theorem dL_law_1164 : decode cL_law 1164 = .ok (.iconst 2, 1) := by decide +kernel
theorem dL_law_1165 : decode cL_law 1165 = .ok (.iadd, 1) := by decide +kernel
theorem dL_law_1166 : decode cL_law 1166 = .ok (.iaload, 1) := by decide +kernel
theorem dL_law_1167 : decode cL_law 1167 = .ok (.invokevirtual 127, 3) := by decide +kernel
theorem dL_law_1170 : decode cL_law 1170 = .ok (.aload_n 2, 1) := by decide +kernel
theorem dL_law_1171 : decode cL_law 1171 = .ok (.aload_n 0, 1) := by decide +kernel
theorem dL_law_1172 : decode cL_law 1172 = .ok (.iload_n 3, 1) := by decide +kernel
theorem dL_law_1173 : decode cL_law 1173 = .ok (.iconst 1, 1) := by decide +kernel
theorem dL_law_1174 : decode cL_law 1174 = .ok (.iadd, 1) := by decide +kernel
theorem dL_law_1175 : decode cL_law 1175 = .ok (.iaload, 1) := by decide +kernel
theorem dL_law_1176 : decode cL_law 1176 = .ok (.aload_n 0, 1) := by decide +kernel
theorem dL_law_1177 : decode cL_law 1177 = .ok (.iload_n 3, 1) := by decide +kernel
theorem dL_law_1178 : decode cL_law 1178 = .ok (.iconst 2, 1) := by decide +kernel
theorem dL_law_1179 : decode cL_law 1179 = .ok (.iadd, 1) := by decide +kernel
theorem dL_law_1180 : decode cL_law 1180 = .ok (.iaload, 1) := by decide +kernel
theorem dL_law_1181 : decode cL_law 1181 = .ok (.invokevirtual 130, 3) := by decide +kernel
theorem dL_law_1184 : decode cL_law 1184 = .ok (.if_icmp .eq 54, 3) := by decide +kernel
theorem dL_law_1187 : decode cL_law 1187 = .ok (.iconst 0, 1) := by decide +kernel
theorem dL_law_1188 : decode cL_law 1188 = .ok (.ireturn, 1) := by decide +kernel
theorem dL_law_1189 : decode cL_law 1189 = .ok (.aload_n 1, 1) := by decide +kernel
theorem dL_law_1190 : decode cL_law 1190 = .ok (.invokevirtual 131, 3) := by decide +kernel
theorem dL_law_1193 : decode cL_law 1193 = .ok (.aload_n 2, 1) := by decide +kernel
theorem dL_law_1194 : decode cL_law 1194 = .ok (.invokevirtual 134, 3) := by decide +kernel
theorem dL_law_1197 : decode cL_law 1197 = .ok (.if_icmp .eq 41, 3) := by decide +kernel
theorem dL_law_1200 : decode cL_law 1200 = .ok (.iconst 0, 1) := by decide +kernel
theorem dL_law_1201 : decode cL_law 1201 = .ok (.ireturn, 1) := by decide +kernel
theorem dL_law_1202 : decode cL_law 1202 = .ok (.aload_n 1, 1) := by decide +kernel
theorem dL_law_1203 : decode cL_law 1203 = .ok (.invokevirtual 135, 3) := by decide +kernel
theorem dL_law_1206 : decode cL_law 1206 = .ok (.aload_n 2, 1) := by decide +kernel
theorem dL_law_1207 : decode cL_law 1207 = .ok (.invokevirtual 138, 3) := by decide +kernel
theorem dL_law_1210 : decode cL_law 1210 = .ok (.if_icmp .eq 28, 3) := by decide +kernel
theorem dL_law_1213 : decode cL_law 1213 = .ok (.iconst 0, 1) := by decide +kernel
theorem dL_law_1214 : decode cL_law 1214 = .ok (.ireturn, 1) := by decide +kernel
theorem dL_law_1215 : decode cL_law 1215 = .ok (.aload_n 1, 1) := by decide +kernel
theorem dL_law_1216 : decode cL_law 1216 = .ok (.aload_n 0, 1) := by decide +kernel
theorem dL_law_1217 : decode cL_law 1217 = .ok (.iload_n 3, 1) := by decide +kernel
theorem dL_law_1218 : decode cL_law 1218 = .ok (.iconst 1, 1) := by decide +kernel
theorem dL_law_1219 : decode cL_law 1219 = .ok (.iadd, 1) := by decide +kernel
theorem dL_law_1220 : decode cL_law 1220 = .ok (.iaload, 1) := by decide +kernel
theorem dL_law_1221 : decode cL_law 1221 = .ok (.invokevirtual 139, 3) := by decide +kernel
theorem dL_law_1224 : decode cL_law 1224 = .ok (.aload_n 2, 1) := by decide +kernel
theorem dL_law_1225 : decode cL_law 1225 = .ok (.aload_n 0, 1) := by decide +kernel
theorem dL_law_1226 : decode cL_law 1226 = .ok (.iload_n 3, 1) := by decide +kernel
theorem dL_law_1227 : decode cL_law 1227 = .ok (.iconst 1, 1) := by decide +kernel
theorem dL_law_1228 : decode cL_law 1228 = .ok (.iadd, 1) := by decide +kernel
theorem dL_law_1229 : decode cL_law 1229 = .ok (.iaload, 1) := by decide +kernel
theorem dL_law_1230 : decode cL_law 1230 = .ok (.invokevirtual 142, 3) := by decide +kernel
theorem dL_law_1233 : decode cL_law 1233 = .ok (.if_icmp .eq 5, 3) := by decide +kernel
theorem dL_law_1236 : decode cL_law 1236 = .ok (.iconst 0, 1) := by decide +kernel
theorem dL_law_1237 : decode cL_law 1237 = .ok (.ireturn, 1) := by decide +kernel
theorem dL_law_1238 : decode cL_law 1238 = .ok (.iinc 3 7, 3) := by decide +kernel
theorem dL_law_1241 : decode cL_law 1241 = .ok (.goto (-1223), 3) := by decide +kernel
theorem dL_law_1244 : decode cL_law 1244 = .ok (.iconst 1, 1) := by decide +kernel
theorem dL_law_1245 : decode cL_law 1245 = .ok (.ireturn, 1) := by decide +kernel
end
section
/-! ===== A pure calculus over the machine: a world of 63 cells with fixed shapes, its numbers a pair of functions; z_At: 'from this frame the method comes to its end with Q'; z_Ex: a method's contract ===== -/
abbrev zS : Type := (Nat → Nat → Int32) × (Nat → Nat → Int64)
def z_cv (ad : Nat → Nat) : Value → Value
  | .ref r => .ref (ad r)
  | v => v
def z_tab : List (Nat × Nat × List (Nat × Nat)) := [
  (0, 5, [(2, 1), (2, 7), (2, 13), (2, 22), (2, 26), (2, 31), (2, 42), (0, 0), (0, 0), (0, 0), (0, 0), (0, 0), (0, 0), (0, 0)]),
  (0, 0, [(0, 0), (0, 0), (0, 0), (2, 2), (2, 3), (2, 4), (0, 0), (2, 5), (2, 6)]), (1, 3, []), (1, 3, []), (2, 3, []), (1, 4, []), (1, 4, []),
  (0, 0, [(0, 0), (0, 0), (0, 0), (2, 8), (2, 9), (2, 10), (0, 0), (2, 11), (2, 12)]), (1, 3, []), (1, 3, []), (2, 3, []), (1, 4, []), (1, 4, []),
  (3, 4, []),
  (0, 3, [(0, 0), (0, 0), (2, 18)]), (0, 3, [(0, 0), (0, 0), (2, 19)]), (0, 3, [(0, 0), (0, 0), (2, 20)]), (0, 3, [(0, 0), (0, 0), (2, 21)]),
  (1, 60, []), (1, 60, []), (1, 60, []), (1, 60, []),
  (0, 1, [(0, 0), (2, 23), (2, 24), (2, 25)]), (1, 8, []), (1, 8, []), (1, 8, []),
  (0, 4, [(0, 0), (2, 27), (2, 28), (2, 29), (2, 30), (0, 0), (0, 0), (1, 0), (1, 0)]), (1, 18, []), (1, 18, []), (1, 19, []), (1, 4, []),
  (0, 2, [(0, 0), (0, 0), (0, 0), (0, 0), (2, 32), (2, 33), (2, 34), (2, 35), (2, 36), (2, 37), (0, 0), (0, 0), (2, 38), (2, 39), (2, 40), (2, 41)]),
  (2, 16, []), (2, 16, []), (1, 16, []), (1, 96, []), (1, 1024, []), (1, 1024, []), (1, 32, []), (1, 1024, []), (1, 1024, []), (1, 1024, []),
  (1, 1024, []),
  (0, 6, [(0, 0), (0, 0), (2, 44), (2, 45), (2, 46), (0, 0), (0, 0), (0, 0), (0, 0), (2, 47), (2, 48), (2, 49), (2, 50), (2, 51), (0, 0), (0, 0), (0, 0), (0, 0), (0, 0), (2, 52), (2, 53), (0, 0), (2, 54), (2, 55), (2, 56), (2, 57), (0, 0), (0, 0), (1, 0), (1, 0), (2, 58), (2, 59), (0, 0), (0, 0), (0, 0), (2, 60), (2, 61), (2, 62)]),
  (1, 4, []), (1, 4, []), (1, 240, []), (1, 3, []), (1, 3, []), (2, 3, []), (1, 4, []), (1, 4, []), (1, 6, []), (1, 8, []), (1, 18, []), (1, 18, []), (1, 18, []), (1, 18, []), (1, 1024, []), (1, 1024, []), (1, 8, []), (1, 8, []), (1, 8, [])]
def z_shp (r : Nat) : Nat × Nat × List (Nat × Nat) := z_tab.getD r (9, 0, [])
def z_fv (ad : Nat → Nat) (σ : zS) (r j : Nat) (k : Nat × Nat) : Value := match k.1 with
  | 0 => .int (σ.1 r j)
  | 1 => .long (σ.2 r j)
  | _ => .ref (ad k.2)
def z_av (σ : zS) (r j : Nat) (k : Nat × Nat) : Value := match k.1 with
  | 0 => .int (σ.1 r j)
  | 1 => .long (σ.2 r j)
  | _ => .ref k.2
theorem z_cv_av (ad : Nat → Nat) (σ : zS) (r j : Nat) (k : Nat × Nat) : z_cv ad (z_av σ r j k) = z_fv ad σ r j k := by
  unfold z_av z_fv
  split <;> rfl
def z_fs (ad : Nat → Nat) (σ : zS) (r : Nat) (ks : List (Nat × Nat)) : List Value := ks.mapIdx (fun j k => z_fv ad σ r j k)
def z_cell (ad : Nat → Nat) (cA : Nat → ClassId) (σ : zS) (r : Nat) : va_E := match z_shp r with
  | (0, ci, ks) => .inr (ci, z_fs ad σ r ks)
  | (1, n, _) => .inl (cA 0, n, .inl (σ.1 r))
  | (2, n, _) => .inl (cA 1, n, .inl (σ.1 r))
  | (_, n, _) => .inl (cA 2, n, .inr (.inr (.inr (.inr (fun j => some (ad (14 + j)))))))
def z_ws (ad : Nat → Nat) (cA : Nat → ClassId) (σ : zS) : va_W := (List.range 63).map (fun r => (ad r, z_cell ad cA σ r))
def z_tys (cA : Nat → ClassId) : List (ClassId × FieldType) := [(cA 0, .int), (cA 1, .boolean), (cA 2, .object RX3)]
def z_len (σ : zS) : Nat := (σ.1 64 0).toNatClampNeg
def z_inj (ad : Nat → Nat) : Prop := ∀ a b, a < 64 → b < 64 → ad a = ad b → a = b
def z_A (ad : Nat → Nat) : Nat → Prop := fun q => ∃ r, r < 63 ∧ q = ad r
def z_W (ad : Nat → Nat) (dC : Nat → ClassId) (dI : Nat → Nat → Nat) (cA : Nat → ClassId) (σ : zS) (U : State) : Prop := va_P (dC, dI) vwCl (z_ws ad cA σ) U.heap ∧ va_K (dC, dI) vwCl (z_tys cA) U ∧ va_X (ad 63) (z_len σ) (σ.1 63) U U.heap
def z_T : List Cond := lw_tbl.filter goodWord
theorem z_inT {w : Cond} (h : w ∈ lw_tbl) (hg : goodWord w = true) : w ∈ z_T := List.mem_filter.mpr ⟨h, hg⟩
def z_isN : Cond → Bool
  | .fieldLinkNest .. => true
  | _ => false
def z_Nw (U : State) : Prop := ∀ w ∈ lw_tbl.filter z_isN, va_Nw w U
theorem z_Nw.warm {s U : State} (hW : s.WarmedH U.vm) (h : z_Nw s) : z_Nw U := fun w hw => by
  have h1 := h w hw
  have h2 := (List.mem_filter.mp hw).2
  cases w <;> first | exact va_Nw.warmF hW h1 | (cases h2)
theorem z_Nw.same {s U : State} (hv : s.vm = U.vm) (h : z_Nw s) : z_Nw U := fun w hw => by
  have h1 := h w hw
  have h2 := (List.mem_filter.mp hw).2
  cases w <;> first | exact va_Nw.same rfl hv h1 | (cases h2)
def z_wd (i : zM) : List Cond := Cond.code i.1 i.2.1 i.2.2.1 i.2.2.2 :: z_T
def z_rm (d : Nat) : Room := { frames := d, cells := 0, slots := 0, locals := 40 * d }
def z_Qc (ad : Nat → Nat) (dC : Nat → ClassId) (dI : Nat → Nat → Nat) (cA : Nat → ClassId) (Q : Option Value → zS → Prop) : Array Value → State → Outcome → State → Prop := fun _ st oc t => (∃ (rv : Option Value) (σ : zS), oc = .returned (rv.map (z_cv ad)) ∧ Q rv σ ∧ z_W ad dC dI cA σ t) ∧ va_F (z_A ad) st t
def z_Ex (j : zM) (d : Nat) (as : List Value) (σ : zS) (Q : Option Value → zS → Prop) : Prop :=
  ∀ (Q' : Option Value → zS → Prop), (∀ rv σ', Q rv σ' → Q' rv σ') → ∀ (l : Launch) (ad : Nat → Nat) (dC : Nat → ClassId) (dI : Nat → Nat → Nat) (cA : Nat → ClassId), z_inj ad →
    Met l j.1 (z_wd j) (z_rm d) (va_Pc (as.map (z_cv ad)) (fun U => z_W ad dC dI cA σ U ∧ z_Nw U)) (z_Qc ad dC dI cA Q') 0 0 (z_A ad)
def z_C (i : zM) (d : Nat) (p : Program) (R : Room) (s : State) (m : MethodId) (args : Array Value) (c : Code) : Prop :=
  p.tables.exec = Jvm.exec ∧ c.code = i.2.1 ∧ c.maxLocals = i.2.2.1 ∧ s.vm.findClass i.1.cls = some m.cls ∧ (∀ w ∈ z_T, w.before args s = true) ∧ d ≤ R.frames ∧ 40 * d ≤ R.locals
def z_N (ad : Nat → Nat) (dC : Nat → ClassId) (dI : Nat → Nat → Nat) (cA : Nat → ClassId) (A : Nat → Prop) (s : State) : Prop :=
  z_inj ad ∧ va_K (dC, dI) vwCl (z_tys cA) s ∧ (∀ r, r < 63 → A (ad r)) ∧ ¬ A (ad 63) ∧ ad 63 < s.heap.size ∧ z_Nw s
def z_H (ad : Nat → Nat) (dC : Nat → ClassId) (dI : Nat → Nat → Nat) (cA : Nat → ClassId) (A : Nat → Prop) (s : State) (σ : zS) (H : Heap) (locs : List Loc) : Prop :=
  va_P (dC, dI) vwCl (z_ws ad cA σ) H ∧ va_X (ad 63) (z_len σ) (σ.1 63) s s.heap ∧ va_S A s.heap H locs
def z_rt (i : zM) (rv : Option Value) (pc : Nat) : Prop := match rv with
  | none => i.2.2.2 = none ∧ decode i.2.1 pc = .ok (.return_, 1)
  | some (.int v) => (∃ ty, i.2.2.2 = some ty ∧ narrow ty (.int v) = .int v) ∧ decode i.2.1 pc = .ok (.ireturn, 1)
  | some (.long _) => i.2.2.2 = some .long ∧ decode i.2.1 pc = .ok (.lreturn, 1)
  | _ => False
def z_loc (ad : Nat → Nat) (nL : Nat) (ls : List Value) (lsA : Array Slot) : Prop := ls.length = nL ∧ lsA.size = nL ∧ lv_wf lsA ∧ ∀ (k : Nat) (v : Value), ls[k]? = some v → v ≠ .null → lsA[k]? = some (.val (z_cv ad v))
def z_R (i : zM) (Q : Option Value → zS → Prop) (ad : Nat → Nat) (dC : Nat → ClassId) (dI : Nat → Nat → Nat) (cA : Nat → ClassId) (A : Nat → Prop) (p : Program) (l : Launch) (e : Env) (R : Room) (s : State) (m : MethodId) (args : Array Value) (below : List Frame) (meth : Method) (c : Code) (cells slots : Nat) (QS : State → Prop) : Prop :=
  ∀ (rv : Option Value) (σ : zS) (H : Heap) (locs : List Loc) (lsA : Array Slot) (pc : Nat), Q rv σ → z_H ad dC dI cA A s σ H locs → z_rt i rv pc → W p l e R s m args below meth c H locs cells slots QS (F0 m pc lsA (rv.toList.map (z_cv ad)))
def z_At (i : zM) (d pc : Nat) (ls st : List Value) (σ : zS) (Q : Option Value → zS → Prop) : Prop :=
  ∀ (p : Program) (l : Launch) (e : Env) (R : Room) (s : State) (m : MethodId) (args : Array Value) (below : List Frame) (meth : Method) (c : Code) (cells slots : Nat) (QS : State → Prop) (ad : Nat → Nat) (dC : Nat → ClassId) (dI : Nat → Nat → Nat) (cA : Nat → ClassId) (A : Nat → Prop),
    z_C i d p R s m args c → z_N ad dC dI cA A s → (cells ≤ R.cells ∧ slots ≤ R.slots) → z_R i Q ad dC dI cA A p l e R s m args below meth c cells slots QS →
    ∀ (H : Heap) (locs : List Loc) (lsA : Array Slot), z_H ad dC dI cA A s σ H locs → z_loc ad i.2.2.1 ls lsA → W p l e R s m args below meth c H locs cells slots QS (F0 m pc lsA (st.map (z_cv ad)))
theorem z_At.mono {i : zM} {d pc : Nat} {ls st : List Value} {σ : zS} {Q Q' : Option Value → zS → Prop} (h : z_At i d pc ls st σ Q) (hq : ∀ rv σ', Q rv σ' → Q' rv σ') : z_At i d pc ls st σ Q' := by
  intro p l e R s m args below meth c cells slots QS ad dC dI cA A hC hN hc hR
  exact h p l e R s m args below meth c cells slots QS ad dC dI cA A hC hN hc (fun rv σ' H locs lsA pc' hQ hH hrt => hR rv σ' H locs lsA pc' (hq _ _ hQ) hH hrt)
theorem z_Ex.mono {j : zM} {d : Nat} {as : List Value} {σ : zS} {Q Q' : Option Value → zS → Prop} (h : z_Ex j d as σ Q) (hq : ∀ rv σ', Q rv σ' → Q' rv σ') : z_Ex j d as σ Q' :=
  fun Q'' hq' => h Q'' (fun rv σ' hh => hq' _ _ (hq _ _ hh))
/-! the world's list -/
theorem z_ws_at (ad : Nat → Nat) (cA : Nat → ClassId) (σ : zS) {r : Nat} (h : r < 63) : (z_ws ad cA σ)[r]? = some (ad r, z_cell ad cA σ r) := by
  unfold z_ws
  rw [List.getElem?_map, List.getElem?_range h]
  rfl
theorem z_shp_lt {r : Nat} {t n : Nat} {ks : List (Nat × Nat)} (h : z_shp r = (t, n, ks)) (ht : t < 9) : r < 63 := by
  by_cases hr : r < 63
  · exact hr
  · have h1 : z_tab.length = 63 := by decide +kernel
    have h2 : z_shp r = (9, 0, []) := by
      unfold z_shp
      rw [List.getD_eq_getElem?_getD, List.getElem?_eq_none (by omega)]
      rfl
    rw [h2] at h
    have := congrArg Prod.fst h
    simp at this
    omega
theorem z_cell_o {ad : Nat → Nat} {cA : Nat → ClassId} {σ : zS} {r ci : Nat} {ks : List (Nat × Nat)} (h : z_shp r = (0, ci, ks)) : z_cell ad cA σ r = .inr (ci, z_fs ad σ r ks) := by
  unfold z_cell
  rw [h]
  rfl
theorem z_cell_i {ad : Nat → Nat} {cA : Nat → ClassId} {σ : zS} {r n : Nat} {ks : List (Nat × Nat)} (h : z_shp r = (1, n, ks)) : z_cell ad cA σ r = .inl (cA 0, n, .inl (σ.1 r)) := by
  unfold z_cell
  rw [h]
  rfl
theorem z_cell_z {ad : Nat → Nat} {cA : Nat → ClassId} {σ : zS} {r n : Nat} {ks : List (Nat × Nat)} (h : z_shp r = (2, n, ks)) : z_cell ad cA σ r = .inl (cA 1, n, .inl (σ.1 r)) := by
  unfold z_cell
  rw [h]
  rfl
theorem z_cell_q {ad : Nat → Nat} {cA : Nat → ClassId} {σ : zS} {r n : Nat} {ks : List (Nat × Nat)} (h : z_shp r = (3, n, ks)) : z_cell ad cA σ r = .inl (cA 2, n, .inr (.inr (.inr (.inr (fun j => some (ad (14 + j))))))) := by
  unfold z_cell
  rw [h]
  rfl
theorem z_fs_at {ad : Nat → Nat} {σ : zS} {r j : Nat} {ks : List (Nat × Nat)} {k : Nat × Nat} (h : ks[j]? = some k) : (z_fs ad σ r ks)[j]? = some (z_fv ad σ r j k) := by
  unfold z_fs
  rw [List.getElem?_mapIdx, h]
  rfl
/-- a row of numbers, changed -/
def z_up (M : Nat → Nat → Int32) (r : Nat) (f : Nat → Int32) : Nat → Nat → Int32 := fun q => if q = r then f else M q
def z_upL (M : Nat → Nat → Int64) (r : Nat) (f : Nat → Int64) : Nat → Nat → Int64 := fun q => if q = r then f else M q
def z_st (σ : zS) (r j : Nat) (v : Int32) : zS := (z_up σ.1 r (upd (σ.1 r) j v), σ.2)
def z_stL (σ : zS) (r j : Nat) (v : Int64) : zS := (σ.1, z_upL σ.2 r (vp_updL (σ.2 r) j v))
theorem z_up_same (M : Nat → Nat → Int32) (r : Nat) (f : Nat → Int32) : z_up M r f r = f := by simp [z_up]
theorem z_up_ne (M : Nat → Nat → Int32) {r q : Nat} (f : Nat → Int32) (h : q ≠ r) : z_up M r f q = M q := by simp [z_up, h]
theorem z_upL_same (M : Nat → Nat → Int64) (r : Nat) (f : Nat → Int64) : z_upL M r f r = f := by simp [z_upL]
theorem z_upL_ne (M : Nat → Nat → Int64) {r q : Nat} (f : Nat → Int64) (h : q ≠ r) : z_upL M r f q = M q := by simp [z_upL, h]
theorem z_cell_same {ad : Nat → Nat} {cA : Nat → ClassId} {σ τ : zS} {r : Nat} (h1 : τ.1 r = σ.1 r) (h2 : τ.2 r = σ.2 r) : z_cell ad cA τ r = z_cell ad cA σ r := by
  unfold z_cell z_fs
  have hf : ∀ j k, z_fv ad τ r j k = z_fv ad σ r j k := fun j k => by unfold z_fv; rw [h1, h2]
  simp only [h1, hf]
theorem z_ws_set {ad : Nat → Nat} {cA : Nat → ClassId} {σ τ : zS} {r : Nat} (hr : r < 63) (h : ∀ q, q ≠ r → τ.1 q = σ.1 q ∧ τ.2 q = σ.2 q) : (z_ws ad cA σ).set r (ad r, z_cell ad cA τ r) = z_ws ad cA τ := by
  apply List.ext_getElem?
  intro k
  by_cases hk : k = r
  · subst hk
    rw [List.getElem?_set_self (by unfold z_ws; simpa using hr), z_ws_at ad cA τ hr]
  · rw [List.getElem?_set_ne (Ne.symm hk)]
    by_cases hk2 : k < 63
    · rw [z_ws_at ad cA τ hk2, z_ws_at ad cA σ hk2, z_cell_same (h k hk).1 (h k hk).2]
    · rw [List.getElem?_eq_none (by unfold z_ws; simpa using hk2), List.getElem?_eq_none (by unfold z_ws; simpa using hk2)]
theorem z_ws_D {ad : Nat → Nat} {cA : Nat → ClassId} {σ : zS} {A : Nat → Prop} (hi : z_inj ad) (hA : ∀ r, r < 63 → A (ad r)) : va_D A (z_ws ad cA σ) := by
  have key : ∀ (k : Nat) (q : Nat × va_E), (z_ws ad cA σ)[k]? = some q → k < 63 ∧ q.1 = ad k := by
    intro k q hq
    have hk : k < 63 := by
      have := (List.getElem?_eq_some_iff.mp hq).1
      unfold z_ws at this
      simpa using this
    rw [z_ws_at ad cA σ hk] at hq
    exact ⟨hk, by rw [← Option.some.inj hq]⟩
  refine ⟨fun i j p q hp hq hpq => ?_, fun k q hq => ?_⟩
  · obtain ⟨h1, h2⟩ := key i p hp
    obtain ⟨h3, h4⟩ := key j q hq
    exact hi i j (by omega) (by omega) (by rw [← h2, ← h4, hpq])
  · obtain ⟨h1, h2⟩ := key k q hq
    rw [h2]
    exact hA k h1
theorem z_H.mk {ad : Nat → Nat} {dC : Nat → ClassId} {dI : Nat → Nat → Nat} {cA : Nat → ClassId} {A : Nat → Prop} {s : State} {σ τ : zS} {H H1 : Heap} {locs locs1 : List Loc} (h : z_H ad dC dI cA A s σ H locs) (hP : va_P (dC, dI) vwCl (z_ws ad cA τ) H1) (hS : va_S A s.heap H1 locs1) (h63 : τ.1 63 = σ.1 63) (h64 : τ.1 64 = σ.1 64) : z_H ad dC dI cA A s τ H1 locs1 := by
  refine ⟨hP, ?_, hS⟩
  have := h.2.1
  unfold z_len at this ⊢
  rw [h63, h64]
  exact this
/-! words -/
theorem z_goodIn {ws : List Cond} (h : ∀ w ∈ ws, w ∈ z_T) : GoodIn z_T ws := fun w hw => ⟨h w hw, good_of_word (List.mem_filter.mp (h w hw)).2⟩
theorem z_uws {C : String} {T : u_T} {N : Nat} (h : ∀ w ∈ u_ws C T N, w ∈ lw_tbl) : ∀ w ∈ u_ws C T N, w ∈ z_T := fun w hw => by
  refine z_inT (h w hw) ?_
  unfold u_ws at hw
  obtain ⟨k, -, rfl⟩ := List.mem_map.mp hw
  unfold u_lay
  split <;> rfl
theorem z_bad : (lw_tbl.filter (fun w => match w with
  | .native _ | .arrayClass _ | .constant .. | .constantLong .. | .initialized _ | .code .. | .static _ | .instanceMethod _ | .methodLink .. | .fieldLink .. | .classLink .. | .instantiable .. => true
  | _ => false)).all goodWord = true := by decide +kernel
def z_LmV (j : zM) (n : Nat) : Prop := Cond.instanceMethod j.1 ∈ lw_tbl ∧ Cond.selects j.1.cls j.1 j.1 ∈ lw_tbl ∧ Cond.initialized j.1.cls ∈ lw_tbl ∧ Cond.code j.1 j.2.1 j.2.2.1 j.2.2.2 ∈ lw_tbl ∧ (j.1.cls ≠ "java/lang/invoke/MethodHandle" ∧ j.1.cls ≠ "java/lang/invoke/VarHandle" ∧ (parseMethodDescriptor j.1.desc).map (fun d => d.parameters.length) = some n) ∧ j.2.2.1 ≤ 21
def z_LmS (j : zM) (n : Nat) : Prop := Cond.static j.1 ∈ lw_tbl ∧ Cond.initialized j.1.cls ∈ lw_tbl ∧ Cond.code j.1 j.2.1 j.2.2.1 j.2.2.2 ∈ lw_tbl ∧ (j.1.cls ≠ "java/lang/invoke/MethodHandle" ∧ j.1.cls ≠ "java/lang/invoke/VarHandle" ∧ (parseMethodDescriptor j.1.desc).map (fun d => d.parameters.length) = some n) ∧ j.2.2.1 ≤ 21
def z_Lf (own : String) (idx ci j : Nat) : Prop := ∃ (C : String) (T : u_T) (N : Nat), vwCl[ci]? = some (C, T, N) ∧ (∀ w ∈ u_ws C T N, w ∈ lw_tbl) ∧ j < N ∧ (T j).1 = C ∧ (Cond.fieldLink own idx C (T j).2.1 (T j).2.2.1 ∈ lw_tbl ∨ ∃ host, Cond.fieldLinkNest own idx C (T j).2.1 (T j).2.2.1 host ∈ lw_tbl)
def z_Lp (own : String) (idx ci j : Nat) (ty : FieldType) : Prop := ∃ (C : String) (T : u_T) (N : Nat) (ty0 : Nat → FieldType), vwCl[ci]? = some (C, T, N) ∧ (∀ w ∈ u_ws C T N, w ∈ lw_tbl) ∧ j < N ∧ (T j).1 = C ∧ (Cond.fieldLink own idx C (T j).2.1 (T j).2.2.1 ∈ lw_tbl ∨ ∃ host, Cond.fieldLinkNest own idx C (T j).2.1 (T j).2.2.1 host ∈ lw_tbl) ∧ (∀ k, k < N → parseFieldDescriptor (T k).2.2.1 = some (ty0 k)) ∧ (∀ a, a < N → ∀ b, b < N → a ≠ b → (T a).2.1 ≠ (T b).2.1) ∧ (T j).2.2.2 = false ∧ parseFieldDescriptor (T j).2.2.1 = some ty
end
section
theorem iX0 : ∀ w ∈ u_ws RX0 TX0 9, w ∈ lw_tbl := by decide +kernel
theorem iX1 : ∀ w ∈ u_ws RX1 TX1 4, w ∈ lw_tbl := by decide +kernel
theorem iX2 : ∀ w ∈ u_ws RX2 TX2 16, w ∈ lw_tbl := by decide +kernel
theorem iX3 : ∀ w ∈ u_ws RX3 TX3 3, w ∈ lw_tbl := by decide +kernel
theorem iX4 : ∀ w ∈ u_ws RX4 TX4 9, w ∈ lw_tbl := by decide +kernel
theorem iX5 : ∀ w ∈ u_ws RX5 TX5 14, w ∈ lw_tbl := by decide +kernel
theorem iX6 : ∀ w ∈ u_ws RX6 TX6 38, w ∈ lw_tbl := by decide +kernel
theorem eX0_isThere : z_LmV mX0_isThere 0 := ⟨List.mem_of_getElem? (i := 394) (by decide +kernel), List.mem_of_getElem? (i := 395) (by decide +kernel), List.mem_of_getElem? (i := 67) (by decide +kernel), List.mem_of_getElem? (i := 396) (by decide +kernel), by decide +kernel, by decide⟩
theorem eX0_hasStage : z_LmV mX0_hasStage 1 := ⟨List.mem_of_getElem? (i := 378) (by decide +kernel), List.mem_of_getElem? (i := 379) (by decide +kernel), List.mem_of_getElem? (i := 67) (by decide +kernel), List.mem_of_getElem? (i := 380) (by decide +kernel), by decide +kernel, by decide⟩
theorem eX0_hasSpot : z_LmV mX0_hasSpot 1 := ⟨List.mem_of_getElem? (i := 436) (by decide +kernel), List.mem_of_getElem? (i := 437) (by decide +kernel), List.mem_of_getElem? (i := 67) (by decide +kernel), List.mem_of_getElem? (i := 438) (by decide +kernel), by decide +kernel, by decide⟩
theorem eX0_hasThing : z_LmV mX0_hasThing 1 := ⟨List.mem_of_getElem? (i := 386) (by decide +kernel), List.mem_of_getElem? (i := 387) (by decide +kernel), List.mem_of_getElem? (i := 67) (by decide +kernel), List.mem_of_getElem? (i := 388) (by decide +kernel), by decide +kernel, by decide⟩
theorem eX0_hasAllOf : z_LmV mX0_hasAllOf 1 := ⟨List.mem_of_getElem? (i := 410) (by decide +kernel), List.mem_of_getElem? (i := 411) (by decide +kernel), List.mem_of_getElem? (i := 67) (by decide +kernel), List.mem_of_getElem? (i := 412) (by decide +kernel), by decide +kernel, by decide⟩
theorem eX0_become : z_LmV mX0_become 1 := ⟨List.mem_of_getElem? (i := 366) (by decide +kernel), List.mem_of_getElem? (i := 367) (by decide +kernel), List.mem_of_getElem? (i := 67) (by decide +kernel), List.mem_of_getElem? (i := 368) (by decide +kernel), by decide +kernel, by decide⟩
theorem eX0_dropThing : z_LmV mX0_dropThing 1 := ⟨List.mem_of_getElem? (i := 598) (by decide +kernel), List.mem_of_getElem? (i := 599) (by decide +kernel), List.mem_of_getElem? (i := 67) (by decide +kernel), List.mem_of_getElem? (i := 600) (by decide +kernel), by decide +kernel, by decide⟩
theorem eX0_readText : z_LmV mX0_readText 3 := ⟨List.mem_of_getElem? (i := 339) (by decide +kernel), List.mem_of_getElem? (i := 340) (by decide +kernel), List.mem_of_getElem? (i := 67) (by decide +kernel), List.mem_of_getElem? (i := 341) (by decide +kernel), by decide +kernel, by decide⟩
theorem eX0_clear : z_LmV mX0_clear 0 := ⟨List.mem_of_getElem? (i := 344) (by decide +kernel), List.mem_of_getElem? (i := 1) (by decide +kernel), List.mem_of_getElem? (i := 67) (by decide +kernel), List.mem_of_getElem? (i := 345) (by decide +kernel), by decide +kernel, by decide⟩
theorem eX0_readCode : z_LmV mX0_readCode 2 := ⟨List.mem_of_getElem? (i := 348) (by decide +kernel), List.mem_of_getElem? (i := 2) (by decide +kernel), List.mem_of_getElem? (i := 67) (by decide +kernel), List.mem_of_getElem? (i := 349) (by decide +kernel), by decide +kernel, by decide⟩
theorem eX0_startPart : z_LmV mX0_startPart 1 := ⟨List.mem_of_getElem? (i := 352) (by decide +kernel), List.mem_of_getElem? (i := 3) (by decide +kernel), List.mem_of_getElem? (i := 67) (by decide +kernel), List.mem_of_getElem? (i := 353) (by decide +kernel), by decide +kernel, by decide⟩
theorem eX0_readKind : z_LmV mX0_readKind 1 := ⟨List.mem_of_getElem? (i := 356) (by decide +kernel), List.mem_of_getElem? (i := 4) (by decide +kernel), List.mem_of_getElem? (i := 67) (by decide +kernel), List.mem_of_getElem? (i := 357) (by decide +kernel), by decide +kernel, by decide⟩
theorem eX0_readDigit : z_LmV mX0_readDigit 2 := ⟨List.mem_of_getElem? (i := 363) (by decide +kernel), List.mem_of_getElem? (i := 5) (by decide +kernel), List.mem_of_getElem? (i := 67) (by decide +kernel), List.mem_of_getElem? (i := 364) (by decide +kernel), by decide +kernel, by decide⟩
theorem eX0_kindOfLetter : z_LmS mX0_kindOfLetter 1 := ⟨List.mem_of_getElem? (i := 359) (by decide +kernel), List.mem_of_getElem? (i := 67) (by decide +kernel), List.mem_of_getElem? (i := 360) (by decide +kernel), by decide +kernel, by decide⟩
theorem eX0_wellOnes : z_LmV mX0_wellOnes 1 := ⟨List.mem_of_getElem? (i := 414) (by decide +kernel), List.mem_of_getElem? (i := 415) (by decide +kernel), List.mem_of_getElem? (i := 67) (by decide +kernel), List.mem_of_getElem? (i := 416) (by decide +kernel), by decide +kernel, by decide⟩
theorem eX0_isWell : z_LmS mX0_isWell 3 := ⟨List.mem_of_getElem? (i := 425) (by decide +kernel), List.mem_of_getElem? (i := 67) (by decide +kernel), List.mem_of_getElem? (i := 426) (by decide +kernel), by decide +kernel, by decide⟩
theorem eX0_foodOnes : z_LmV mX0_foodOnes 0 := ⟨List.mem_of_getElem? (i := 419) (by decide +kernel), List.mem_of_getElem? (i := 7) (by decide +kernel), List.mem_of_getElem? (i := 67) (by decide +kernel), List.mem_of_getElem? (i := 420) (by decide +kernel), by decide +kernel, by decide⟩
theorem eX0_load : z_LmV mX0_load 1 := ⟨List.mem_of_getElem? (i := 459) (by decide +kernel), List.mem_of_getElem? (i := 460) (by decide +kernel), List.mem_of_getElem? (i := 67) (by decide +kernel), List.mem_of_getElem? (i := 461) (by decide +kernel), by decide +kernel, by decide⟩
theorem eX0_rainsIn : z_LmV mX0_rainsIn 1 := ⟨List.mem_of_getElem? (i := 471) (by decide +kernel), List.mem_of_getElem? (i := 472) (by decide +kernel), List.mem_of_getElem? (i := 67) (by decide +kernel), List.mem_of_getElem? (i := 473) (by decide +kernel), by decide +kernel, by decide⟩
theorem eX0_mudUnder : z_LmV mX0_mudUnder 2 := ⟨List.mem_of_getElem? (i := 479) (by decide +kernel), List.mem_of_getElem? (i := 480) (by decide +kernel), List.mem_of_getElem? (i := 67) (by decide +kernel), List.mem_of_getElem? (i := 481) (by decide +kernel), by decide +kernel, by decide⟩
theorem eX0_minutesOver : z_LmV mX0_minutesOver 3 := ⟨List.mem_of_getElem? (i := 475) (by decide +kernel), List.mem_of_getElem? (i := 476) (by decide +kernel), List.mem_of_getElem? (i := 67) (by decide +kernel), List.mem_of_getElem? (i := 477) (by decide +kernel), by decide +kernel, by decide⟩
theorem eX0_isIn : z_LmS mX0_isIn 2 := ⟨List.mem_of_getElem? (i := 422) (by decide +kernel), List.mem_of_getElem? (i := 67) (by decide +kernel), List.mem_of_getElem? (i := 423) (by decide +kernel), by decide +kernel, by decide⟩
theorem eX1_add : z_LmV mX1_add 3 := ⟨List.mem_of_getElem? (i := 610) (by decide +kernel), List.mem_of_getElem? (i := 611) (by decide +kernel), List.mem_of_getElem? (i := 68) (by decide +kernel), List.mem_of_getElem? (i := 612) (by decide +kernel), by decide +kernel, by decide⟩
theorem eX1_areSoBy : z_LmV mX1_areSoBy 1 := ⟨List.mem_of_getElem? (i := 626) (by decide +kernel), List.mem_of_getElem? (i := 627) (by decide +kernel), List.mem_of_getElem? (i := 68) (by decide +kernel), List.mem_of_getElem? (i := 628) (by decide +kernel), by decide +kernel, by decide⟩
theorem eX2_least : z_LmV mX2_least 2 := ⟨List.mem_of_getElem? (i := 519) (by decide +kernel), List.mem_of_getElem? (i := 520) (by decide +kernel), List.mem_of_getElem? (i := 70) (by decide +kernel), List.mem_of_getElem? (i := 521) (by decide +kernel), by decide +kernel, by decide⟩
theorem eX2_prepare : z_LmV mX2_prepare 2 := ⟨List.mem_of_getElem? (i := 524) (by decide +kernel), List.mem_of_getElem? (i := 13) (by decide +kernel), List.mem_of_getElem? (i := 70) (by decide +kernel), List.mem_of_getElem? (i := 525) (by decide +kernel), by decide +kernel, by decide⟩
theorem eX2_prepareSet : z_LmV mX2_prepareSet 3 := ⟨List.mem_of_getElem? (i := 529) (by decide +kernel), List.mem_of_getElem? (i := 14) (by decide +kernel), List.mem_of_getElem? (i := 70) (by decide +kernel), List.mem_of_getElem? (i := 530) (by decide +kernel), by decide +kernel, by decide⟩
theorem eX2_settleAll : z_LmV mX2_settleAll 1 := ⟨List.mem_of_getElem? (i := 547) (by decide +kernel), List.mem_of_getElem? (i := 17) (by decide +kernel), List.mem_of_getElem? (i := 70) (by decide +kernel), List.mem_of_getElem? (i := 548) (by decide +kernel), by decide +kernel, by decide⟩
theorem eX2_spread : z_LmV mX2_spread 2 := ⟨List.mem_of_getElem? (i := 551) (by decide +kernel), List.mem_of_getElem? (i := 18) (by decide +kernel), List.mem_of_getElem? (i := 70) (by decide +kernel), List.mem_of_getElem? (i := 552) (by decide +kernel), by decide +kernel, by decide⟩
theorem eX2_thingsHere : z_LmV mX2_thingsHere 1 := ⟨List.mem_of_getElem? (i := 555) (by decide +kernel), List.mem_of_getElem? (i := 19) (by decide +kernel), List.mem_of_getElem? (i := 70) (by decide +kernel), List.mem_of_getElem? (i := 556) (by decide +kernel), by decide +kernel, by decide⟩
theorem eX2_spotBehind : z_LmS mX2_spotBehind 2 := ⟨List.mem_of_getElem? (i := 562) (by decide +kernel), List.mem_of_getElem? (i := 70) (by decide +kernel), List.mem_of_getElem? (i := 563) (by decide +kernel), by decide +kernel, by decide⟩
theorem eX2_stateBehind : z_LmV mX2_stateBehind 3 := ⟨List.mem_of_getElem? (i := 559) (by decide +kernel), List.mem_of_getElem? (i := 20) (by decide +kernel), List.mem_of_getElem? (i := 70) (by decide +kernel), List.mem_of_getElem? (i := 560) (by decide +kernel), by decide +kernel, by decide⟩
theorem eX2_minutesOf : z_LmV mX2_minutesOf 3 := ⟨List.mem_of_getElem? (i := 566) (by decide +kernel), List.mem_of_getElem? (i := 21) (by decide +kernel), List.mem_of_getElem? (i := 70) (by decide +kernel), List.mem_of_getElem? (i := 567) (by decide +kernel), by decide +kernel, by decide⟩
theorem eX2_offer : z_LmV mX2_offer 2 := ⟨List.mem_of_getElem? (i := 538) (by decide +kernel), List.mem_of_getElem? (i := 15) (by decide +kernel), List.mem_of_getElem? (i := 70) (by decide +kernel), List.mem_of_getElem? (i := 539) (by decide +kernel), by decide +kernel, by decide⟩
theorem eX2_takeOut : z_LmV mX2_takeOut 1 := ⟨List.mem_of_getElem? (i := 542) (by decide +kernel), List.mem_of_getElem? (i := 16) (by decide +kernel), List.mem_of_getElem? (i := 70) (by decide +kernel), List.mem_of_getElem? (i := 543) (by decide +kernel), by decide +kernel, by decide⟩
theorem eX2_layRow : z_LmV mX2_layRow 1 := ⟨List.mem_of_getElem? (i := 570) (by decide +kernel), List.mem_of_getElem? (i := 571) (by decide +kernel), List.mem_of_getElem? (i := 70) (by decide +kernel), List.mem_of_getElem? (i := 572) (by decide +kernel), by decide +kernel, by decide⟩
theorem eX2_countTripsLeft : z_LmV mX2_countTripsLeft 0 := ⟨List.mem_of_getElem? (i := 575) (by decide +kernel), List.mem_of_getElem? (i := 22) (by decide +kernel), List.mem_of_getElem? (i := 70) (by decide +kernel), List.mem_of_getElem? (i := 576) (by decide +kernel), by decide +kernel, by decide⟩
theorem eX2_bestMove : z_LmV mX2_bestMove 1 := ⟨List.mem_of_getElem? (i := 579) (by decide +kernel), List.mem_of_getElem? (i := 23) (by decide +kernel), List.mem_of_getElem? (i := 70) (by decide +kernel), List.mem_of_getElem? (i := 580) (by decide +kernel), by decide +kernel, by decide⟩
theorem eX2_isInTime : z_LmV mX2_isInTime 3 := ⟨List.mem_of_getElem? (i := 583) (by decide +kernel), List.mem_of_getElem? (i := 24) (by decide +kernel), List.mem_of_getElem? (i := 70) (by decide +kernel), List.mem_of_getElem? (i := 584) (by decide +kernel), by decide +kernel, by decide⟩
theorem eX3_renew : z_LmV mX3_renew 2 := ⟨List.mem_of_getElem? (i := 639) (by decide +kernel), List.mem_of_getElem? (i := 640) (by decide +kernel), List.mem_of_getElem? (i := 71) (by decide +kernel), List.mem_of_getElem? (i := 641) (by decide +kernel), by decide +kernel, by decide⟩
theorem eX3_isNothing : z_LmV mX3_isNothing 0 := ⟨List.mem_of_getElem? (i := 327) (by decide +kernel), List.mem_of_getElem? (i := 328) (by decide +kernel), List.mem_of_getElem? (i := 71) (by decide +kernel), List.mem_of_getElem? (i := 329) (by decide +kernel), by decide +kernel, by decide⟩
theorem eX3_faultAs : z_LmV mX3_faultAs 1 := ⟨List.mem_of_getElem? (i := 323) (by decide +kernel), List.mem_of_getElem? (i := 324) (by decide +kernel), List.mem_of_getElem? (i := 71) (by decide +kernel), List.mem_of_getElem? (i := 325) (by decide +kernel), by decide +kernel, by decide⟩
theorem eX3_hasCell : z_LmV mX3_hasCell 1 := ⟨List.mem_of_getElem? (i := 653) (by decide +kernel), List.mem_of_getElem? (i := 654) (by decide +kernel), List.mem_of_getElem? (i := 71) (by decide +kernel), List.mem_of_getElem? (i := 655) (by decide +kernel), by decide +kernel, by decide⟩
theorem eX3_hasCells : z_LmV mX3_hasCells 2 := ⟨List.mem_of_getElem? (i := 335) (by decide +kernel), List.mem_of_getElem? (i := 336) (by decide +kernel), List.mem_of_getElem? (i := 71) (by decide +kernel), List.mem_of_getElem? (i := 337) (by decide +kernel), by decide +kernel, by decide⟩
theorem eX3_write : z_LmV mX3_write 2 := ⟨List.mem_of_getElem? (i := 657) (by decide +kernel), List.mem_of_getElem? (i := 658) (by decide +kernel), List.mem_of_getElem? (i := 71) (by decide +kernel), List.mem_of_getElem? (i := 659) (by decide +kernel), by decide +kernel, by decide⟩
theorem eX4_add : z_LmV mX4_add 2 := ⟨List.mem_of_getElem? (i := 441) (by decide +kernel), List.mem_of_getElem? (i := 442) (by decide +kernel), List.mem_of_getElem? (i := 69) (by decide +kernel), List.mem_of_getElem? (i := 443) (by decide +kernel), by decide +kernel, by decide⟩
theorem eX4_go : z_LmV mX4_go 1 := ⟨List.mem_of_getElem? (i := 445) (by decide +kernel), List.mem_of_getElem? (i := 446) (by decide +kernel), List.mem_of_getElem? (i := 69) (by decide +kernel), List.mem_of_getElem? (i := 447) (by decide +kernel), by decide +kernel, by decide⟩
theorem eX4_canGo : z_LmV mX4_canGo 2 := ⟨List.mem_of_getElem? (i := 453) (by decide +kernel), List.mem_of_getElem? (i := 9) (by decide +kernel), List.mem_of_getElem? (i := 69) (by decide +kernel), List.mem_of_getElem? (i := 454) (by decide +kernel), by decide +kernel, by decide⟩
theorem eX4_goOne : z_LmV mX4_goOne 2 := ⟨List.mem_of_getElem? (i := 465) (by decide +kernel), List.mem_of_getElem? (i := 10) (by decide +kernel), List.mem_of_getElem? (i := 69) (by decide +kernel), List.mem_of_getElem? (i := 466) (by decide +kernel), by decide +kernel, by decide⟩
theorem eX4_cutShare : z_LmV mX4_cutShare 0 := ⟨List.mem_of_getElem? (i := 486) (by decide +kernel), List.mem_of_getElem? (i := 11) (by decide +kernel), List.mem_of_getElem? (i := 69) (by decide +kernel), List.mem_of_getElem? (i := 487) (by decide +kernel), by decide +kernel, by decide⟩
theorem eX4_minutes : z_LmV mX4_minutes 0 := ⟨List.mem_of_getElem? (i := 489) (by decide +kernel), List.mem_of_getElem? (i := 490) (by decide +kernel), List.mem_of_getElem? (i := 69) (by decide +kernel), List.mem_of_getElem? (i := 491) (by decide +kernel), by decide +kernel, by decide⟩
theorem eX4_thingsAt : z_LmV mX4_thingsAt 1 := ⟨List.mem_of_getElem? (i := 493) (by decide +kernel), List.mem_of_getElem? (i := 494) (by decide +kernel), List.mem_of_getElem? (i := 69) (by decide +kernel), List.mem_of_getElem? (i := 495) (by decide +kernel), by decide +kernel, by decide⟩
theorem eX4_spotOf : z_LmV mX4_spotOf 2 := ⟨List.mem_of_getElem? (i := 501) (by decide +kernel), List.mem_of_getElem? (i := 502) (by decide +kernel), List.mem_of_getElem? (i := 69) (by decide +kernel), List.mem_of_getElem? (i := 503) (by decide +kernel), by decide +kernel, by decide⟩
theorem eX5_portage : z_LmV mX5_portage 4 := ⟨List.mem_of_getElem? (i := 313) (by decide +kernel), List.mem_of_getElem? (i := 314) (by decide +kernel), List.mem_of_getElem? (i := 66) (by decide +kernel), List.mem_of_getElem? (i := 315) (by decide +kernel), by decide +kernel, by decide⟩
theorem eX5_ofStage : z_LmV mX5_ofStage 2 := ⟨List.mem_of_getElem? (i := 374) (by decide +kernel), List.mem_of_getElem? (i := 375) (by decide +kernel), List.mem_of_getElem? (i := 66) (by decide +kernel), List.mem_of_getElem? (i := 376) (by decide +kernel), by decide +kernel, by decide⟩
theorem eX5_ofThing : z_LmV mX5_ofThing 2 := ⟨List.mem_of_getElem? (i := 382) (by decide +kernel), List.mem_of_getElem? (i := 383) (by decide +kernel), List.mem_of_getElem? (i := 66) (by decide +kernel), List.mem_of_getElem? (i := 384) (by decide +kernel), by decide +kernel, by decide⟩
theorem eX5_bears : z_LmV mX5_bears 1 := ⟨List.mem_of_getElem? (i := 390) (by decide +kernel), List.mem_of_getElem? (i := 391) (by decide +kernel), List.mem_of_getElem? (i := 66) (by decide +kernel), List.mem_of_getElem? (i := 392) (by decide +kernel), by decide +kernel, by decide⟩
theorem eX5_rain : z_LmV mX5_rain 1 := ⟨List.mem_of_getElem? (i := 398) (by decide +kernel), List.mem_of_getElem? (i := 399) (by decide +kernel), List.mem_of_getElem? (i := 66) (by decide +kernel), List.mem_of_getElem? (i := 400) (by decide +kernel), by decide +kernel, by decide⟩
theorem eX5_boards : z_LmV mX5_boards 2 := ⟨List.mem_of_getElem? (i := 402) (by decide +kernel), List.mem_of_getElem? (i := 403) (by decide +kernel), List.mem_of_getElem? (i := 66) (by decide +kernel), List.mem_of_getElem? (i := 404) (by decide +kernel), by decide +kernel, by decide⟩
theorem eX5_well : z_LmV mX5_well 1 := ⟨List.mem_of_getElem? (i := 406) (by decide +kernel), List.mem_of_getElem? (i := 407) (by decide +kernel), List.mem_of_getElem? (i := 66) (by decide +kernel), List.mem_of_getElem? (i := 408) (by decide +kernel), by decide +kernel, by decide⟩
theorem eX5_trips : z_LmV mX5_trips 5 := ⟨List.mem_of_getElem? (i := 428) (by decide +kernel), List.mem_of_getElem? (i := 429) (by decide +kernel), List.mem_of_getElem? (i := 66) (by decide +kernel), List.mem_of_getElem? (i := 430) (by decide +kernel), by decide +kernel, by decide⟩
theorem eX5_at : z_LmV mX5_at 6 := ⟨List.mem_of_getElem? (i := 497) (by decide +kernel), List.mem_of_getElem? (i := 498) (by decide +kernel), List.mem_of_getElem? (i := 66) (by decide +kernel), List.mem_of_getElem? (i := 499) (by decide +kernel), by decide +kernel, by decide⟩
theorem eX5_dry : z_LmV mX5_dry 5 := ⟨List.mem_of_getElem? (i := 506) (by decide +kernel), List.mem_of_getElem? (i := 507) (by decide +kernel), List.mem_of_getElem? (i := 66) (by decide +kernel), List.mem_of_getElem? (i := 508) (by decide +kernel), by decide +kernel, by decide⟩
theorem eX5_takeTrips : z_LmV mX5_takeTrips 5 := ⟨List.mem_of_getElem? (i := 433) (by decide +kernel), List.mem_of_getElem? (i := 8) (by decide +kernel), List.mem_of_getElem? (i := 66) (by decide +kernel), List.mem_of_getElem? (i := 434) (by decide +kernel), by decide +kernel, by decide⟩
theorem eX5_soonest : z_LmV mX5_soonest 0 := ⟨List.mem_of_getElem? (i := 511) (by decide +kernel), List.mem_of_getElem? (i := 512) (by decide +kernel), List.mem_of_getElem? (i := 66) (by decide +kernel), List.mem_of_getElem? (i := 513) (by decide +kernel), by decide +kernel, by decide⟩
theorem eX5_trip : z_LmV mX5_trip 2 := ⟨List.mem_of_getElem? (i := 586) (by decide +kernel), List.mem_of_getElem? (i := 587) (by decide +kernel), List.mem_of_getElem? (i := 66) (by decide +kernel), List.mem_of_getElem? (i := 588) (by decide +kernel), by decide +kernel, by decide⟩
theorem eX5_fewest : z_LmV mX5_fewest 0 := ⟨List.mem_of_getElem? (i := 590) (by decide +kernel), List.mem_of_getElem? (i := 591) (by decide +kernel), List.mem_of_getElem? (i := 66) (by decide +kernel), List.mem_of_getElem? (i := 592) (by decide +kernel), by decide +kernel, by decide⟩
theorem eX5_cost : z_LmV mX5_cost 1 := ⟨List.mem_of_getElem? (i := 594) (by decide +kernel), List.mem_of_getElem? (i := 595) (by decide +kernel), List.mem_of_getElem? (i := 66) (by decide +kernel), List.mem_of_getElem? (i := 596) (by decide +kernel), by decide +kernel, by decide⟩
theorem eX5_help : z_LmV mX5_help 1 := ⟨List.mem_of_getElem? (i := 602) (by decide +kernel), List.mem_of_getElem? (i := 603) (by decide +kernel), List.mem_of_getElem? (i := 66) (by decide +kernel), List.mem_of_getElem? (i := 604) (by decide +kernel), by decide +kernel, by decide⟩
theorem eX5_makePlan : z_LmV mX5_makePlan 0 := ⟨List.mem_of_getElem? (i := 516) (by decide +kernel), List.mem_of_getElem? (i := 12) (by decide +kernel), List.mem_of_getElem? (i := 66) (by decide +kernel), List.mem_of_getElem? (i := 517) (by decide +kernel), by decide +kernel, by decide⟩
theorem eX5_forgetSearches : z_LmV mX5_forgetSearches 0 := ⟨List.mem_of_getElem? (i := 371) (by decide +kernel), List.mem_of_getElem? (i := 6) (by decide +kernel), List.mem_of_getElem? (i := 66) (by decide +kernel), List.mem_of_getElem? (i := 372) (by decide +kernel), by decide +kernel, by decide⟩
theorem eX5_reading : z_LmV mX5_reading 3 := ⟨List.mem_of_getElem? (i := 606) (by decide +kernel), List.mem_of_getElem? (i := 607) (by decide +kernel), List.mem_of_getElem? (i := 66) (by decide +kernel), List.mem_of_getElem? (i := 608) (by decide +kernel), by decide +kernel, by decide⟩
theorem eX5_back : z_LmV mX5_back 1 := ⟨List.mem_of_getElem? (i := 614) (by decide +kernel), List.mem_of_getElem? (i := 615) (by decide +kernel), List.mem_of_getElem? (i := 66) (by decide +kernel), List.mem_of_getElem? (i := 616) (by decide +kernel), by decide +kernel, by decide⟩
theorem eX5_since : z_LmV mX5_since 4 := ⟨List.mem_of_getElem? (i := 618) (by decide +kernel), List.mem_of_getElem? (i := 619) (by decide +kernel), List.mem_of_getElem? (i := 66) (by decide +kernel), List.mem_of_getElem? (i := 620) (by decide +kernel), by decide +kernel, by decide⟩
theorem eX5_kinds : z_LmV mX5_kinds 5 := ⟨List.mem_of_getElem? (i := 631) (by decide +kernel), List.mem_of_getElem? (i := 632) (by decide +kernel), List.mem_of_getElem? (i := 66) (by decide +kernel), List.mem_of_getElem? (i := 633) (by decide +kernel), by decide +kernel, by decide⟩
theorem eX5_draftIsAsRead : z_LmV mX5_draftIsAsRead 0 := ⟨List.mem_of_getElem? (i := 623) (by decide +kernel), List.mem_of_getElem? (i := 25) (by decide +kernel), List.mem_of_getElem? (i := 66) (by decide +kernel), List.mem_of_getElem? (i := 624) (by decide +kernel), by decide +kernel, by decide⟩
theorem eX5_sheet : z_LmV mX5_sheet 3 := ⟨List.mem_of_getElem? (i := 635) (by decide +kernel), List.mem_of_getElem? (i := 636) (by decide +kernel), List.mem_of_getElem? (i := 66) (by decide +kernel), List.mem_of_getElem? (i := 637) (by decide +kernel), by decide +kernel, by decide⟩
theorem eX5_lose : z_LmV mX5_lose 1 := ⟨List.mem_of_getElem? (i := 644) (by decide +kernel), List.mem_of_getElem? (i := 645) (by decide +kernel), List.mem_of_getElem? (i := 66) (by decide +kernel), List.mem_of_getElem? (i := 646) (by decide +kernel), by decide +kernel, by decide⟩
theorem eX5_put : z_LmV mX5_put 3 := ⟨List.mem_of_getElem? (i := 649) (by decide +kernel), List.mem_of_getElem? (i := 650) (by decide +kernel), List.mem_of_getElem? (i := 66) (by decide +kernel), List.mem_of_getElem? (i := 651) (by decide +kernel), by decide +kernel, by decide⟩
theorem eX5_cell : z_LmV mX5_cell 3 := ⟨List.mem_of_getElem? (i := 661) (by decide +kernel), List.mem_of_getElem? (i := 662) (by decide +kernel), List.mem_of_getElem? (i := 66) (by decide +kernel), List.mem_of_getElem? (i := 663) (by decide +kernel), by decide +kernel, by decide⟩
theorem eX5_copy : z_LmV mX5_copy 5 := ⟨List.mem_of_getElem? (i := 665) (by decide +kernel), List.mem_of_getElem? (i := 666) (by decide +kernel), List.mem_of_getElem? (i := 66) (by decide +kernel), List.mem_of_getElem? (i := 667) (by decide +kernel), by decide +kernel, by decide⟩
theorem eX5_tell : z_LmV mX5_tell 1 := ⟨List.mem_of_getElem? (i := 672) (by decide +kernel), List.mem_of_getElem? (i := 673) (by decide +kernel), List.mem_of_getElem? (i := 66) (by decide +kernel), List.mem_of_getElem? (i := 674) (by decide +kernel), by decide +kernel, by decide⟩
theorem eX5_hail : z_LmV mX5_hail 1 := ⟨List.mem_of_getElem? (i := 692) (by decide +kernel), List.mem_of_getElem? (i := 693) (by decide +kernel), List.mem_of_getElem? (i := 66) (by decide +kernel), List.mem_of_getElem? (i := 694) (by decide +kernel), by decide +kernel, by decide⟩
theorem eX5_as : z_LmV mX5_as 2 := ⟨List.mem_of_getElem? (i := 696) (by decide +kernel), List.mem_of_getElem? (i := 697) (by decide +kernel), List.mem_of_getElem? (i := 66) (by decide +kernel), List.mem_of_getElem? (i := 698) (by decide +kernel), by decide +kernel, by decide⟩
theorem eX5_trace : z_LmV mX5_trace 0 := ⟨List.mem_of_getElem? (i := 700) (by decide +kernel), List.mem_of_getElem? (i := 701) (by decide +kernel), List.mem_of_getElem? (i := 66) (by decide +kernel), List.mem_of_getElem? (i := 702) (by decide +kernel), by decide +kernel, by decide⟩
theorem eX5_fault : z_LmV mX5_fault 0 := ⟨List.mem_of_getElem? (i := 704) (by decide +kernel), List.mem_of_getElem? (i := 705) (by decide +kernel), List.mem_of_getElem? (i := 66) (by decide +kernel), List.mem_of_getElem? (i := 706) (by decide +kernel), by decide +kernel, by decide⟩
theorem eX5_many : z_LmV mX5_many 1 := ⟨List.mem_of_getElem? (i := 708) (by decide +kernel), List.mem_of_getElem? (i := 709) (by decide +kernel), List.mem_of_getElem? (i := 66) (by decide +kernel), List.mem_of_getElem? (i := 710) (by decide +kernel), by decide +kernel, by decide⟩
theorem eX5_tellAsThing : z_LmV mX5_tellAsThing 1 := ⟨List.mem_of_getElem? (i := 689) (by decide +kernel), List.mem_of_getElem? (i := 29) (by decide +kernel), List.mem_of_getElem? (i := 66) (by decide +kernel), List.mem_of_getElem? (i := 690) (by decide +kernel), by decide +kernel, by decide⟩
theorem eX5_tellAsFood : z_LmV mX5_tellAsFood 1 := ⟨List.mem_of_getElem? (i := 685) (by decide +kernel), List.mem_of_getElem? (i := 28) (by decide +kernel), List.mem_of_getElem? (i := 66) (by decide +kernel), List.mem_of_getElem? (i := 686) (by decide +kernel), by decide +kernel, by decide⟩
theorem eX5_tellAsChild : z_LmV mX5_tellAsChild 1 := ⟨List.mem_of_getElem? (i := 677) (by decide +kernel), List.mem_of_getElem? (i := 26) (by decide +kernel), List.mem_of_getElem? (i := 66) (by decide +kernel), List.mem_of_getElem? (i := 678) (by decide +kernel), by decide +kernel, by decide⟩
theorem eX5_leave : z_LmV mX5_leave 1 := ⟨List.mem_of_getElem? (i := 681) (by decide +kernel), List.mem_of_getElem? (i := 27) (by decide +kernel), List.mem_of_getElem? (i := 66) (by decide +kernel), List.mem_of_getElem? (i := 682) (by decide +kernel), by decide +kernel, by decide⟩
theorem eX5_faulted : z_LmV mX5_faulted 1 := ⟨List.mem_of_getElem? (i := 332) (by decide +kernel), List.mem_of_getElem? (i := 0) (by decide +kernel), List.mem_of_getElem? (i := 66) (by decide +kernel), List.mem_of_getElem? (i := 333) (by decide +kernel), by decide +kernel, by decide⟩
theorem eX5_isSheet : z_LmS mX5_isSheet 1 := ⟨List.mem_of_getElem? (i := 317) (by decide +kernel), List.mem_of_getElem? (i := 66) (by decide +kernel), List.mem_of_getElem? (i := 318) (by decide +kernel), by decide +kernel, by decide⟩
theorem eX5_isLane : z_LmS mX5_isLane 1 := ⟨List.mem_of_getElem? (i := 320) (by decide +kernel), List.mem_of_getElem? (i := 66) (by decide +kernel), List.mem_of_getElem? (i := 321) (by decide +kernel), by decide +kernel, by decide⟩
theorem eX6_fails : z_LmV mX6_fails 1 := ⟨List.mem_of_getElem? (i := 851) (by decide +kernel), List.mem_of_getElem? (i := 31) (by decide +kernel), List.mem_of_getElem? (i := 72) (by decide +kernel), List.mem_of_getElem? (i := 852) (by decide +kernel), by decide +kernel, by decide⟩
theorem eX6_lost : z_LmV mX6_lost 1 := ⟨List.mem_of_getElem? (i := 1078) (by decide +kernel), List.mem_of_getElem? (i := 63) (by decide +kernel), List.mem_of_getElem? (i := 72) (by decide +kernel), List.mem_of_getElem? (i := 1079) (by decide +kernel), by decide +kernel, by decide⟩
theorem eX6_within : z_LmS mX6_within 3 := ⟨List.mem_of_getElem? (i := 840) (by decide +kernel), List.mem_of_getElem? (i := 72) (by decide +kernel), List.mem_of_getElem? (i := 841) (by decide +kernel), by decide +kernel, by decide⟩
theorem eX6_isSheet : z_LmS mX6_isSheet 1 := ⟨List.mem_of_getElem? (i := 837) (by decide +kernel), List.mem_of_getElem? (i := 72) (by decide +kernel), List.mem_of_getElem? (i := 838) (by decide +kernel), by decide +kernel, by decide⟩
theorem eX6_isSort : z_LmS mX6_isSort 1 := ⟨List.mem_of_getElem? (i := 843) (by decide +kernel), List.mem_of_getElem? (i := 72) (by decide +kernel), List.mem_of_getElem? (i := 844) (by decide +kernel), by decide +kernel, by decide⟩
theorem eX6_against : z_LmV mX6_against 4 := ⟨List.mem_of_getElem? (i := 847) (by decide +kernel), List.mem_of_getElem? (i := 30) (by decide +kernel), List.mem_of_getElem? (i := 72) (by decide +kernel), List.mem_of_getElem? (i := 848) (by decide +kernel), by decide +kernel, by decide⟩
theorem eX6_isStage : z_LmV mX6_isStage 1 := ⟨List.mem_of_getElem? (i := 879) (by decide +kernel), List.mem_of_getElem? (i := 37) (by decide +kernel), List.mem_of_getElem? (i := 72) (by decide +kernel), List.mem_of_getElem? (i := 880) (by decide +kernel), by decide +kernel, by decide⟩
theorem eX6_isThing : z_LmV mX6_isThing 1 := ⟨List.mem_of_getElem? (i := 887) (by decide +kernel), List.mem_of_getElem? (i := 38) (by decide +kernel), List.mem_of_getElem? (i := 72) (by decide +kernel), List.mem_of_getElem? (i := 888) (by decide +kernel), by decide +kernel, by decide⟩
theorem eX6_isSpot : z_LmV mX6_isSpot 1 := ⟨List.mem_of_getElem? (i := 930) (by decide +kernel), List.mem_of_getElem? (i := 43) (by decide +kernel), List.mem_of_getElem? (i := 72) (by decide +kernel), List.mem_of_getElem? (i := 931) (by decide +kernel), by decide +kernel, by decide⟩
theorem eX6_allThings : z_LmV mX6_allThings 0 := ⟨List.mem_of_getElem? (i := 907) (by decide +kernel), List.mem_of_getElem? (i := 39) (by decide +kernel), List.mem_of_getElem? (i := 72) (by decide +kernel), List.mem_of_getElem? (i := 908) (by decide +kernel), by decide +kernel, by decide⟩
theorem eX6_digit : z_LmV mX6_digit 3 := ⟨List.mem_of_getElem? (i := 863) (by decide +kernel), List.mem_of_getElem? (i := 34) (by decide +kernel), List.mem_of_getElem? (i := 72) (by decide +kernel), List.mem_of_getElem? (i := 864) (by decide +kernel), by decide +kernel, by decide⟩
theorem eX6_isSign : z_LmV mX6_isSign 2 := ⟨List.mem_of_getElem? (i := 859) (by decide +kernel), List.mem_of_getElem? (i := 33) (by decide +kernel), List.mem_of_getElem? (i := 72) (by decide +kernel), List.mem_of_getElem? (i := 860) (by decide +kernel), by decide +kernel, by decide⟩
theorem eX6_portage : z_LmV mX6_portage 4 := ⟨List.mem_of_getElem? (i := 833) (by decide +kernel), List.mem_of_getElem? (i := 834) (by decide +kernel), List.mem_of_getElem? (i := 72) (by decide +kernel), List.mem_of_getElem? (i := 835) (by decide +kernel), by decide +kernel, by decide⟩
theorem eX6_readAll : z_LmV mX6_readAll 1 := ⟨List.mem_of_getElem? (i := 855) (by decide +kernel), List.mem_of_getElem? (i := 32) (by decide +kernel), List.mem_of_getElem? (i := 72) (by decide +kernel), List.mem_of_getElem? (i := 856) (by decide +kernel), by decide +kernel, by decide⟩
theorem eX6_readOneStage : z_LmV mX6_readOneStage 1 := ⟨List.mem_of_getElem? (i := 867) (by decide +kernel), List.mem_of_getElem? (i := 35) (by decide +kernel), List.mem_of_getElem? (i := 72) (by decide +kernel), List.mem_of_getElem? (i := 868) (by decide +kernel), by decide +kernel, by decide⟩
theorem eX6_readOneThing : z_LmV mX6_readOneThing 1 := ⟨List.mem_of_getElem? (i := 871) (by decide +kernel), List.mem_of_getElem? (i := 36) (by decide +kernel), List.mem_of_getElem? (i := 72) (by decide +kernel), List.mem_of_getElem? (i := 872) (by decide +kernel), by decide +kernel, by decide⟩
theorem eX6_ofStage : z_LmV mX6_ofStage 2 := ⟨List.mem_of_getElem? (i := 874) (by decide +kernel), List.mem_of_getElem? (i := 875) (by decide +kernel), List.mem_of_getElem? (i := 72) (by decide +kernel), List.mem_of_getElem? (i := 876) (by decide +kernel), by decide +kernel, by decide⟩
theorem eX6_ofThing : z_LmV mX6_ofThing 2 := ⟨List.mem_of_getElem? (i := 882) (by decide +kernel), List.mem_of_getElem? (i := 883) (by decide +kernel), List.mem_of_getElem? (i := 72) (by decide +kernel), List.mem_of_getElem? (i := 884) (by decide +kernel), by decide +kernel, by decide⟩
theorem eX6_bears : z_LmV mX6_bears 1 := ⟨List.mem_of_getElem? (i := 890) (by decide +kernel), List.mem_of_getElem? (i := 891) (by decide +kernel), List.mem_of_getElem? (i := 72) (by decide +kernel), List.mem_of_getElem? (i := 892) (by decide +kernel), by decide +kernel, by decide⟩
theorem eX6_rain : z_LmV mX6_rain 1 := ⟨List.mem_of_getElem? (i := 894) (by decide +kernel), List.mem_of_getElem? (i := 895) (by decide +kernel), List.mem_of_getElem? (i := 72) (by decide +kernel), List.mem_of_getElem? (i := 896) (by decide +kernel), by decide +kernel, by decide⟩
theorem eX6_boards : z_LmV mX6_boards 2 := ⟨List.mem_of_getElem? (i := 898) (by decide +kernel), List.mem_of_getElem? (i := 899) (by decide +kernel), List.mem_of_getElem? (i := 72) (by decide +kernel), List.mem_of_getElem? (i := 900) (by decide +kernel), by decide +kernel, by decide⟩
theorem eX6_isWell : z_LmV mX6_isWell 2 := ⟨List.mem_of_getElem? (i := 915) (by decide +kernel), List.mem_of_getElem? (i := 41) (by decide +kernel), List.mem_of_getElem? (i := 72) (by decide +kernel), List.mem_of_getElem? (i := 916) (by decide +kernel), by decide +kernel, by decide⟩
theorem eX6_wellOf : z_LmV mX6_wellOf 1 := ⟨List.mem_of_getElem? (i := 911) (by decide +kernel), List.mem_of_getElem? (i := 40) (by decide +kernel), List.mem_of_getElem? (i := 72) (by decide +kernel), List.mem_of_getElem? (i := 912) (by decide +kernel), by decide +kernel, by decide⟩
theorem eX6_well : z_LmV mX6_well 1 := ⟨List.mem_of_getElem? (i := 902) (by decide +kernel), List.mem_of_getElem? (i := 903) (by decide +kernel), List.mem_of_getElem? (i := 72) (by decide +kernel), List.mem_of_getElem? (i := 904) (by decide +kernel), by decide +kernel, by decide⟩
theorem eX6_thingsAt : z_LmV mX6_thingsAt 2 := ⟨List.mem_of_getElem? (i := 942) (by decide +kernel), List.mem_of_getElem? (i := 46) (by decide +kernel), List.mem_of_getElem? (i := 72) (by decide +kernel), List.mem_of_getElem? (i := 943) (by decide +kernel), by decide +kernel, by decide⟩
theorem eX6_poundsOf : z_LmV mX6_poundsOf 1 := ⟨List.mem_of_getElem? (i := 946) (by decide +kernel), List.mem_of_getElem? (i := 47) (by decide +kernel), List.mem_of_getElem? (i := 72) (by decide +kernel), List.mem_of_getElem? (i := 947) (by decide +kernel), by decide +kernel, by decide⟩
theorem eX6_mayGo : z_LmV mX6_mayGo 3 := ⟨List.mem_of_getElem? (i := 938) (by decide +kernel), List.mem_of_getElem? (i := 45) (by decide +kernel), List.mem_of_getElem? (i := 72) (by decide +kernel), List.mem_of_getElem? (i := 939) (by decide +kernel), by decide +kernel, by decide⟩
theorem eX6_gone : z_LmS mX6_gone 3 := ⟨List.mem_of_getElem? (i := 962) (by decide +kernel), List.mem_of_getElem? (i := 72) (by decide +kernel), List.mem_of_getElem? (i := 963) (by decide +kernel), by decide +kernel, by decide⟩
theorem eX6_stageOf : z_LmV mX6_stageOf 2 := ⟨List.mem_of_getElem? (i := 950) (by decide +kernel), List.mem_of_getElem? (i := 48) (by decide +kernel), List.mem_of_getElem? (i := 72) (by decide +kernel), List.mem_of_getElem? (i := 951) (by decide +kernel), by decide +kernel, by decide⟩
theorem eX6_mudOf : z_LmV mX6_mudOf 2 := ⟨List.mem_of_getElem? (i := 954) (by decide +kernel), List.mem_of_getElem? (i := 49) (by decide +kernel), List.mem_of_getElem? (i := 72) (by decide +kernel), List.mem_of_getElem? (i := 955) (by decide +kernel), by decide +kernel, by decide⟩
theorem eX6_takes : z_LmV mX6_takes 4 := ⟨List.mem_of_getElem? (i := 959) (by decide +kernel), List.mem_of_getElem? (i := 50) (by decide +kernel), List.mem_of_getElem? (i := 72) (by decide +kernel), List.mem_of_getElem? (i := 960) (by decide +kernel), by decide +kernel, by decide⟩
theorem eX6_layTrips : z_LmV mX6_layTrips 4 := ⟨List.mem_of_getElem? (i := 926) (by decide +kernel), List.mem_of_getElem? (i := 42) (by decide +kernel), List.mem_of_getElem? (i := 72) (by decide +kernel), List.mem_of_getElem? (i := 927) (by decide +kernel), by decide +kernel, by decide⟩
theorem eX6_go : z_LmV mX6_go 0 := ⟨List.mem_of_getElem? (i := 934) (by decide +kernel), List.mem_of_getElem? (i := 44) (by decide +kernel), List.mem_of_getElem? (i := 72) (by decide +kernel), List.mem_of_getElem? (i := 935) (by decide +kernel), by decide +kernel, by decide⟩
theorem eX6_arePairs : z_LmS mX6_arePairs 2 := ⟨List.mem_of_getElem? (i := 922) (by decide +kernel), List.mem_of_getElem? (i := 72) (by decide +kernel), List.mem_of_getElem? (i := 923) (by decide +kernel), by decide +kernel, by decide⟩
theorem eX6_trips : z_LmV mX6_trips 5 := ⟨List.mem_of_getElem? (i := 918) (by decide +kernel), List.mem_of_getElem? (i := 919) (by decide +kernel), List.mem_of_getElem? (i := 72) (by decide +kernel), List.mem_of_getElem? (i := 920) (by decide +kernel), by decide +kernel, by decide⟩
theorem eX6_spotAt : z_LmV mX6_spotAt 2 := ⟨List.mem_of_getElem? (i := 970) (by decide +kernel), List.mem_of_getElem? (i := 51) (by decide +kernel), List.mem_of_getElem? (i := 72) (by decide +kernel), List.mem_of_getElem? (i := 971) (by decide +kernel), by decide +kernel, by decide⟩
theorem eX6_at : z_LmV mX6_at 6 := ⟨List.mem_of_getElem? (i := 965) (by decide +kernel), List.mem_of_getElem? (i := 966) (by decide +kernel), List.mem_of_getElem? (i := 72) (by decide +kernel), List.mem_of_getElem? (i := 967) (by decide +kernel), by decide +kernel, by decide⟩
theorem eX6_inLeastTerms : z_LmS mX6_inLeastTerms 3 := ⟨List.mem_of_getElem? (i := 978) (by decide +kernel), List.mem_of_getElem? (i := 72) (by decide +kernel), List.mem_of_getElem? (i := 979) (by decide +kernel), by decide +kernel, by decide⟩
theorem eX6_dry : z_LmV mX6_dry 5 := ⟨List.mem_of_getElem? (i := 973) (by decide +kernel), List.mem_of_getElem? (i := 974) (by decide +kernel), List.mem_of_getElem? (i := 72) (by decide +kernel), List.mem_of_getElem? (i := 975) (by decide +kernel), by decide +kernel, by decide⟩
theorem eX6_end : z_LmV mX6_end 0 := ⟨List.mem_of_getElem? (i := 998) (by decide +kernel), List.mem_of_getElem? (i := 55) (by decide +kernel), List.mem_of_getElem? (i := 72) (by decide +kernel), List.mem_of_getElem? (i := 999) (by decide +kernel), by decide +kernel, by decide⟩
theorem eX6_relax : z_LmV mX6_relax 3 := ⟨List.mem_of_getElem? (i := 994) (by decide +kernel), List.mem_of_getElem? (i := 54) (by decide +kernel), List.mem_of_getElem? (i := 72) (by decide +kernel), List.mem_of_getElem? (i := 995) (by decide +kernel), by decide +kernel, by decide⟩
theorem eX6_laySoonest : z_LmV mX6_laySoonest 0 := ⟨List.mem_of_getElem? (i := 990) (by decide +kernel), List.mem_of_getElem? (i := 53) (by decide +kernel), List.mem_of_getElem? (i := 72) (by decide +kernel), List.mem_of_getElem? (i := 991) (by decide +kernel), by decide +kernel, by decide⟩
theorem eX6_soonestNow : z_LmV mX6_soonestNow 0 := ⟨List.mem_of_getElem? (i := 986) (by decide +kernel), List.mem_of_getElem? (i := 52) (by decide +kernel), List.mem_of_getElem? (i := 72) (by decide +kernel), List.mem_of_getElem? (i := 987) (by decide +kernel), by decide +kernel, by decide⟩
theorem eX6_soonest : z_LmV mX6_soonest 0 := ⟨List.mem_of_getElem? (i := 981) (by decide +kernel), List.mem_of_getElem? (i := 982) (by decide +kernel), List.mem_of_getElem? (i := 72) (by decide +kernel), List.mem_of_getElem? (i := 983) (by decide +kernel), by decide +kernel, by decide⟩
theorem eX6_isTight : z_LmV mX6_isTight 3 := ⟨List.mem_of_getElem? (i := 1014) (by decide +kernel), List.mem_of_getElem? (i := 58) (by decide +kernel), List.mem_of_getElem? (i := 72) (by decide +kernel), List.mem_of_getElem? (i := 1015) (by decide +kernel), by decide +kernel, by decide⟩
theorem eX6_shorten : z_LmV mX6_shorten 3 := ⟨List.mem_of_getElem? (i := 1010) (by decide +kernel), List.mem_of_getElem? (i := 57) (by decide +kernel), List.mem_of_getElem? (i := 72) (by decide +kernel), List.mem_of_getElem? (i := 1011) (by decide +kernel), by decide +kernel, by decide⟩
theorem eX6_layLeft : z_LmV mX6_layLeft 0 := ⟨List.mem_of_getElem? (i := 1006) (by decide +kernel), List.mem_of_getElem? (i := 56) (by decide +kernel), List.mem_of_getElem? (i := 72) (by decide +kernel), List.mem_of_getElem? (i := 1007) (by decide +kernel), by decide +kernel, by decide⟩
theorem eX6_isNext : z_LmV mX6_isNext 3 := ⟨List.mem_of_getElem? (i := 1022) (by decide +kernel), List.mem_of_getElem? (i := 60) (by decide +kernel), List.mem_of_getElem? (i := 72) (by decide +kernel), List.mem_of_getElem? (i := 1023) (by decide +kernel), by decide +kernel, by decide⟩
theorem eX6_findNext : z_LmV mX6_findNext 1 := ⟨List.mem_of_getElem? (i := 1018) (by decide +kernel), List.mem_of_getElem? (i := 59) (by decide +kernel), List.mem_of_getElem? (i := 72) (by decide +kernel), List.mem_of_getElem? (i := 1019) (by decide +kernel), by decide +kernel, by decide⟩
theorem eX6_trip : z_LmV mX6_trip 2 := ⟨List.mem_of_getElem? (i := 1001) (by decide +kernel), List.mem_of_getElem? (i := 1002) (by decide +kernel), List.mem_of_getElem? (i := 72) (by decide +kernel), List.mem_of_getElem? (i := 1003) (by decide +kernel), by decide +kernel, by decide⟩
theorem eX6_spread : z_LmV mX6_spread 3 := ⟨List.mem_of_getElem? (i := 1030) (by decide +kernel), List.mem_of_getElem? (i := 61) (by decide +kernel), List.mem_of_getElem? (i := 72) (by decide +kernel), List.mem_of_getElem? (i := 1031) (by decide +kernel), by decide +kernel, by decide⟩
theorem eX6_fewest : z_LmV mX6_fewest 0 := ⟨List.mem_of_getElem? (i := 1025) (by decide +kernel), List.mem_of_getElem? (i := 1026) (by decide +kernel), List.mem_of_getElem? (i := 72) (by decide +kernel), List.mem_of_getElem? (i := 1027) (by decide +kernel), by decide +kernel, by decide⟩
theorem eX6_cost : z_LmV mX6_cost 1 := ⟨List.mem_of_getElem? (i := 1033) (by decide +kernel), List.mem_of_getElem? (i := 1034) (by decide +kernel), List.mem_of_getElem? (i := 72) (by decide +kernel), List.mem_of_getElem? (i := 1035) (by decide +kernel), by decide +kernel, by decide⟩
theorem eX6_help : z_LmV mX6_help 1 := ⟨List.mem_of_getElem? (i := 1037) (by decide +kernel), List.mem_of_getElem? (i := 1038) (by decide +kernel), List.mem_of_getElem? (i := 72) (by decide +kernel), List.mem_of_getElem? (i := 1039) (by decide +kernel), by decide +kernel, by decide⟩
theorem eX6_reading : z_LmV mX6_reading 3 := ⟨List.mem_of_getElem? (i := 1041) (by decide +kernel), List.mem_of_getElem? (i := 1042) (by decide +kernel), List.mem_of_getElem? (i := 72) (by decide +kernel), List.mem_of_getElem? (i := 1043) (by decide +kernel), by decide +kernel, by decide⟩
theorem eX6_back : z_LmV mX6_back 1 := ⟨List.mem_of_getElem? (i := 1045) (by decide +kernel), List.mem_of_getElem? (i := 1046) (by decide +kernel), List.mem_of_getElem? (i := 72) (by decide +kernel), List.mem_of_getElem? (i := 1047) (by decide +kernel), by decide +kernel, by decide⟩
theorem eX6_areSo : z_LmV mX6_areSo 0 := ⟨List.mem_of_getElem? (i := 1054) (by decide +kernel), List.mem_of_getElem? (i := 62) (by decide +kernel), List.mem_of_getElem? (i := 72) (by decide +kernel), List.mem_of_getElem? (i := 1055) (by decide +kernel), by decide +kernel, by decide⟩
theorem eX6_since : z_LmV mX6_since 4 := ⟨List.mem_of_getElem? (i := 1049) (by decide +kernel), List.mem_of_getElem? (i := 1050) (by decide +kernel), List.mem_of_getElem? (i := 72) (by decide +kernel), List.mem_of_getElem? (i := 1051) (by decide +kernel), by decide +kernel, by decide⟩
theorem eX6_kinds : z_LmV mX6_kinds 5 := ⟨List.mem_of_getElem? (i := 1057) (by decide +kernel), List.mem_of_getElem? (i := 1058) (by decide +kernel), List.mem_of_getElem? (i := 72) (by decide +kernel), List.mem_of_getElem? (i := 1059) (by decide +kernel), by decide +kernel, by decide⟩
theorem eX6_sheet : z_LmV mX6_sheet 3 := ⟨List.mem_of_getElem? (i := 1061) (by decide +kernel), List.mem_of_getElem? (i := 1062) (by decide +kernel), List.mem_of_getElem? (i := 72) (by decide +kernel), List.mem_of_getElem? (i := 1063) (by decide +kernel), by decide +kernel, by decide⟩
theorem eX6_lose : z_LmV mX6_lose 1 := ⟨List.mem_of_getElem? (i := 1065) (by decide +kernel), List.mem_of_getElem? (i := 1066) (by decide +kernel), List.mem_of_getElem? (i := 72) (by decide +kernel), List.mem_of_getElem? (i := 1067) (by decide +kernel), by decide +kernel, by decide⟩
theorem eX6_put : z_LmV mX6_put 3 := ⟨List.mem_of_getElem? (i := 1069) (by decide +kernel), List.mem_of_getElem? (i := 1070) (by decide +kernel), List.mem_of_getElem? (i := 72) (by decide +kernel), List.mem_of_getElem? (i := 1071) (by decide +kernel), by decide +kernel, by decide⟩
theorem eX6_cell : z_LmV mX6_cell 3 := ⟨List.mem_of_getElem? (i := 1073) (by decide +kernel), List.mem_of_getElem? (i := 1074) (by decide +kernel), List.mem_of_getElem? (i := 72) (by decide +kernel), List.mem_of_getElem? (i := 1075) (by decide +kernel), by decide +kernel, by decide⟩
theorem eX6_copy : z_LmV mX6_copy 5 := ⟨List.mem_of_getElem? (i := 1081) (by decide +kernel), List.mem_of_getElem? (i := 1082) (by decide +kernel), List.mem_of_getElem? (i := 72) (by decide +kernel), List.mem_of_getElem? (i := 1083) (by decide +kernel), by decide +kernel, by decide⟩
theorem eX6_begins : z_LmV mX6_begins 1 := ⟨List.mem_of_getElem? (i := 1090) (by decide +kernel), List.mem_of_getElem? (i := 64) (by decide +kernel), List.mem_of_getElem? (i := 72) (by decide +kernel), List.mem_of_getElem? (i := 1091) (by decide +kernel), by decide +kernel, by decide⟩
theorem eX6_tell : z_LmV mX6_tell 1 := ⟨List.mem_of_getElem? (i := 1085) (by decide +kernel), List.mem_of_getElem? (i := 1086) (by decide +kernel), List.mem_of_getElem? (i := 72) (by decide +kernel), List.mem_of_getElem? (i := 1087) (by decide +kernel), by decide +kernel, by decide⟩
theorem eX6_hail : z_LmV mX6_hail 1 := ⟨List.mem_of_getElem? (i := 1093) (by decide +kernel), List.mem_of_getElem? (i := 1094) (by decide +kernel), List.mem_of_getElem? (i := 72) (by decide +kernel), List.mem_of_getElem? (i := 1095) (by decide +kernel), by decide +kernel, by decide⟩
theorem eX6_as : z_LmV mX6_as 2 := ⟨List.mem_of_getElem? (i := 1097) (by decide +kernel), List.mem_of_getElem? (i := 1098) (by decide +kernel), List.mem_of_getElem? (i := 72) (by decide +kernel), List.mem_of_getElem? (i := 1099) (by decide +kernel), by decide +kernel, by decide⟩
theorem eX6_trace : z_LmV mX6_trace 0 := ⟨List.mem_of_getElem? (i := 1101) (by decide +kernel), List.mem_of_getElem? (i := 1102) (by decide +kernel), List.mem_of_getElem? (i := 72) (by decide +kernel), List.mem_of_getElem? (i := 1103) (by decide +kernel), by decide +kernel, by decide⟩
theorem eX6_fault : z_LmV mX6_fault 0 := ⟨List.mem_of_getElem? (i := 1105) (by decide +kernel), List.mem_of_getElem? (i := 1106) (by decide +kernel), List.mem_of_getElem? (i := 72) (by decide +kernel), List.mem_of_getElem? (i := 1107) (by decide +kernel), by decide +kernel, by decide⟩
theorem eX6_many : z_LmV mX6_many 1 := ⟨List.mem_of_getElem? (i := 1109) (by decide +kernel), List.mem_of_getElem? (i := 1110) (by decide +kernel), List.mem_of_getElem? (i := 72) (by decide +kernel), List.mem_of_getElem? (i := 1111) (by decide +kernel), by decide +kernel, by decide⟩
theorem eJ9_abs_0f7a4 : z_LmS mJ9_abs_0f7a4 1 := ⟨List.mem_of_getElem? (i := 456) (by decide +kernel), List.mem_of_getElem? (i := 74) (by decide +kernel), List.mem_of_getElem? (i := 457) (by decide +kernel), by decide +kernel, by decide⟩
theorem eJ9_min_7cf53 : z_LmS mJ9_min_7cf53 2 := ⟨List.mem_of_getElem? (i := 468) (by decide +kernel), List.mem_of_getElem? (i := 74) (by decide +kernel), List.mem_of_getElem? (i := 469) (by decide +kernel), by decide +kernel, by decide⟩
theorem eJ7_fill_53178 : z_LmS mJ7_fill_53178 2 := ⟨List.mem_of_getElem? (i := 449) (by decide +kernel), List.mem_of_getElem? (i := 73) (by decide +kernel), List.mem_of_getElem? (i := 450) (by decide +kernel), by decide +kernel, by decide⟩
theorem kL_9 : Cond.methodLink RL 9 yX5_init ∈ lw_tbl := List.mem_of_getElem? (i := 78) (by decide +kernel)
theorem kL_13 : Cond.methodLink RL 13 yX5_portage ∈ lw_tbl := List.mem_of_getElem? (i := 312) (by decide +kernel)
theorem kX5_57 : Cond.methodLink RX5 57 yX5_isSheet ∈ lw_tbl := List.mem_of_getElem? (i := 316) (by decide +kernel)
theorem kX5_61 : Cond.methodLink RX5 61 yX5_isLane ∈ lw_tbl := List.mem_of_getElem? (i := 319) (by decide +kernel)
theorem kX5_64 : Cond.methodLink RX5 64 yX3_faultAs ∈ lw_tbl := List.mem_of_getElem? (i := 322) (by decide +kernel)
theorem kX3_28 : Cond.methodLink RX3 28 yX3_isNothing ∈ lw_tbl := List.mem_of_getElem? (i := 326) (by decide +kernel)
theorem kX5_68 : Cond.methodLink RX5 68 yX5_faulted ∈ lw_tbl := List.mem_of_getElem? (i := 330) (by decide +kernel)
theorem kX5_71 : Cond.methodLink RX5 71 yX3_hasCells ∈ lw_tbl := List.mem_of_getElem? (i := 334) (by decide +kernel)
theorem kX5_75 : Cond.methodLink RX5 75 yX0_readText ∈ lw_tbl := List.mem_of_getElem? (i := 338) (by decide +kernel)
theorem kX0_45 : Cond.methodLink RX0 45 yX0_clear ∈ lw_tbl := List.mem_of_getElem? (i := 342) (by decide +kernel)
theorem kX0_53 : Cond.methodLink RX0 53 yX0_readCode ∈ lw_tbl := List.mem_of_getElem? (i := 346) (by decide +kernel)
theorem kX0_57 : Cond.methodLink RX0 57 yX0_startPart ∈ lw_tbl := List.mem_of_getElem? (i := 350) (by decide +kernel)
theorem kX0_61 : Cond.methodLink RX0 61 yX0_readKind ∈ lw_tbl := List.mem_of_getElem? (i := 354) (by decide +kernel)
theorem kX0_67 : Cond.methodLink RX0 67 yX0_kindOfLetter ∈ lw_tbl := List.mem_of_getElem? (i := 358) (by decide +kernel)
theorem kX0_64 : Cond.methodLink RX0 64 yX0_readDigit ∈ lw_tbl := List.mem_of_getElem? (i := 361) (by decide +kernel)
theorem kX5_79 : Cond.methodLink RX5 79 yX0_become ∈ lw_tbl := List.mem_of_getElem? (i := 365) (by decide +kernel)
theorem kX5_86 : Cond.methodLink RX5 86 yX5_forgetSearches ∈ lw_tbl := List.mem_of_getElem? (i := 369) (by decide +kernel)
theorem kL_18 : Cond.methodLink RL 18 yX5_ofStage ∈ lw_tbl := List.mem_of_getElem? (i := 373) (by decide +kernel)
theorem kX5_92 : Cond.methodLink RX5 92 yX0_hasStage ∈ lw_tbl := List.mem_of_getElem? (i := 377) (by decide +kernel)
theorem kL_23 : Cond.methodLink RL 23 yX5_ofThing ∈ lw_tbl := List.mem_of_getElem? (i := 381) (by decide +kernel)
theorem kX5_105 : Cond.methodLink RX5 105 yX0_hasThing ∈ lw_tbl := List.mem_of_getElem? (i := 385) (by decide +kernel)
theorem kL_27 : Cond.methodLink RL 27 yX5_bears ∈ lw_tbl := List.mem_of_getElem? (i := 389) (by decide +kernel)
theorem kX5_114 : Cond.methodLink RX5 114 yX0_isThere ∈ lw_tbl := List.mem_of_getElem? (i := 393) (by decide +kernel)
theorem kL_32 : Cond.methodLink RL 32 yX5_rain ∈ lw_tbl := List.mem_of_getElem? (i := 397) (by decide +kernel)
theorem kL_36 : Cond.methodLink RL 36 yX5_boards ∈ lw_tbl := List.mem_of_getElem? (i := 401) (by decide +kernel)
theorem kL_41 : Cond.methodLink RL 41 yX5_well ∈ lw_tbl := List.mem_of_getElem? (i := 405) (by decide +kernel)
theorem kX5_124 : Cond.methodLink RX5 124 yX0_hasAllOf ∈ lw_tbl := List.mem_of_getElem? (i := 409) (by decide +kernel)
theorem kX5_127 : Cond.methodLink RX5 127 yX0_wellOnes ∈ lw_tbl := List.mem_of_getElem? (i := 413) (by decide +kernel)
theorem kX0_70 : Cond.methodLink RX0 70 yX0_foodOnes ∈ lw_tbl := List.mem_of_getElem? (i := 417) (by decide +kernel)
theorem kX0_74 : Cond.methodLink RX0 74 yX0_isIn ∈ lw_tbl := List.mem_of_getElem? (i := 421) (by decide +kernel)
theorem kX0_78 : Cond.methodLink RX0 78 yX0_isWell ∈ lw_tbl := List.mem_of_getElem? (i := 424) (by decide +kernel)
theorem kL_45 : Cond.methodLink RL 45 yX5_trips ∈ lw_tbl := List.mem_of_getElem? (i := 427) (by decide +kernel)
theorem kX5_130 : Cond.methodLink RX5 130 yX5_takeTrips ∈ lw_tbl := List.mem_of_getElem? (i := 431) (by decide +kernel)
theorem kX5_147 : Cond.methodLink RX5 147 yX0_hasSpot ∈ lw_tbl := List.mem_of_getElem? (i := 435) (by decide +kernel)
theorem kX0_35 : Cond.methodLink RX0 35 yX0_isThere ∈ lw_tbl := List.mem_of_getElem? (i := 439) (by decide +kernel)
theorem kX5_170 : Cond.methodLink RX5 170 yX4_add ∈ lw_tbl := List.mem_of_getElem? (i := 440) (by decide +kernel)
theorem kX5_134 : Cond.methodLink RX5 134 yX4_go ∈ lw_tbl := List.mem_of_getElem? (i := 444) (by decide +kernel)
theorem kX4_41 : Cond.methodLink RX4 41 yJ7_fill_53178 ∈ lw_tbl := List.mem_of_getElem? (i := 448) (by decide +kernel)
theorem kX4_52 : Cond.methodLink RX4 52 yX4_canGo ∈ lw_tbl := List.mem_of_getElem? (i := 451) (by decide +kernel)
theorem kX4_63 : Cond.methodLink RX4 63 yJ9_abs_0f7a4 ∈ lw_tbl := List.mem_of_getElem? (i := 455) (by decide +kernel)
theorem kX4_69 : Cond.methodLink RX4 69 yX0_load ∈ lw_tbl := List.mem_of_getElem? (i := 458) (by decide +kernel)
theorem kX4_75 : Cond.methodLink RX4 75 yX0_wellOnes ∈ lw_tbl := List.mem_of_getElem? (i := 462) (by decide +kernel)
theorem kX4_56 : Cond.methodLink RX4 56 yX4_goOne ∈ lw_tbl := List.mem_of_getElem? (i := 463) (by decide +kernel)
theorem kX4_78 : Cond.methodLink RX4 78 yJ9_min_7cf53 ∈ lw_tbl := List.mem_of_getElem? (i := 467) (by decide +kernel)
theorem kX4_82 : Cond.methodLink RX4 82 yX0_rainsIn ∈ lw_tbl := List.mem_of_getElem? (i := 470) (by decide +kernel)
theorem kX4_86 : Cond.methodLink RX4 86 yX0_minutesOver ∈ lw_tbl := List.mem_of_getElem? (i := 474) (by decide +kernel)
theorem kX0_82 : Cond.methodLink RX0 82 yX0_mudUnder ∈ lw_tbl := List.mem_of_getElem? (i := 478) (by decide +kernel)
theorem kX4_90 : Cond.methodLink RX4 90 yX0_mudUnder ∈ lw_tbl := List.mem_of_getElem? (i := 482) (by decide +kernel)
theorem kX4_60 : Cond.methodLink RX4 60 yX4_cutShare ∈ lw_tbl := List.mem_of_getElem? (i := 484) (by decide +kernel)
theorem kX5_140 : Cond.methodLink RX5 140 yX4_minutes ∈ lw_tbl := List.mem_of_getElem? (i := 488) (by decide +kernel)
theorem kX5_150 : Cond.methodLink RX5 150 yX4_thingsAt ∈ lw_tbl := List.mem_of_getElem? (i := 492) (by decide +kernel)
theorem kL_50 : Cond.methodLink RL 50 yX5_at ∈ lw_tbl := List.mem_of_getElem? (i := 496) (by decide +kernel)
theorem kX5_153 : Cond.methodLink RX5 153 yX4_spotOf ∈ lw_tbl := List.mem_of_getElem? (i := 500) (by decide +kernel)
theorem kX4_96 : Cond.methodLink RX4 96 yX0_isIn ∈ lw_tbl := List.mem_of_getElem? (i := 504) (by decide +kernel)
theorem kL_55 : Cond.methodLink RL 55 yX5_dry ∈ lw_tbl := List.mem_of_getElem? (i := 505) (by decide +kernel)
theorem kL_60 : Cond.methodLink RL 60 yX5_soonest ∈ lw_tbl := List.mem_of_getElem? (i := 510) (by decide +kernel)
theorem kX5_174 : Cond.methodLink RX5 174 yX5_makePlan ∈ lw_tbl := List.mem_of_getElem? (i := 514) (by decide +kernel)
theorem kX5_187 : Cond.methodLink RX5 187 yX2_least ∈ lw_tbl := List.mem_of_getElem? (i := 518) (by decide +kernel)
theorem kX2_43 : Cond.methodLink RX2 43 yX2_prepare ∈ lw_tbl := List.mem_of_getElem? (i := 522) (by decide +kernel)
theorem kX2_82 : Cond.methodLink RX2 82 yX2_prepareSet ∈ lw_tbl := List.mem_of_getElem? (i := 527) (by decide +kernel)
theorem kX2_95 : Cond.methodLink RX2 95 yX0_load ∈ lw_tbl := List.mem_of_getElem? (i := 531) (by decide +kernel)
theorem kX2_102 : Cond.methodLink RX2 102 yX0_wellOnes ∈ lw_tbl := List.mem_of_getElem? (i := 532) (by decide +kernel)
theorem kX2_105 : Cond.methodLink RX2 105 yX0_isIn ∈ lw_tbl := List.mem_of_getElem? (i := 533) (by decide +kernel)
theorem kX2_109 : Cond.methodLink RX2 109 yX0_minutesOver ∈ lw_tbl := List.mem_of_getElem? (i := 534) (by decide +kernel)
theorem kX2_89 : Cond.methodLink RX2 89 yJ7_fill_53178 ∈ lw_tbl := List.mem_of_getElem? (i := 535) (by decide +kernel)
theorem kX2_47 : Cond.methodLink RX2 47 yX2_offer ∈ lw_tbl := List.mem_of_getElem? (i := 536) (by decide +kernel)
theorem kX2_135 : Cond.methodLink RX2 135 yX2_takeOut ∈ lw_tbl := List.mem_of_getElem? (i := 540) (by decide +kernel)
theorem kX2_56 : Cond.methodLink RX2 56 yX2_settleAll ∈ lw_tbl := List.mem_of_getElem? (i := 545) (by decide +kernel)
theorem kX2_113 : Cond.methodLink RX2 113 yX2_spread ∈ lw_tbl := List.mem_of_getElem? (i := 549) (by decide +kernel)
theorem kX2_116 : Cond.methodLink RX2 116 yX2_thingsHere ∈ lw_tbl := List.mem_of_getElem? (i := 553) (by decide +kernel)
theorem kX2_119 : Cond.methodLink RX2 119 yX2_stateBehind ∈ lw_tbl := List.mem_of_getElem? (i := 557) (by decide +kernel)
theorem kX2_126 : Cond.methodLink RX2 126 yX2_spotBehind ∈ lw_tbl := List.mem_of_getElem? (i := 561) (by decide +kernel)
theorem kX2_123 : Cond.methodLink RX2 123 yX2_minutesOf ∈ lw_tbl := List.mem_of_getElem? (i := 564) (by decide +kernel)
theorem kX2_130 : Cond.methodLink RX2 130 yJ9_min_7cf53 ∈ lw_tbl := List.mem_of_getElem? (i := 568) (by decide +kernel)
theorem kX5_201 : Cond.methodLink RX5 201 yX2_layRow ∈ lw_tbl := List.mem_of_getElem? (i := 569) (by decide +kernel)
theorem kX2_138 : Cond.methodLink RX2 138 yX2_countTripsLeft ∈ lw_tbl := List.mem_of_getElem? (i := 573) (by decide +kernel)
theorem kX2_141 : Cond.methodLink RX2 141 yX2_bestMove ∈ lw_tbl := List.mem_of_getElem? (i := 577) (by decide +kernel)
theorem kX2_144 : Cond.methodLink RX2 144 yX2_isInTime ∈ lw_tbl := List.mem_of_getElem? (i := 581) (by decide +kernel)
theorem kL_65 : Cond.methodLink RL 65 yX5_trip ∈ lw_tbl := List.mem_of_getElem? (i := 585) (by decide +kernel)
theorem kL_69 : Cond.methodLink RL 69 yX5_fewest ∈ lw_tbl := List.mem_of_getElem? (i := 589) (by decide +kernel)
theorem kL_73 : Cond.methodLink RL 73 yX5_cost ∈ lw_tbl := List.mem_of_getElem? (i := 593) (by decide +kernel)
theorem kX5_194 : Cond.methodLink RX5 194 yX0_dropThing ∈ lw_tbl := List.mem_of_getElem? (i := 597) (by decide +kernel)
theorem kL_77 : Cond.methodLink RL 77 yX5_help ∈ lw_tbl := List.mem_of_getElem? (i := 601) (by decide +kernel)
theorem kL_81 : Cond.methodLink RL 81 yX5_reading ∈ lw_tbl := List.mem_of_getElem? (i := 605) (by decide +kernel)
theorem kX5_205 : Cond.methodLink RX5 205 yX1_add ∈ lw_tbl := List.mem_of_getElem? (i := 609) (by decide +kernel)
theorem kL_86 : Cond.methodLink RL 86 yX5_back ∈ lw_tbl := List.mem_of_getElem? (i := 613) (by decide +kernel)
theorem kL_90 : Cond.methodLink RL 90 yX5_since ∈ lw_tbl := List.mem_of_getElem? (i := 617) (by decide +kernel)
theorem kX5_208 : Cond.methodLink RX5 208 yX5_draftIsAsRead ∈ lw_tbl := List.mem_of_getElem? (i := 621) (by decide +kernel)
theorem kX5_211 : Cond.methodLink RX5 211 yX1_areSoBy ∈ lw_tbl := List.mem_of_getElem? (i := 625) (by decide +kernel)
theorem kX1_25 : Cond.methodLink RX1 25 yX4_spotOf ∈ lw_tbl := List.mem_of_getElem? (i := 629) (by decide +kernel)
theorem kL_94 : Cond.methodLink RL 94 yX5_kinds ∈ lw_tbl := List.mem_of_getElem? (i := 630) (by decide +kernel)
theorem kL_98 : Cond.methodLink RL 98 yX5_sheet ∈ lw_tbl := List.mem_of_getElem? (i := 634) (by decide +kernel)
theorem kX5_215 : Cond.methodLink RX5 215 yX3_renew ∈ lw_tbl := List.mem_of_getElem? (i := 638) (by decide +kernel)
theorem kX3_22 : Cond.methodLink RX3 22 yJ7_fill_53178 ∈ lw_tbl := List.mem_of_getElem? (i := 642) (by decide +kernel)
theorem kL_102 : Cond.methodLink RL 102 yX5_lose ∈ lw_tbl := List.mem_of_getElem? (i := 643) (by decide +kernel)
theorem kX5_218 : Cond.methodLink RX5 218 yX3_isNothing ∈ lw_tbl := List.mem_of_getElem? (i := 647) (by decide +kernel)
theorem kL_106 : Cond.methodLink RL 106 yX5_put ∈ lw_tbl := List.mem_of_getElem? (i := 648) (by decide +kernel)
theorem kX5_221 : Cond.methodLink RX5 221 yX3_hasCell ∈ lw_tbl := List.mem_of_getElem? (i := 652) (by decide +kernel)
theorem kX5_224 : Cond.methodLink RX5 224 yX3_write ∈ lw_tbl := List.mem_of_getElem? (i := 656) (by decide +kernel)
theorem kL_110 : Cond.methodLink RL 110 yX5_cell ∈ lw_tbl := List.mem_of_getElem? (i := 660) (by decide +kernel)
theorem kL_115 : Cond.methodLink RL 115 yX5_copy ∈ lw_tbl := List.mem_of_getElem? (i := 664) (by decide +kernel)
theorem kL_119 : Cond.methodLink RL 119 yX5_tell ∈ lw_tbl := List.mem_of_getElem? (i := 671) (by decide +kernel)
theorem kX5_236 : Cond.methodLink RX5 236 yX5_tellAsChild ∈ lw_tbl := List.mem_of_getElem? (i := 675) (by decide +kernel)
theorem kX5_245 : Cond.methodLink RX5 245 yX5_leave ∈ lw_tbl := List.mem_of_getElem? (i := 679) (by decide +kernel)
theorem kX5_239 : Cond.methodLink RX5 239 yX5_tellAsFood ∈ lw_tbl := List.mem_of_getElem? (i := 683) (by decide +kernel)
theorem kX5_242 : Cond.methodLink RX5 242 yX5_tellAsThing ∈ lw_tbl := List.mem_of_getElem? (i := 687) (by decide +kernel)
theorem kL_123 : Cond.methodLink RL 123 yX5_hail ∈ lw_tbl := List.mem_of_getElem? (i := 691) (by decide +kernel)
theorem kL_127 : Cond.methodLink RL 127 yX5_as ∈ lw_tbl := List.mem_of_getElem? (i := 695) (by decide +kernel)
theorem kL_131 : Cond.methodLink RL 131 yX5_trace ∈ lw_tbl := List.mem_of_getElem? (i := 699) (by decide +kernel)
theorem kL_135 : Cond.methodLink RL 135 yX5_fault ∈ lw_tbl := List.mem_of_getElem? (i := 703) (by decide +kernel)
theorem kL_139 : Cond.methodLink RL 139 yX5_many ∈ lw_tbl := List.mem_of_getElem? (i := 707) (by decide +kernel)
theorem kL_12 : Cond.methodLink RL 12 yX6_init ∈ lw_tbl := List.mem_of_getElem? (i := 713) (by decide +kernel)
theorem kL_17 : Cond.methodLink RL 17 yX6_portage ∈ lw_tbl := List.mem_of_getElem? (i := 832) (by decide +kernel)
theorem kX6_93 : Cond.methodLink RX6 93 yX6_isSheet ∈ lw_tbl := List.mem_of_getElem? (i := 836) (by decide +kernel)
theorem kX6_80 : Cond.methodLink RX6 80 yX6_within ∈ lw_tbl := List.mem_of_getElem? (i := 839) (by decide +kernel)
theorem kX6_97 : Cond.methodLink RX6 97 yX6_isSort ∈ lw_tbl := List.mem_of_getElem? (i := 842) (by decide +kernel)
theorem kX6_100 : Cond.methodLink RX6 100 yX6_against ∈ lw_tbl := List.mem_of_getElem? (i := 845) (by decide +kernel)
theorem kX6_104 : Cond.methodLink RX6 104 yX6_fails ∈ lw_tbl := List.mem_of_getElem? (i := 849) (by decide +kernel)
theorem kX6_108 : Cond.methodLink RX6 108 yX6_readAll ∈ lw_tbl := List.mem_of_getElem? (i := 853) (by decide +kernel)
theorem kX6_126 : Cond.methodLink RX6 126 yX6_isSign ∈ lw_tbl := List.mem_of_getElem? (i := 857) (by decide +kernel)
theorem kX6_130 : Cond.methodLink RX6 130 yX6_digit ∈ lw_tbl := List.mem_of_getElem? (i := 861) (by decide +kernel)
theorem kX6_134 : Cond.methodLink RX6 134 yX6_readOneStage ∈ lw_tbl := List.mem_of_getElem? (i := 865) (by decide +kernel)
theorem kX6_137 : Cond.methodLink RX6 137 yX6_readOneThing ∈ lw_tbl := List.mem_of_getElem? (i := 869) (by decide +kernel)
theorem kL_22 : Cond.methodLink RL 22 yX6_ofStage ∈ lw_tbl := List.mem_of_getElem? (i := 873) (by decide +kernel)
theorem kX6_140 : Cond.methodLink RX6 140 yX6_isStage ∈ lw_tbl := List.mem_of_getElem? (i := 877) (by decide +kernel)
theorem kL_26 : Cond.methodLink RL 26 yX6_ofThing ∈ lw_tbl := List.mem_of_getElem? (i := 881) (by decide +kernel)
theorem kX6_143 : Cond.methodLink RX6 143 yX6_isThing ∈ lw_tbl := List.mem_of_getElem? (i := 885) (by decide +kernel)
theorem kL_31 : Cond.methodLink RL 31 yX6_bears ∈ lw_tbl := List.mem_of_getElem? (i := 889) (by decide +kernel)
theorem kL_35 : Cond.methodLink RL 35 yX6_rain ∈ lw_tbl := List.mem_of_getElem? (i := 893) (by decide +kernel)
theorem kL_40 : Cond.methodLink RL 40 yX6_boards ∈ lw_tbl := List.mem_of_getElem? (i := 897) (by decide +kernel)
theorem kL_44 : Cond.methodLink RL 44 yX6_well ∈ lw_tbl := List.mem_of_getElem? (i := 901) (by decide +kernel)
theorem kX6_149 : Cond.methodLink RX6 149 yX6_allThings ∈ lw_tbl := List.mem_of_getElem? (i := 905) (by decide +kernel)
theorem kX6_153 : Cond.methodLink RX6 153 yX6_wellOf ∈ lw_tbl := List.mem_of_getElem? (i := 909) (by decide +kernel)
theorem kX6_146 : Cond.methodLink RX6 146 yX6_isWell ∈ lw_tbl := List.mem_of_getElem? (i := 913) (by decide +kernel)
theorem kL_49 : Cond.methodLink RL 49 yX6_trips ∈ lw_tbl := List.mem_of_getElem? (i := 917) (by decide +kernel)
theorem kX6_199 : Cond.methodLink RX6 199 yX6_arePairs ∈ lw_tbl := List.mem_of_getElem? (i := 921) (by decide +kernel)
theorem kX6_202 : Cond.methodLink RX6 202 yX6_layTrips ∈ lw_tbl := List.mem_of_getElem? (i := 924) (by decide +kernel)
theorem kX6_160 : Cond.methodLink RX6 160 yX6_isSpot ∈ lw_tbl := List.mem_of_getElem? (i := 928) (by decide +kernel)
theorem kX6_205 : Cond.methodLink RX6 205 yX6_go ∈ lw_tbl := List.mem_of_getElem? (i := 932) (by decide +kernel)
theorem kX6_188 : Cond.methodLink RX6 188 yX6_mayGo ∈ lw_tbl := List.mem_of_getElem? (i := 936) (by decide +kernel)
theorem kX6_156 : Cond.methodLink RX6 156 yX6_thingsAt ∈ lw_tbl := List.mem_of_getElem? (i := 940) (by decide +kernel)
theorem kX6_163 : Cond.methodLink RX6 163 yX6_poundsOf ∈ lw_tbl := List.mem_of_getElem? (i := 944) (by decide +kernel)
theorem kX6_166 : Cond.methodLink RX6 166 yX6_stageOf ∈ lw_tbl := List.mem_of_getElem? (i := 948) (by decide +kernel)
theorem kX6_169 : Cond.methodLink RX6 169 yX6_mudOf ∈ lw_tbl := List.mem_of_getElem? (i := 952) (by decide +kernel)
theorem kX6_193 : Cond.methodLink RX6 193 yX6_takes ∈ lw_tbl := List.mem_of_getElem? (i := 957) (by decide +kernel)
theorem kX6_196 : Cond.methodLink RX6 196 yX6_gone ∈ lw_tbl := List.mem_of_getElem? (i := 961) (by decide +kernel)
theorem kL_54 : Cond.methodLink RL 54 yX6_at ∈ lw_tbl := List.mem_of_getElem? (i := 964) (by decide +kernel)
theorem kX6_208 : Cond.methodLink RX6 208 yX6_spotAt ∈ lw_tbl := List.mem_of_getElem? (i := 968) (by decide +kernel)
theorem kL_59 : Cond.methodLink RL 59 yX6_dry ∈ lw_tbl := List.mem_of_getElem? (i := 972) (by decide +kernel)
theorem kX6_211 : Cond.methodLink RX6 211 yX6_inLeastTerms ∈ lw_tbl := List.mem_of_getElem? (i := 977) (by decide +kernel)
theorem kL_64 : Cond.methodLink RL 64 yX6_soonest ∈ lw_tbl := List.mem_of_getElem? (i := 980) (by decide +kernel)
theorem kX6_224 : Cond.methodLink RX6 224 yX6_soonestNow ∈ lw_tbl := List.mem_of_getElem? (i := 984) (by decide +kernel)
theorem kX6_218 : Cond.methodLink RX6 218 yX6_laySoonest ∈ lw_tbl := List.mem_of_getElem? (i := 988) (by decide +kernel)
theorem kX6_215 : Cond.methodLink RX6 215 yX6_relax ∈ lw_tbl := List.mem_of_getElem? (i := 992) (by decide +kernel)
theorem kX6_221 : Cond.methodLink RX6 221 yX6_end ∈ lw_tbl := List.mem_of_getElem? (i := 996) (by decide +kernel)
theorem kL_68 : Cond.methodLink RL 68 yX6_trip ∈ lw_tbl := List.mem_of_getElem? (i := 1000) (by decide +kernel)
theorem kX6_242 : Cond.methodLink RX6 242 yX6_layLeft ∈ lw_tbl := List.mem_of_getElem? (i := 1004) (by decide +kernel)
theorem kX6_230 : Cond.methodLink RX6 230 yX6_shorten ∈ lw_tbl := List.mem_of_getElem? (i := 1008) (by decide +kernel)
theorem kX6_227 : Cond.methodLink RX6 227 yX6_isTight ∈ lw_tbl := List.mem_of_getElem? (i := 1012) (by decide +kernel)
theorem kX6_245 : Cond.methodLink RX6 245 yX6_findNext ∈ lw_tbl := List.mem_of_getElem? (i := 1016) (by decide +kernel)
theorem kX6_233 : Cond.methodLink RX6 233 yX6_isNext ∈ lw_tbl := List.mem_of_getElem? (i := 1020) (by decide +kernel)
theorem kL_72 : Cond.methodLink RL 72 yX6_fewest ∈ lw_tbl := List.mem_of_getElem? (i := 1024) (by decide +kernel)
theorem kX6_249 : Cond.methodLink RX6 249 yX6_spread ∈ lw_tbl := List.mem_of_getElem? (i := 1028) (by decide +kernel)
theorem kL_76 : Cond.methodLink RL 76 yX6_cost ∈ lw_tbl := List.mem_of_getElem? (i := 1032) (by decide +kernel)
theorem kL_80 : Cond.methodLink RL 80 yX6_help ∈ lw_tbl := List.mem_of_getElem? (i := 1036) (by decide +kernel)
theorem kL_85 : Cond.methodLink RL 85 yX6_reading ∈ lw_tbl := List.mem_of_getElem? (i := 1040) (by decide +kernel)
theorem kL_89 : Cond.methodLink RL 89 yX6_back ∈ lw_tbl := List.mem_of_getElem? (i := 1044) (by decide +kernel)
theorem kL_93 : Cond.methodLink RL 93 yX6_since ∈ lw_tbl := List.mem_of_getElem? (i := 1048) (by decide +kernel)
theorem kX6_252 : Cond.methodLink RX6 252 yX6_areSo ∈ lw_tbl := List.mem_of_getElem? (i := 1052) (by decide +kernel)
theorem kL_97 : Cond.methodLink RL 97 yX6_kinds ∈ lw_tbl := List.mem_of_getElem? (i := 1056) (by decide +kernel)
theorem kL_101 : Cond.methodLink RL 101 yX6_sheet ∈ lw_tbl := List.mem_of_getElem? (i := 1060) (by decide +kernel)
theorem kL_105 : Cond.methodLink RL 105 yX6_lose ∈ lw_tbl := List.mem_of_getElem? (i := 1064) (by decide +kernel)
theorem kL_109 : Cond.methodLink RL 109 yX6_put ∈ lw_tbl := List.mem_of_getElem? (i := 1068) (by decide +kernel)
theorem kL_114 : Cond.methodLink RL 114 yX6_cell ∈ lw_tbl := List.mem_of_getElem? (i := 1072) (by decide +kernel)
theorem kX6_256 : Cond.methodLink RX6 256 yX6_lost ∈ lw_tbl := List.mem_of_getElem? (i := 1076) (by decide +kernel)
theorem kL_118 : Cond.methodLink RL 118 yX6_copy ∈ lw_tbl := List.mem_of_getElem? (i := 1080) (by decide +kernel)
theorem kL_122 : Cond.methodLink RL 122 yX6_tell ∈ lw_tbl := List.mem_of_getElem? (i := 1084) (by decide +kernel)
theorem kX6_263 : Cond.methodLink RX6 263 yX6_begins ∈ lw_tbl := List.mem_of_getElem? (i := 1088) (by decide +kernel)
theorem kL_126 : Cond.methodLink RL 126 yX6_hail ∈ lw_tbl := List.mem_of_getElem? (i := 1092) (by decide +kernel)
theorem kL_130 : Cond.methodLink RL 130 yX6_as ∈ lw_tbl := List.mem_of_getElem? (i := 1096) (by decide +kernel)
theorem kL_134 : Cond.methodLink RL 134 yX6_trace ∈ lw_tbl := List.mem_of_getElem? (i := 1100) (by decide +kernel)
theorem kL_138 : Cond.methodLink RL 138 yX6_fault ∈ lw_tbl := List.mem_of_getElem? (i := 1104) (by decide +kernel)
theorem kL_142 : Cond.methodLink RL 142 yX6_many ∈ lw_tbl := List.mem_of_getElem? (i := 1108) (by decide +kernel)
theorem fX2_99 : z_Lf RX2 99 0 0 := ⟨RX0, TX0, 9, rfl, iX0, by decide, rfl, Or.inr ⟨"PortageTrips", List.mem_of_getElem? (i := 90) (by decide +kernel)⟩⟩
theorem pX2_99 : z_Lp RX2 99 0 0 .int := ⟨RX0, TX0, 9, tyX0, rfl, iX0, by decide, rfl, Or.inr ⟨"PortageTrips", List.mem_of_getElem? (i := 90) (by decide +kernel)⟩, tyX0_ok, nmX0, rfl, by decide +kernel⟩
theorem fX4_72 : z_Lf RX4 72 0 0 := ⟨RX0, TX0, 9, rfl, iX0, by decide, rfl, Or.inr ⟨"PortageTrips", List.mem_of_getElem? (i := 91) (by decide +kernel)⟩⟩
theorem pX4_72 : z_Lp RX4 72 0 0 .int := ⟨RX0, TX0, 9, tyX0, rfl, iX0, by decide, rfl, Or.inr ⟨"PortageTrips", List.mem_of_getElem? (i := 91) (by decide +kernel)⟩, tyX0_ok, nmX0, rfl, by decide +kernel⟩
theorem fX5_118 : z_Lf RX5 118 0 0 := ⟨RX0, TX0, 9, rfl, iX0, by decide, rfl, Or.inr ⟨"PortageTrips", List.mem_of_getElem? (i := 92) (by decide +kernel)⟩⟩
theorem pX5_118 : z_Lp RX5 118 0 0 .int := ⟨RX0, TX0, 9, tyX0, rfl, iX0, by decide, rfl, Or.inr ⟨"PortageTrips", List.mem_of_getElem? (i := 92) (by decide +kernel)⟩, tyX0_ok, nmX0, rfl, by decide +kernel⟩
theorem fX0_42 : z_Lf RX0 42 0 0 := ⟨RX0, TX0, 9, rfl, iX0, by decide, rfl, Or.inl (List.mem_of_getElem? (i := 93) (by decide +kernel))⟩
theorem pX0_42 : z_Lp RX0 42 0 0 .int := ⟨RX0, TX0, 9, tyX0, rfl, iX0, by decide, rfl, Or.inl (List.mem_of_getElem? (i := 93) (by decide +kernel)), tyX0_ok, nmX0, rfl, by decide +kernel⟩
theorem fX0_9 : z_Lf RX0 9 0 1 := ⟨RX0, TX0, 9, rfl, iX0, by decide, rfl, Or.inl (List.mem_of_getElem? (i := 94) (by decide +kernel))⟩
theorem pX0_9 : z_Lp RX0 9 0 1 .int := ⟨RX0, TX0, 9, tyX0, rfl, iX0, by decide, rfl, Or.inl (List.mem_of_getElem? (i := 94) (by decide +kernel)), tyX0_ok, nmX0, rfl, by decide +kernel⟩
theorem fX2_75 : z_Lf RX2 75 0 1 := ⟨RX0, TX0, 9, rfl, iX0, by decide, rfl, Or.inr ⟨"PortageTrips", List.mem_of_getElem? (i := 95) (by decide +kernel)⟩⟩
theorem pX2_75 : z_Lp RX2 75 0 1 .int := ⟨RX0, TX0, 9, tyX0, rfl, iX0, by decide, rfl, Or.inr ⟨"PortageTrips", List.mem_of_getElem? (i := 95) (by decide +kernel)⟩, tyX0_ok, nmX0, rfl, by decide +kernel⟩
theorem fX5_121 : z_Lf RX5 121 0 1 := ⟨RX0, TX0, 9, rfl, iX0, by decide, rfl, Or.inr ⟨"PortageTrips", List.mem_of_getElem? (i := 96) (by decide +kernel)⟩⟩
theorem pX5_121 : z_Lp RX5 121 0 1 .int := ⟨RX0, TX0, 9, tyX0, rfl, iX0, by decide, rfl, Or.inr ⟨"PortageTrips", List.mem_of_getElem? (i := 96) (by decide +kernel)⟩, tyX0_ok, nmX0, rfl, by decide +kernel⟩
theorem fX0_32 : z_Lf RX0 32 0 2 := ⟨RX0, TX0, 9, rfl, iX0, by decide, rfl, Or.inl (List.mem_of_getElem? (i := 97) (by decide +kernel))⟩
theorem pX0_32 : z_Lp RX0 32 0 2 .int := ⟨RX0, TX0, 9, tyX0, rfl, iX0, by decide, rfl, Or.inl (List.mem_of_getElem? (i := 97) (by decide +kernel)), tyX0_ok, nmX0, rfl, by decide +kernel⟩
theorem fX2_69 : z_Lf RX2 69 0 2 := ⟨RX0, TX0, 9, rfl, iX0, by decide, rfl, Or.inr ⟨"PortageTrips", List.mem_of_getElem? (i := 98) (by decide +kernel)⟩⟩
theorem pX2_69 : z_Lp RX2 69 0 2 .int := ⟨RX0, TX0, 9, tyX0, rfl, iX0, by decide, rfl, Or.inr ⟨"PortageTrips", List.mem_of_getElem? (i := 98) (by decide +kernel)⟩, tyX0_ok, nmX0, rfl, by decide +kernel⟩
theorem fX5_251 : z_Lf RX5 251 0 2 := ⟨RX0, TX0, 9, rfl, iX0, by decide, rfl, Or.inr ⟨"PortageTrips", List.mem_of_getElem? (i := 99) (by decide +kernel)⟩⟩
theorem pX5_251 : z_Lp RX5 251 0 2 .int := ⟨RX0, TX0, 9, tyX0, rfl, iX0, by decide, rfl, Or.inr ⟨"PortageTrips", List.mem_of_getElem? (i := 99) (by decide +kernel)⟩, tyX0_ok, nmX0, rfl, by decide +kernel⟩
theorem fX0_15 : z_Lf RX0 15 0 3 := ⟨RX0, TX0, 9, rfl, iX0, by decide, rfl, Or.inl (List.mem_of_getElem? (i := 100) (by decide +kernel))⟩
theorem fX5_95 : z_Lf RX5 95 0 3 := ⟨RX0, TX0, 9, rfl, iX0, by decide, rfl, Or.inr ⟨"PortageTrips", List.mem_of_getElem? (i := 101) (by decide +kernel)⟩⟩
theorem fX0_19 : z_Lf RX0 19 0 4 := ⟨RX0, TX0, 9, rfl, iX0, by decide, rfl, Or.inl (List.mem_of_getElem? (i := 102) (by decide +kernel))⟩
theorem fX5_98 : z_Lf RX5 98 0 4 := ⟨RX0, TX0, 9, rfl, iX0, by decide, rfl, Or.inr ⟨"PortageTrips", List.mem_of_getElem? (i := 103) (by decide +kernel)⟩⟩
theorem fX0_22 : z_Lf RX0 22 0 5 := ⟨RX0, TX0, 9, rfl, iX0, by decide, rfl, Or.inl (List.mem_of_getElem? (i := 104) (by decide +kernel))⟩
theorem fX5_101 : z_Lf RX5 101 0 5 := ⟨RX0, TX0, 9, rfl, iX0, by decide, rfl, Or.inr ⟨"PortageTrips", List.mem_of_getElem? (i := 105) (by decide +kernel)⟩⟩
theorem fX5_89 : z_Lf RX5 89 0 6 := ⟨RX0, TX0, 9, rfl, iX0, by decide, rfl, Or.inr ⟨"PortageTrips", List.mem_of_getElem? (i := 106) (by decide +kernel)⟩⟩
theorem pX5_89 : z_Lp RX5 89 0 6 .int := ⟨RX0, TX0, 9, tyX0, rfl, iX0, by decide, rfl, Or.inr ⟨"PortageTrips", List.mem_of_getElem? (i := 106) (by decide +kernel)⟩, tyX0_ok, nmX0, rfl, by decide +kernel⟩
theorem fX2_63 : z_Lf RX2 63 0 6 := ⟨RX0, TX0, 9, rfl, iX0, by decide, rfl, Or.inr ⟨"PortageTrips", List.mem_of_getElem? (i := 107) (by decide +kernel)⟩⟩
theorem pX2_63 : z_Lp RX2 63 0 6 .int := ⟨RX0, TX0, 9, tyX0, rfl, iX0, by decide, rfl, Or.inr ⟨"PortageTrips", List.mem_of_getElem? (i := 107) (by decide +kernel)⟩, tyX0_ok, nmX0, rfl, by decide +kernel⟩
theorem fX4_47 : z_Lf RX4 47 0 6 := ⟨RX0, TX0, 9, rfl, iX0, by decide, rfl, Or.inr ⟨"PortageTrips", List.mem_of_getElem? (i := 108) (by decide +kernel)⟩⟩
theorem pX4_47 : z_Lp RX4 47 0 6 .int := ⟨RX0, TX0, 9, tyX0, rfl, iX0, by decide, rfl, Or.inr ⟨"PortageTrips", List.mem_of_getElem? (i := 108) (by decide +kernel)⟩, tyX0_ok, nmX0, rfl, by decide +kernel⟩
theorem fX0_39 : z_Lf RX0 39 0 6 := ⟨RX0, TX0, 9, rfl, iX0, by decide, rfl, Or.inl (List.mem_of_getElem? (i := 109) (by decide +kernel))⟩
theorem pX0_39 : z_Lp RX0 39 0 6 .int := ⟨RX0, TX0, 9, tyX0, rfl, iX0, by decide, rfl, Or.inl (List.mem_of_getElem? (i := 109) (by decide +kernel)), tyX0_ok, nmX0, rfl, by decide +kernel⟩
theorem fX0_26 : z_Lf RX0 26 0 7 := ⟨RX0, TX0, 9, rfl, iX0, by decide, rfl, Or.inl (List.mem_of_getElem? (i := 110) (by decide +kernel))⟩
theorem fX5_108 : z_Lf RX5 108 0 7 := ⟨RX0, TX0, 9, rfl, iX0, by decide, rfl, Or.inr ⟨"PortageTrips", List.mem_of_getElem? (i := 111) (by decide +kernel)⟩⟩
theorem fX0_29 : z_Lf RX0 29 0 8 := ⟨RX0, TX0, 9, rfl, iX0, by decide, rfl, Or.inl (List.mem_of_getElem? (i := 112) (by decide +kernel))⟩
theorem fX5_111 : z_Lf RX5 111 0 8 := ⟨RX0, TX0, 9, rfl, iX0, by decide, rfl, Or.inr ⟨"PortageTrips", List.mem_of_getElem? (i := 113) (by decide +kernel)⟩⟩
theorem fX1_21 : z_Lf RX1 21 1 0 := ⟨RX1, TX1, 4, rfl, iX1, by decide, rfl, Or.inl (List.mem_of_getElem? (i := 143) (by decide +kernel))⟩
theorem pX1_21 : z_Lp RX1 21 1 0 .int := ⟨RX1, TX1, 4, tyX1, rfl, iX1, by decide, rfl, Or.inl (List.mem_of_getElem? (i := 143) (by decide +kernel)), tyX1_ok, nmX1, rfl, by decide +kernel⟩
theorem fX5_83 : z_Lf RX5 83 1 0 := ⟨RX1, TX1, 4, rfl, iX1, by decide, rfl, Or.inr ⟨"PortageTrips", List.mem_of_getElem? (i := 144) (by decide +kernel)⟩⟩
theorem pX5_83 : z_Lp RX5 83 1 0 .int := ⟨RX1, TX1, 4, tyX1, rfl, iX1, by decide, rfl, Or.inr ⟨"PortageTrips", List.mem_of_getElem? (i := 144) (by decide +kernel)⟩, tyX1_ok, nmX1, rfl, by decide +kernel⟩
theorem fX1_9 : z_Lf RX1 9 1 1 := ⟨RX1, TX1, 4, rfl, iX1, by decide, rfl, Or.inl (List.mem_of_getElem? (i := 145) (by decide +kernel))⟩
theorem fX1_15 : z_Lf RX1 15 1 2 := ⟨RX1, TX1, 4, rfl, iX1, by decide, rfl, Or.inl (List.mem_of_getElem? (i := 146) (by decide +kernel))⟩
theorem fX1_18 : z_Lf RX1 18 1 3 := ⟨RX1, TX1, 4, rfl, iX1, by decide, rfl, Or.inl (List.mem_of_getElem? (i := 147) (by decide +kernel))⟩
theorem fX4_35 : z_Lf RX4 35 4 0 := ⟨RX4, TX4, 9, rfl, iX4, by decide, rfl, Or.inl (List.mem_of_getElem? (i := 163) (by decide +kernel))⟩
theorem pX4_35 : z_Lp RX4 35 4 0 .int := ⟨RX4, TX4, 9, tyX4, rfl, iX4, by decide, rfl, Or.inl (List.mem_of_getElem? (i := 163) (by decide +kernel)), tyX4_ok, nmX4, rfl, by decide +kernel⟩
theorem fX5_166 : z_Lf RX5 166 4 0 := ⟨RX4, TX4, 9, rfl, iX4, by decide, rfl, Or.inr ⟨"PortageTrips", List.mem_of_getElem? (i := 164) (by decide +kernel)⟩⟩
theorem pX5_166 : z_Lp RX5 166 4 0 .int := ⟨RX4, TX4, 9, tyX4, rfl, iX4, by decide, rfl, Or.inr ⟨"PortageTrips", List.mem_of_getElem? (i := 164) (by decide +kernel)⟩, tyX4_ok, nmX4, rfl, by decide +kernel⟩
theorem fX4_9 : z_Lf RX4 9 4 1 := ⟨RX4, TX4, 9, rfl, iX4, by decide, rfl, Or.inl (List.mem_of_getElem? (i := 165) (by decide +kernel))⟩
theorem fX4_15 : z_Lf RX4 15 4 2 := ⟨RX4, TX4, 9, rfl, iX4, by decide, rfl, Or.inl (List.mem_of_getElem? (i := 166) (by decide +kernel))⟩
theorem fX4_18 : z_Lf RX4 18 4 3 := ⟨RX4, TX4, 9, rfl, iX4, by decide, rfl, Or.inl (List.mem_of_getElem? (i := 167) (by decide +kernel))⟩
theorem fX4_21 : z_Lf RX4 21 4 4 := ⟨RX4, TX4, 9, rfl, iX4, by decide, rfl, Or.inl (List.mem_of_getElem? (i := 168) (by decide +kernel))⟩
theorem fX4_38 : z_Lf RX4 38 4 5 := ⟨RX4, TX4, 9, rfl, iX4, by decide, rfl, Or.inl (List.mem_of_getElem? (i := 169) (by decide +kernel))⟩
theorem pX4_38 : z_Lp RX4 38 4 5 .int := ⟨RX4, TX4, 9, tyX4, rfl, iX4, by decide, rfl, Or.inl (List.mem_of_getElem? (i := 169) (by decide +kernel)), tyX4_ok, nmX4, rfl, by decide +kernel⟩
theorem fX5_144 : z_Lf RX5 144 4 5 := ⟨RX4, TX4, 9, rfl, iX4, by decide, rfl, Or.inr ⟨"PortageTrips", List.mem_of_getElem? (i := 170) (by decide +kernel)⟩⟩
theorem pX5_144 : z_Lp RX5 144 4 5 .int := ⟨RX4, TX4, 9, tyX4, rfl, iX4, by decide, rfl, Or.inr ⟨"PortageTrips", List.mem_of_getElem? (i := 170) (by decide +kernel)⟩, tyX4_ok, nmX4, rfl, by decide +kernel⟩
theorem fX4_24 : z_Lf RX4 24 4 6 := ⟨RX4, TX4, 9, rfl, iX4, by decide, rfl, Or.inl (List.mem_of_getElem? (i := 171) (by decide +kernel))⟩
theorem pX4_24 : z_Lp RX4 24 4 6 .int := ⟨RX4, TX4, 9, tyX4, rfl, iX4, by decide, rfl, Or.inl (List.mem_of_getElem? (i := 171) (by decide +kernel)), tyX4_ok, nmX4, rfl, by decide +kernel⟩
theorem fX5_137 : z_Lf RX5 137 4 6 := ⟨RX4, TX4, 9, rfl, iX4, by decide, rfl, Or.inr ⟨"PortageTrips", List.mem_of_getElem? (i := 172) (by decide +kernel)⟩⟩
theorem pX5_137 : z_Lp RX5 137 4 6 .int := ⟨RX4, TX4, 9, tyX4, rfl, iX4, by decide, rfl, Or.inr ⟨"PortageTrips", List.mem_of_getElem? (i := 172) (by decide +kernel)⟩, tyX4_ok, nmX4, rfl, by decide +kernel⟩
theorem fX4_28 : z_Lf RX4 28 4 7 := ⟨RX4, TX4, 9, rfl, iX4, by decide, rfl, Or.inl (List.mem_of_getElem? (i := 173) (by decide +kernel))⟩
theorem pX4_28 : z_Lp RX4 28 4 7 .long := ⟨RX4, TX4, 9, tyX4, rfl, iX4, by decide, rfl, Or.inl (List.mem_of_getElem? (i := 173) (by decide +kernel)), tyX4_ok, nmX4, rfl, by decide +kernel⟩
theorem fX5_159 : z_Lf RX5 159 4 7 := ⟨RX4, TX4, 9, rfl, iX4, by decide, rfl, Or.inr ⟨"PortageTrips", List.mem_of_getElem? (i := 174) (by decide +kernel)⟩⟩
theorem pX5_159 : z_Lp RX5 159 4 7 .long := ⟨RX4, TX4, 9, tyX4, rfl, iX4, by decide, rfl, Or.inr ⟨"PortageTrips", List.mem_of_getElem? (i := 174) (by decide +kernel)⟩, tyX4_ok, nmX4, rfl, by decide +kernel⟩
theorem fX4_32 : z_Lf RX4 32 4 8 := ⟨RX4, TX4, 9, rfl, iX4, by decide, rfl, Or.inl (List.mem_of_getElem? (i := 175) (by decide +kernel))⟩
theorem pX4_32 : z_Lp RX4 32 4 8 .long := ⟨RX4, TX4, 9, tyX4, rfl, iX4, by decide, rfl, Or.inl (List.mem_of_getElem? (i := 175) (by decide +kernel)), tyX4_ok, nmX4, rfl, by decide +kernel⟩
theorem fX5_163 : z_Lf RX5 163 4 8 := ⟨RX4, TX4, 9, rfl, iX4, by decide, rfl, Or.inr ⟨"PortageTrips", List.mem_of_getElem? (i := 176) (by decide +kernel)⟩⟩
theorem pX5_163 : z_Lp RX5 163 4 8 .long := ⟨RX4, TX4, 9, tyX4, rfl, iX4, by decide, rfl, Or.inr ⟨"PortageTrips", List.mem_of_getElem? (i := 176) (by decide +kernel)⟩, tyX4_ok, nmX4, rfl, by decide +kernel⟩
theorem fX2_68 : z_Lf RX2 68 2 0 := ⟨RX2, TX2, 16, rfl, iX2, by decide, rfl, Or.inl (List.mem_of_getElem? (i := 202) (by decide +kernel))⟩
theorem pX2_68 : z_Lp RX2 68 2 0 .int := ⟨RX2, TX2, 16, tyX2, rfl, iX2, by decide, rfl, Or.inl (List.mem_of_getElem? (i := 202) (by decide +kernel)), tyX2_ok, nmX2, rfl, by decide +kernel⟩
theorem fX2_72 : z_Lf RX2 72 2 1 := ⟨RX2, TX2, 16, rfl, iX2, by decide, rfl, Or.inl (List.mem_of_getElem? (i := 203) (by decide +kernel))⟩
theorem pX2_72 : z_Lp RX2 72 2 1 .int := ⟨RX2, TX2, 16, tyX2, rfl, iX2, by decide, rfl, Or.inl (List.mem_of_getElem? (i := 203) (by decide +kernel)), tyX2_ok, nmX2, rfl, by decide +kernel⟩
theorem fX2_60 : z_Lf RX2 60 2 2 := ⟨RX2, TX2, 16, rfl, iX2, by decide, rfl, Or.inl (List.mem_of_getElem? (i := 204) (by decide +kernel))⟩
theorem pX2_60 : z_Lp RX2 60 2 2 .int := ⟨RX2, TX2, 16, tyX2, rfl, iX2, by decide, rfl, Or.inl (List.mem_of_getElem? (i := 204) (by decide +kernel)), tyX2_ok, nmX2, rfl, by decide +kernel⟩
theorem fX2_79 : z_Lf RX2 79 2 3 := ⟨RX2, TX2, 16, rfl, iX2, by decide, rfl, Or.inl (List.mem_of_getElem? (i := 205) (by decide +kernel))⟩
theorem pX2_79 : z_Lp RX2 79 2 3 .int := ⟨RX2, TX2, 16, tyX2, rfl, iX2, by decide, rfl, Or.inl (List.mem_of_getElem? (i := 205) (by decide +kernel)), tyX2_ok, nmX2, rfl, by decide +kernel⟩
theorem fX2_11 : z_Lf RX2 11 2 4 := ⟨RX2, TX2, 16, rfl, iX2, by decide, rfl, Or.inl (List.mem_of_getElem? (i := 206) (by decide +kernel))⟩
theorem fX2_15 : z_Lf RX2 15 2 5 := ⟨RX2, TX2, 16, rfl, iX2, by decide, rfl, Or.inl (List.mem_of_getElem? (i := 207) (by decide +kernel))⟩
theorem fX2_18 : z_Lf RX2 18 2 6 := ⟨RX2, TX2, 16, rfl, iX2, by decide, rfl, Or.inl (List.mem_of_getElem? (i := 208) (by decide +kernel))⟩
theorem fX2_22 : z_Lf RX2 22 2 7 := ⟨RX2, TX2, 16, rfl, iX2, by decide, rfl, Or.inl (List.mem_of_getElem? (i := 209) (by decide +kernel))⟩
theorem fX2_25 : z_Lf RX2 25 2 8 := ⟨RX2, TX2, 16, rfl, iX2, by decide, rfl, Or.inl (List.mem_of_getElem? (i := 210) (by decide +kernel))⟩
theorem fX2_28 : z_Lf RX2 28 2 9 := ⟨RX2, TX2, 16, rfl, iX2, by decide, rfl, Or.inl (List.mem_of_getElem? (i := 211) (by decide +kernel))⟩
theorem fX2_86 : z_Lf RX2 86 2 10 := ⟨RX2, TX2, 16, rfl, iX2, by decide, rfl, Or.inl (List.mem_of_getElem? (i := 212) (by decide +kernel))⟩
theorem pX2_86 : z_Lp RX2 86 2 10 .int := ⟨RX2, TX2, 16, tyX2, rfl, iX2, by decide, rfl, Or.inl (List.mem_of_getElem? (i := 212) (by decide +kernel)), tyX2_ok, nmX2, rfl, by decide +kernel⟩
theorem fX2_52 : z_Lf RX2 52 2 11 := ⟨RX2, TX2, 16, rfl, iX2, by decide, rfl, Or.inl (List.mem_of_getElem? (i := 213) (by decide +kernel))⟩
theorem pX2_52 : z_Lp RX2 52 2 11 .int := ⟨RX2, TX2, 16, tyX2, rfl, iX2, by decide, rfl, Or.inl (List.mem_of_getElem? (i := 213) (by decide +kernel)), tyX2_ok, nmX2, rfl, by decide +kernel⟩
theorem fX2_31 : z_Lf RX2 31 2 12 := ⟨RX2, TX2, 16, rfl, iX2, by decide, rfl, Or.inl (List.mem_of_getElem? (i := 214) (by decide +kernel))⟩
theorem fX2_34 : z_Lf RX2 34 2 13 := ⟨RX2, TX2, 16, rfl, iX2, by decide, rfl, Or.inl (List.mem_of_getElem? (i := 215) (by decide +kernel))⟩
theorem fX2_37 : z_Lf RX2 37 2 14 := ⟨RX2, TX2, 16, rfl, iX2, by decide, rfl, Or.inl (List.mem_of_getElem? (i := 216) (by decide +kernel))⟩
theorem fX2_40 : z_Lf RX2 40 2 15 := ⟨RX2, TX2, 16, rfl, iX2, by decide, rfl, Or.inl (List.mem_of_getElem? (i := 217) (by decide +kernel))⟩
theorem fX3_9 : z_Lf RX3 9 3 0 := ⟨RX3, TX3, 3, rfl, iX3, by decide, rfl, Or.inl (List.mem_of_getElem? (i := 256) (by decide +kernel))⟩
theorem pX3_9 : z_Lp RX3 9 3 0 .int := ⟨RX3, TX3, 3, tyX3, rfl, iX3, by decide, rfl, Or.inl (List.mem_of_getElem? (i := 256) (by decide +kernel)), tyX3_ok, nmX3, rfl, by decide +kernel⟩
theorem fX5_227 : z_Lf RX5 227 3 0 := ⟨RX3, TX3, 3, rfl, iX3, by decide, rfl, Or.inr ⟨"PortageTrips", List.mem_of_getElem? (i := 257) (by decide +kernel)⟩⟩
theorem pX5_227 : z_Lp RX5 227 3 0 .int := ⟨RX3, TX3, 3, tyX3, rfl, iX3, by decide, rfl, Or.inr ⟨"PortageTrips", List.mem_of_getElem? (i := 257) (by decide +kernel)⟩, tyX3_ok, nmX3, rfl, by decide +kernel⟩
theorem fX3_19 : z_Lf RX3 19 3 1 := ⟨RX3, TX3, 3, rfl, iX3, by decide, rfl, Or.inl (List.mem_of_getElem? (i := 258) (by decide +kernel))⟩
theorem pX3_19 : z_Lp RX3 19 3 1 .int := ⟨RX3, TX3, 3, tyX3, rfl, iX3, by decide, rfl, Or.inl (List.mem_of_getElem? (i := 258) (by decide +kernel)), tyX3_ok, nmX3, rfl, by decide +kernel⟩
theorem fX3_15 : z_Lf RX3 15 3 2 := ⟨RX3, TX3, 3, rfl, iX3, by decide, rfl, Or.inl (List.mem_of_getElem? (i := 259) (by decide +kernel))⟩
theorem fX0_48 : z_Lf RX0 48 3 2 := ⟨RX3, TX3, 3, rfl, iX3, by decide, rfl, Or.inr ⟨"PortageTrips", List.mem_of_getElem? (i := 260) (by decide +kernel)⟩⟩
theorem fX5_167 : z_Lf RX5 167 3 2 := ⟨RX3, TX3, 3, rfl, iX3, by decide, rfl, Or.inr ⟨"PortageTrips", List.mem_of_getElem? (i := 261) (by decide +kernel)⟩⟩
theorem fX5_12 : z_Lf RX5 12 5 0 := ⟨RX5, TX5, 14, rfl, iX5, by decide, rfl, Or.inl (List.mem_of_getElem? (i := 269) (by decide +kernel))⟩
theorem fX5_18 : z_Lf RX5 18 5 1 := ⟨RX5, TX5, 14, rfl, iX5, by decide, rfl, Or.inl (List.mem_of_getElem? (i := 270) (by decide +kernel))⟩
theorem fX5_23 : z_Lf RX5 23 5 2 := ⟨RX5, TX5, 14, rfl, iX5, by decide, rfl, Or.inl (List.mem_of_getElem? (i := 271) (by decide +kernel))⟩
theorem fX5_30 : z_Lf RX5 30 5 3 := ⟨RX5, TX5, 14, rfl, iX5, by decide, rfl, Or.inl (List.mem_of_getElem? (i := 272) (by decide +kernel))⟩
theorem fX5_37 : z_Lf RX5 37 5 4 := ⟨RX5, TX5, 14, rfl, iX5, by decide, rfl, Or.inl (List.mem_of_getElem? (i := 273) (by decide +kernel))⟩
theorem fX5_44 : z_Lf RX5 44 5 5 := ⟨RX5, TX5, 14, rfl, iX5, by decide, rfl, Or.inl (List.mem_of_getElem? (i := 274) (by decide +kernel))⟩
theorem fX5_48 : z_Lf RX5 48 5 6 := ⟨RX5, TX5, 14, rfl, iX5, by decide, rfl, Or.inl (List.mem_of_getElem? (i := 275) (by decide +kernel))⟩
theorem fX5_177 : z_Lf RX5 177 5 7 := ⟨RX5, TX5, 14, rfl, iX5, by decide, rfl, Or.inl (List.mem_of_getElem? (i := 276) (by decide +kernel))⟩
theorem pX5_177 : z_Lp RX5 177 5 7 .int := ⟨RX5, TX5, 14, tyX5, rfl, iX5, by decide, rfl, Or.inl (List.mem_of_getElem? (i := 276) (by decide +kernel)), tyX5_ok, nmX5, rfl, by decide +kernel⟩
theorem fX5_180 : z_Lf RX5 180 5 8 := ⟨RX5, TX5, 14, rfl, iX5, by decide, rfl, Or.inl (List.mem_of_getElem? (i := 277) (by decide +kernel))⟩
theorem pX5_180 : z_Lp RX5 180 5 8 .int := ⟨RX5, TX5, 14, tyX5, rfl, iX5, by decide, rfl, Or.inl (List.mem_of_getElem? (i := 277) (by decide +kernel)), tyX5_ok, nmX5, rfl, by decide +kernel⟩
theorem fX5_198 : z_Lf RX5 198 5 9 := ⟨RX5, TX5, 14, rfl, iX5, by decide, rfl, Or.inl (List.mem_of_getElem? (i := 278) (by decide +kernel))⟩
theorem pX5_198 : z_Lp RX5 198 5 9 .boolean := ⟨RX5, TX5, 14, tyX5, rfl, iX5, by decide, rfl, Or.inl (List.mem_of_getElem? (i := 278) (by decide +kernel)), tyX5_ok, nmX5, rfl, by decide +kernel⟩
theorem fX5_191 : z_Lf RX5 191 5 10 := ⟨RX5, TX5, 14, rfl, iX5, by decide, rfl, Or.inl (List.mem_of_getElem? (i := 279) (by decide +kernel))⟩
theorem pX5_191 : z_Lp RX5 191 5 10 .int := ⟨RX5, TX5, 14, tyX5, rfl, iX5, by decide, rfl, Or.inl (List.mem_of_getElem? (i := 279) (by decide +kernel)), tyX5_ok, nmX5, rfl, by decide +kernel⟩
theorem fX5_183 : z_Lf RX5 183 5 11 := ⟨RX5, TX5, 14, rfl, iX5, by decide, rfl, Or.inl (List.mem_of_getElem? (i := 280) (by decide +kernel))⟩
theorem pX5_183 : z_Lp RX5 183 5 11 .boolean := ⟨RX5, TX5, 14, tyX5, rfl, iX5, by decide, rfl, Or.inl (List.mem_of_getElem? (i := 280) (by decide +kernel)), tyX5_ok, nmX5, rfl, by decide +kernel⟩
theorem fX5_248 : z_Lf RX5 248 5 12 := ⟨RX5, TX5, 14, rfl, iX5, by decide, rfl, Or.inl (List.mem_of_getElem? (i := 281) (by decide +kernel))⟩
theorem pX5_248 : z_Lp RX5 248 5 12 .int := ⟨RX5, TX5, 14, tyX5, rfl, iX5, by decide, rfl, Or.inl (List.mem_of_getElem? (i := 281) (by decide +kernel)), tyX5_ok, nmX5, rfl, by decide +kernel⟩
theorem fX5_53 : z_Lf RX5 53 5 13 := ⟨RX5, TX5, 14, rfl, iX5, by decide, rfl, Or.inl (List.mem_of_getElem? (i := 282) (by decide +kernel))⟩
theorem pX5_53 : z_Lp RX5 53 5 13 .int := ⟨RX5, TX5, 14, tyX5, rfl, iX5, by decide, rfl, Or.inl (List.mem_of_getElem? (i := 282) (by decide +kernel)), tyX5_ok, nmX5, rfl, by decide +kernel⟩
theorem fX6_75 : z_Lf RX6 75 6 0 := ⟨RX6, TX6, 38, rfl, iX6, by decide, rfl, Or.inl (List.mem_of_getElem? (i := 717) (by decide +kernel))⟩
theorem pX6_75 : z_Lp RX6 75 6 0 .int := ⟨RX6, TX6, 38, tyX6, rfl, iX6, by decide, rfl, Or.inl (List.mem_of_getElem? (i := 717) (by decide +kernel)), tyX6_ok, nmX6, rfl, by decide +kernel⟩
theorem fX6_260 : z_Lf RX6 260 6 1 := ⟨RX6, TX6, 38, rfl, iX6, by decide, rfl, Or.inl (List.mem_of_getElem? (i := 718) (by decide +kernel))⟩
theorem pX6_260 : z_Lp RX6 260 6 1 .int := ⟨RX6, TX6, 38, tyX6, rfl, iX6, by decide, rfl, Or.inl (List.mem_of_getElem? (i := 718) (by decide +kernel)), tyX6_ok, nmX6, rfl, by decide +kernel⟩
theorem fX6_9 : z_Lf RX6 9 6 2 := ⟨RX6, TX6, 38, rfl, iX6, by decide, rfl, Or.inl (List.mem_of_getElem? (i := 719) (by decide +kernel))⟩
theorem fX6_13 : z_Lf RX6 13 6 3 := ⟨RX6, TX6, 38, rfl, iX6, by decide, rfl, Or.inl (List.mem_of_getElem? (i := 720) (by decide +kernel))⟩
theorem fX6_16 : z_Lf RX6 16 6 4 := ⟨RX6, TX6, 38, rfl, iX6, by decide, rfl, Or.inl (List.mem_of_getElem? (i := 721) (by decide +kernel))⟩
theorem fX6_114 : z_Lf RX6 114 6 5 := ⟨RX6, TX6, 38, rfl, iX6, by decide, rfl, Or.inl (List.mem_of_getElem? (i := 722) (by decide +kernel))⟩
theorem pX6_114 : z_Lp RX6 114 6 5 .int := ⟨RX6, TX6, 38, tyX6, rfl, iX6, by decide, rfl, Or.inl (List.mem_of_getElem? (i := 722) (by decide +kernel)), tyX6_ok, nmX6, rfl, by decide +kernel⟩
theorem fX6_84 : z_Lf RX6 84 6 6 := ⟨RX6, TX6, 38, rfl, iX6, by decide, rfl, Or.inl (List.mem_of_getElem? (i := 723) (by decide +kernel))⟩
theorem pX6_84 : z_Lp RX6 84 6 6 .int := ⟨RX6, TX6, 38, tyX6, rfl, iX6, by decide, rfl, Or.inl (List.mem_of_getElem? (i := 723) (by decide +kernel)), tyX6_ok, nmX6, rfl, by decide +kernel⟩
theorem fX6_87 : z_Lf RX6 87 6 7 := ⟨RX6, TX6, 38, rfl, iX6, by decide, rfl, Or.inl (List.mem_of_getElem? (i := 724) (by decide +kernel))⟩
theorem pX6_87 : z_Lp RX6 87 6 7 .int := ⟨RX6, TX6, 38, tyX6, rfl, iX6, by decide, rfl, Or.inl (List.mem_of_getElem? (i := 724) (by decide +kernel)), tyX6_ok, nmX6, rfl, by decide +kernel⟩
theorem fX6_19 : z_Lf RX6 19 6 8 := ⟨RX6, TX6, 38, rfl, iX6, by decide, rfl, Or.inl (List.mem_of_getElem? (i := 725) (by decide +kernel))⟩
theorem pX6_19 : z_Lp RX6 19 6 8 .int := ⟨RX6, TX6, 38, tyX6, rfl, iX6, by decide, rfl, Or.inl (List.mem_of_getElem? (i := 725) (by decide +kernel)), tyX6_ok, nmX6, rfl, by decide +kernel⟩
theorem fX6_23 : z_Lf RX6 23 6 9 := ⟨RX6, TX6, 38, rfl, iX6, by decide, rfl, Or.inl (List.mem_of_getElem? (i := 726) (by decide +kernel))⟩
theorem fX6_26 : z_Lf RX6 26 6 10 := ⟨RX6, TX6, 38, rfl, iX6, by decide, rfl, Or.inl (List.mem_of_getElem? (i := 727) (by decide +kernel))⟩
theorem fX6_29 : z_Lf RX6 29 6 11 := ⟨RX6, TX6, 38, rfl, iX6, by decide, rfl, Or.inl (List.mem_of_getElem? (i := 728) (by decide +kernel))⟩
theorem fX6_33 : z_Lf RX6 33 6 12 := ⟨RX6, TX6, 38, rfl, iX6, by decide, rfl, Or.inl (List.mem_of_getElem? (i := 729) (by decide +kernel))⟩
theorem fX6_36 : z_Lf RX6 36 6 13 := ⟨RX6, TX6, 38, rfl, iX6, by decide, rfl, Or.inl (List.mem_of_getElem? (i := 730) (by decide +kernel))⟩
theorem fX6_39 : z_Lf RX6 39 6 14 := ⟨RX6, TX6, 38, rfl, iX6, by decide, rfl, Or.inl (List.mem_of_getElem? (i := 731) (by decide +kernel))⟩
theorem pX6_39 : z_Lp RX6 39 6 14 .int := ⟨RX6, TX6, 38, tyX6, rfl, iX6, by decide, rfl, Or.inl (List.mem_of_getElem? (i := 731) (by decide +kernel)), tyX6_ok, nmX6, rfl, by decide +kernel⟩
theorem fX6_90 : z_Lf RX6 90 6 15 := ⟨RX6, TX6, 38, rfl, iX6, by decide, rfl, Or.inl (List.mem_of_getElem? (i := 732) (by decide +kernel))⟩
theorem pX6_90 : z_Lp RX6 90 6 15 .int := ⟨RX6, TX6, 38, tyX6, rfl, iX6, by decide, rfl, Or.inl (List.mem_of_getElem? (i := 732) (by decide +kernel)), tyX6_ok, nmX6, rfl, by decide +kernel⟩
theorem fX6_111 : z_Lf RX6 111 6 16 := ⟨RX6, TX6, 38, rfl, iX6, by decide, rfl, Or.inl (List.mem_of_getElem? (i := 733) (by decide +kernel))⟩
theorem pX6_111 : z_Lp RX6 111 6 16 .int := ⟨RX6, TX6, 38, tyX6, rfl, iX6, by decide, rfl, Or.inl (List.mem_of_getElem? (i := 733) (by decide +kernel)), tyX6_ok, nmX6, rfl, by decide +kernel⟩
theorem fX6_117 : z_Lf RX6 117 6 17 := ⟨RX6, TX6, 38, rfl, iX6, by decide, rfl, Or.inl (List.mem_of_getElem? (i := 734) (by decide +kernel))⟩
theorem pX6_117 : z_Lp RX6 117 6 17 .int := ⟨RX6, TX6, 38, tyX6, rfl, iX6, by decide, rfl, Or.inl (List.mem_of_getElem? (i := 734) (by decide +kernel)), tyX6_ok, nmX6, rfl, by decide +kernel⟩
theorem fX6_120 : z_Lf RX6 120 6 18 := ⟨RX6, TX6, 38, rfl, iX6, by decide, rfl, Or.inl (List.mem_of_getElem? (i := 735) (by decide +kernel))⟩
theorem pX6_120 : z_Lp RX6 120 6 18 .int := ⟨RX6, TX6, 38, tyX6, rfl, iX6, by decide, rfl, Or.inl (List.mem_of_getElem? (i := 735) (by decide +kernel)), tyX6_ok, nmX6, rfl, by decide +kernel⟩
theorem fX6_42 : z_Lf RX6 42 6 19 := ⟨RX6, TX6, 38, rfl, iX6, by decide, rfl, Or.inl (List.mem_of_getElem? (i := 736) (by decide +kernel))⟩
theorem fX6_45 : z_Lf RX6 45 6 20 := ⟨RX6, TX6, 38, rfl, iX6, by decide, rfl, Or.inl (List.mem_of_getElem? (i := 737) (by decide +kernel))⟩
theorem fX6_172 : z_Lf RX6 172 6 21 := ⟨RX6, TX6, 38, rfl, iX6, by decide, rfl, Or.inl (List.mem_of_getElem? (i := 738) (by decide +kernel))⟩
theorem pX6_172 : z_Lp RX6 172 6 21 .int := ⟨RX6, TX6, 38, tyX6, rfl, iX6, by decide, rfl, Or.inl (List.mem_of_getElem? (i := 738) (by decide +kernel)), tyX6_ok, nmX6, rfl, by decide +kernel⟩
theorem fX6_48 : z_Lf RX6 48 6 22 := ⟨RX6, TX6, 38, rfl, iX6, by decide, rfl, Or.inl (List.mem_of_getElem? (i := 739) (by decide +kernel))⟩
theorem fX6_51 : z_Lf RX6 51 6 23 := ⟨RX6, TX6, 38, rfl, iX6, by decide, rfl, Or.inl (List.mem_of_getElem? (i := 740) (by decide +kernel))⟩
theorem fX6_54 : z_Lf RX6 54 6 24 := ⟨RX6, TX6, 38, rfl, iX6, by decide, rfl, Or.inl (List.mem_of_getElem? (i := 741) (by decide +kernel))⟩
theorem fX6_57 : z_Lf RX6 57 6 25 := ⟨RX6, TX6, 38, rfl, iX6, by decide, rfl, Or.inl (List.mem_of_getElem? (i := 742) (by decide +kernel))⟩
theorem fX6_175 : z_Lf RX6 175 6 26 := ⟨RX6, TX6, 38, rfl, iX6, by decide, rfl, Or.inl (List.mem_of_getElem? (i := 743) (by decide +kernel))⟩
theorem pX6_175 : z_Lp RX6 175 6 26 .int := ⟨RX6, TX6, 38, tyX6, rfl, iX6, by decide, rfl, Or.inl (List.mem_of_getElem? (i := 743) (by decide +kernel)), tyX6_ok, nmX6, rfl, by decide +kernel⟩
theorem fX6_178 : z_Lf RX6 178 6 27 := ⟨RX6, TX6, 38, rfl, iX6, by decide, rfl, Or.inl (List.mem_of_getElem? (i := 744) (by decide +kernel))⟩
theorem pX6_178 : z_Lp RX6 178 6 27 .int := ⟨RX6, TX6, 38, tyX6, rfl, iX6, by decide, rfl, Or.inl (List.mem_of_getElem? (i := 744) (by decide +kernel)), tyX6_ok, nmX6, rfl, by decide +kernel⟩
theorem fX6_181 : z_Lf RX6 181 6 28 := ⟨RX6, TX6, 38, rfl, iX6, by decide, rfl, Or.inl (List.mem_of_getElem? (i := 745) (by decide +kernel))⟩
theorem pX6_181 : z_Lp RX6 181 6 28 .long := ⟨RX6, TX6, 38, tyX6, rfl, iX6, by decide, rfl, Or.inl (List.mem_of_getElem? (i := 745) (by decide +kernel)), tyX6_ok, nmX6, rfl, by decide +kernel⟩
theorem fX6_185 : z_Lf RX6 185 6 29 := ⟨RX6, TX6, 38, rfl, iX6, by decide, rfl, Or.inl (List.mem_of_getElem? (i := 746) (by decide +kernel))⟩
theorem pX6_185 : z_Lp RX6 185 6 29 .long := ⟨RX6, TX6, 38, tyX6, rfl, iX6, by decide, rfl, Or.inl (List.mem_of_getElem? (i := 746) (by decide +kernel)), tyX6_ok, nmX6, rfl, by decide +kernel⟩
theorem fX6_60 : z_Lf RX6 60 6 30 := ⟨RX6, TX6, 38, rfl, iX6, by decide, rfl, Or.inl (List.mem_of_getElem? (i := 747) (by decide +kernel))⟩
theorem fX6_63 : z_Lf RX6 63 6 31 := ⟨RX6, TX6, 38, rfl, iX6, by decide, rfl, Or.inl (List.mem_of_getElem? (i := 748) (by decide +kernel))⟩
theorem fX6_236 : z_Lf RX6 236 6 32 := ⟨RX6, TX6, 38, rfl, iX6, by decide, rfl, Or.inl (List.mem_of_getElem? (i := 749) (by decide +kernel))⟩
theorem pX6_236 : z_Lp RX6 236 6 32 .int := ⟨RX6, TX6, 38, tyX6, rfl, iX6, by decide, rfl, Or.inl (List.mem_of_getElem? (i := 749) (by decide +kernel)), tyX6_ok, nmX6, rfl, by decide +kernel⟩
theorem fX6_239 : z_Lf RX6 239 6 33 := ⟨RX6, TX6, 38, rfl, iX6, by decide, rfl, Or.inl (List.mem_of_getElem? (i := 750) (by decide +kernel))⟩
theorem pX6_239 : z_Lp RX6 239 6 33 .int := ⟨RX6, TX6, 38, tyX6, rfl, iX6, by decide, rfl, Or.inl (List.mem_of_getElem? (i := 750) (by decide +kernel)), tyX6_ok, nmX6, rfl, by decide +kernel⟩
theorem fX6_123 : z_Lf RX6 123 6 34 := ⟨RX6, TX6, 38, rfl, iX6, by decide, rfl, Or.inl (List.mem_of_getElem? (i := 751) (by decide +kernel))⟩
theorem pX6_123 : z_Lp RX6 123 6 34 .int := ⟨RX6, TX6, 38, tyX6, rfl, iX6, by decide, rfl, Or.inl (List.mem_of_getElem? (i := 751) (by decide +kernel)), tyX6_ok, nmX6, rfl, by decide +kernel⟩
theorem fX6_66 : z_Lf RX6 66 6 35 := ⟨RX6, TX6, 38, rfl, iX6, by decide, rfl, Or.inl (List.mem_of_getElem? (i := 752) (by decide +kernel))⟩
theorem fX6_69 : z_Lf RX6 69 6 36 := ⟨RX6, TX6, 38, rfl, iX6, by decide, rfl, Or.inl (List.mem_of_getElem? (i := 753) (by decide +kernel))⟩
theorem fX6_72 : z_Lf RX6 72 6 37 := ⟨RX6, TX6, 38, rfl, iX6, by decide, rfl, Or.inl (List.mem_of_getElem? (i := 754) (by decide +kernel))⟩
end
section
/-! locals -/
def z_lst (ad : Nat → Nat) (ls : List Value) : List (Nat × Value) := (List.range ls.length).filterMap (fun k => match ls[k]? with
  | some Value.null => none
  | some v => some (k, z_cv ad v)
  | none => none)
theorem z_lst_mem {ad : Nat → Nat} {ls : List Value} {q : Nat × Value} (h : q ∈ z_lst ad ls) : ∃ v, ls[q.1]? = some v ∧ v ≠ .null ∧ q.2 = z_cv ad v := by
  obtain ⟨k, hk, h2⟩ := List.mem_filterMap.mp h
  cases hv : ls[k]? with
  | none => rw [hv] at h2; cases h2
  | some v =>
    rw [hv] at h2
    cases v <;> first | (cases h2; done) | (cases h2; exact ⟨_, hv, (fun e => by cases e), rfl⟩)
theorem z_lst_in {ad : Nat → Nat} {ls : List Value} {k : Nat} {v : Value} (h : ls[k]? = some v) (hv : v ≠ .null) : (k, z_cv ad v) ∈ z_lst ad ls := by
  refine List.mem_filterMap.mpr ⟨k, List.mem_range.mpr (List.getElem?_eq_some_iff.mp h).1, ?_⟩
  rw [h]
  cases v <;> first | rfl | exact absurd rfl hv
theorem z_loc.has {ad : Nat → Nat} {nL : Nat} {ls : List Value} {lsA : Array Slot} (h : z_loc ad nL ls lsA) : lv_has lsA nL (z_lst ad ls) := by
  refine ⟨h.2.1, h.2.2.1, fun q hq => ?_⟩
  obtain ⟨v, h1, h2, h3⟩ := z_lst_mem hq
  rw [h3]
  exact h.2.2.2 q.1 v h1 h2
theorem z_cv_cat (ad : Nat → Nat) (v : Value) : (z_cv ad v).category = v.category := by cases v <;> rfl
theorem z_loc.set1 {ad : Nat → Nat} {nL i : Nat} {ls : List Value} {x : Value} {lsA lsB : Array Slot} (h : z_loc ad nL ls lsA) (hi : i < ls.length) (hk : ∀ u, ls[i - 1]? = some u → i ≠ 0 → u.category ≠ 2) (hB : lv_has lsB nL ((i, z_cv ad x) :: (z_lst ad ls).filter (fun q => !(q.1 == i) && !(q.1 + 1 == i && q.2.category == 2)))) : z_loc ad nL (ls.set i x) lsB := by
  refine ⟨by rw [List.length_set]; exact h.1, hB.1, hB.2.1, fun k v hv hn => ?_⟩
  by_cases hki : k = i
  · subst hki
    rw [List.getElem?_set_self hi] at hv
    rw [← Option.some.inj hv]
    exact hB.2.2 _ List.mem_cons_self
  · rw [List.getElem?_set_ne (Ne.symm hki)] at hv
    refine hB.2.2 (k, z_cv ad v) (List.mem_cons_of_mem _ (List.mem_filter.mpr ⟨z_lst_in hv hn, ?_⟩))
    have h1 : (k == i) = false := by simpa using hki
    by_cases h2 : k + 1 = i
    · have h3 : v.category ≠ 2 := hk v (by rw [← h2]; exact hv) (by omega)
      simp [h1, z_cv_cat, h3]
    · simp [h1, h2]
theorem z_loc.set2 {ad : Nat → Nat} {nL i : Nat} {ls : List Value} {x : Value} {lsA lsB : Array Slot} (h : z_loc ad nL ls lsA) (hi : i + 1 < ls.length) (hk : ∀ u, ls[i - 1]? = some u → i ≠ 0 → u.category ≠ 2) (hB : lv_has lsB nL ((i, z_cv ad x) :: (z_lst ad ls).filter (fun q => !(q.1 == i) && (!(q.1 == i + 1) && !(q.1 + 1 == i && q.2.category == 2))))) : z_loc ad nL ((ls.set i x).set (i + 1) .null) lsB := by
  refine ⟨by rw [List.length_set, List.length_set]; exact h.1, hB.1, hB.2.1, fun k v hv hn => ?_⟩
  by_cases hk1 : k = i + 1
  · subst hk1
    rw [List.getElem?_set_self (by rw [List.length_set]; exact hi)] at hv
    exact absurd (Option.some.inj hv).symm hn
  · rw [List.getElem?_set_ne (Ne.symm hk1)] at hv
    by_cases hki : k = i
    · subst hki
      rw [List.getElem?_set_self (by omega)] at hv
      rw [← Option.some.inj hv]
      exact hB.2.2 _ List.mem_cons_self
    · rw [List.getElem?_set_ne (Ne.symm hki)] at hv
      refine hB.2.2 (k, z_cv ad v) (List.mem_cons_of_mem _ (List.mem_filter.mpr ⟨z_lst_in hv hn, ?_⟩))
      have h1 : (k == i) = false := by simpa using hki
      have h1' : (k == i + 1) = false := by simpa using hk1
      by_cases h2 : k + 1 = i
      · have h3 : v.category ≠ 2 := hk v (by rw [← h2]; exact hv) (by omega)
        simp [h1, h1', z_cv_cat, h3]
      · simp [h1, h1', h2]
theorem x_iadd {i : zM} {d pc pc2 : Nat} {ls st : List Value} {σ : zS} {Q : Option Value → zS → Prop} {x y : Int32} (hd : decode i.2.1 pc = .ok (.iadd, 1)) (hp : pc + 1 = pc2)  (h : z_At i d pc2 ls (.int (x + y) :: st) σ Q) : z_At i d pc ls (.int y :: .int x :: st) σ Q := by
  subst hp
  intro p l e R s m args below meth c cells slots QS ad dC dI cA A hC hN hc hR H locs lsA hH hl
  exact lv_iadd hC.1 hC.2.1 hd  (h p l e R s m args below meth c cells slots QS ad dC dI cA A hC hN hc hR H locs lsA hH hl)
theorem x_isub {i : zM} {d pc pc2 : Nat} {ls st : List Value} {σ : zS} {Q : Option Value → zS → Prop} {x y : Int32} (hd : decode i.2.1 pc = .ok (.isub, 1)) (hp : pc + 1 = pc2)  (h : z_At i d pc2 ls (.int (x - y) :: st) σ Q) : z_At i d pc ls (.int y :: .int x :: st) σ Q := by
  subst hp
  intro p l e R s m args below meth c cells slots QS ad dC dI cA A hC hN hc hR H locs lsA hH hl
  exact lv_isub hC.1 hC.2.1 hd  (h p l e R s m args below meth c cells slots QS ad dC dI cA A hC hN hc hR H locs lsA hH hl)
theorem x_imul {i : zM} {d pc pc2 : Nat} {ls st : List Value} {σ : zS} {Q : Option Value → zS → Prop} {x y : Int32} (hd : decode i.2.1 pc = .ok (.imul, 1)) (hp : pc + 1 = pc2)  (h : z_At i d pc2 ls (.int (x * y) :: st) σ Q) : z_At i d pc ls (.int y :: .int x :: st) σ Q := by
  subst hp
  intro p l e R s m args below meth c cells slots QS ad dC dI cA A hC hN hc hR H locs lsA hH hl
  exact lv_imul hC.1 hC.2.1 hd  (h p l e R s m args below meth c cells slots QS ad dC dI cA A hC hN hc hR H locs lsA hH hl)
theorem x_iand {i : zM} {d pc pc2 : Nat} {ls st : List Value} {σ : zS} {Q : Option Value → zS → Prop} {x y : Int32} (hd : decode i.2.1 pc = .ok (.iand, 1)) (hp : pc + 1 = pc2)  (h : z_At i d pc2 ls (.int (x &&& y) :: st) σ Q) : z_At i d pc ls (.int y :: .int x :: st) σ Q := by
  subst hp
  intro p l e R s m args below meth c cells slots QS ad dC dI cA A hC hN hc hR H locs lsA hH hl
  exact lv_iand hC.1 hC.2.1 hd  (h p l e R s m args below meth c cells slots QS ad dC dI cA A hC hN hc hR H locs lsA hH hl)
theorem x_ior {i : zM} {d pc pc2 : Nat} {ls st : List Value} {σ : zS} {Q : Option Value → zS → Prop} {x y : Int32} (hd : decode i.2.1 pc = .ok (.ior, 1)) (hp : pc + 1 = pc2)  (h : z_At i d pc2 ls (.int (x ||| y) :: st) σ Q) : z_At i d pc ls (.int y :: .int x :: st) σ Q := by
  subst hp
  intro p l e R s m args below meth c cells slots QS ad dC dI cA A hC hN hc hR H locs lsA hH hl
  exact lv_ior hC.1 hC.2.1 hd  (h p l e R s m args below meth c cells slots QS ad dC dI cA A hC hN hc hR H locs lsA hH hl)
theorem x_ixor {i : zM} {d pc pc2 : Nat} {ls st : List Value} {σ : zS} {Q : Option Value → zS → Prop} {x y : Int32} (hd : decode i.2.1 pc = .ok (.ixor, 1)) (hp : pc + 1 = pc2)  (h : z_At i d pc2 ls (.int (x ^^^ y) :: st) σ Q) : z_At i d pc ls (.int y :: .int x :: st) σ Q := by
  subst hp
  intro p l e R s m args below meth c cells slots QS ad dC dI cA A hC hN hc hR H locs lsA hH hl
  exact lv_ixor hC.1 hC.2.1 hd  (h p l e R s m args below meth c cells slots QS ad dC dI cA A hC hN hc hR H locs lsA hH hl)
theorem x_ishl {i : zM} {d pc pc2 : Nat} {ls st : List Value} {σ : zS} {Q : Option Value → zS → Prop} {x y : Int32} (hd : decode i.2.1 pc = .ok (.ishl, 1)) (hp : pc + 1 = pc2)  (h : z_At i d pc2 ls (.int (x <<< (y &&& 31)) :: st) σ Q) : z_At i d pc ls (.int y :: .int x :: st) σ Q := by
  subst hp
  intro p l e R s m args below meth c cells slots QS ad dC dI cA A hC hN hc hR H locs lsA hH hl
  exact lv_ishl hC.1 hC.2.1 hd  (h p l e R s m args below meth c cells slots QS ad dC dI cA A hC hN hc hR H locs lsA hH hl)
theorem x_ishr {i : zM} {d pc pc2 : Nat} {ls st : List Value} {σ : zS} {Q : Option Value → zS → Prop} {x y : Int32} (hd : decode i.2.1 pc = .ok (.ishr, 1)) (hp : pc + 1 = pc2)  (h : z_At i d pc2 ls (.int (x >>> (y &&& 31)) :: st) σ Q) : z_At i d pc ls (.int y :: .int x :: st) σ Q := by
  subst hp
  intro p l e R s m args below meth c cells slots QS ad dC dI cA A hC hN hc hR H locs lsA hH hl
  exact lv_ishr hC.1 hC.2.1 hd  (h p l e R s m args below meth c cells slots QS ad dC dI cA A hC hN hc hR H locs lsA hH hl)
theorem x_idiv {i : zM} {d pc pc2 : Nat} {ls st : List Value} {σ : zS} {Q : Option Value → zS → Prop} {x y : Int32} (hd : decode i.2.1 pc = .ok (.idiv, 1)) (hp : pc + 1 = pc2) (hne : ¬ y = 0) (h : z_At i d pc2 ls (.int (x / y) :: st) σ Q) : z_At i d pc ls (.int y :: .int x :: st) σ Q := by
  subst hp
  intro p l e R s m args below meth c cells slots QS ad dC dI cA A hC hN hc hR H locs lsA hH hl
  exact lv_idiv hC.1 hC.2.1 hd hne (h p l e R s m args below meth c cells slots QS ad dC dI cA A hC hN hc hR H locs lsA hH hl)
theorem x_irem {i : zM} {d pc pc2 : Nat} {ls st : List Value} {σ : zS} {Q : Option Value → zS → Prop} {x y : Int32} (hd : decode i.2.1 pc = .ok (.irem, 1)) (hp : pc + 1 = pc2) (hne : ¬ y = 0) (h : z_At i d pc2 ls (.int (x - x / y * y) :: st) σ Q) : z_At i d pc ls (.int y :: .int x :: st) σ Q := by
  subst hp
  intro p l e R s m args below meth c cells slots QS ad dC dI cA A hC hN hc hR H locs lsA hH hl
  exact lv_irem hC.1 hC.2.1 hd hne (h p l e R s m args below meth c cells slots QS ad dC dI cA A hC hN hc hR H locs lsA hH hl)
theorem x_iushr {i : zM} {d pc pc2 : Nat} {ls st : List Value} {σ : zS} {Q : Option Value → zS → Prop} {x y : Int32} (hd : decode i.2.1 pc = .ok (.iushr, 1)) (hp : pc + 1 = pc2)  (h : z_At i d pc2 ls (.int ((x.toUInt32 >>> (y.toUInt32 &&& Int32.toUInt32 31)).toInt32) :: st) σ Q) : z_At i d pc ls (.int y :: .int x :: st) σ Q := by
  subst hp
  intro p l e R s m args below meth c cells slots QS ad dC dI cA A hC hN hc hR H locs lsA hH hl
  exact lv_iushr hC.1 hC.2.1 hd rfl (h p l e R s m args below meth c cells slots QS ad dC dI cA A hC hN hc hR H locs lsA hH hl)
theorem x_lmul {i : zM} {d pc pc2 : Nat} {ls st : List Value} {σ : zS} {Q : Option Value → zS → Prop} {x y : Int64} (hd : decode i.2.1 pc = .ok (.lmul, 1)) (hp : pc + 1 = pc2)  (h : z_At i d pc2 ls (.long (x * y) :: st) σ Q) : z_At i d pc ls (.long y :: .long x :: st) σ Q := by
  subst hp
  intro p l e R s m args below meth c cells slots QS ad dC dI cA A hC hN hc hR H locs lsA hH hl
  exact lv_lmul hC.1 hC.2.1 hd  (h p l e R s m args below meth c cells slots QS ad dC dI cA A hC hN hc hR H locs lsA hH hl)
theorem x_ldiv {i : zM} {d pc pc2 : Nat} {ls st : List Value} {σ : zS} {Q : Option Value → zS → Prop} {x y : Int64} (hd : decode i.2.1 pc = .ok (.ldiv, 1)) (hp : pc + 1 = pc2) (hne : ¬ y = 0) (h : z_At i d pc2 ls (.long (x / y) :: st) σ Q) : z_At i d pc ls (.long y :: .long x :: st) σ Q := by
  subst hp
  intro p l e R s m args below meth c cells slots QS ad dC dI cA A hC hN hc hR H locs lsA hH hl
  exact lv_ldiv hC.1 hC.2.1 hd hne (h p l e R s m args below meth c cells slots QS ad dC dI cA A hC hN hc hR H locs lsA hH hl)
theorem x_lrem {i : zM} {d pc pc2 : Nat} {ls st : List Value} {σ : zS} {Q : Option Value → zS → Prop} {x y : Int64} (hd : decode i.2.1 pc = .ok (.lrem, 1)) (hp : pc + 1 = pc2) (hne : ¬ y = 0) (h : z_At i d pc2 ls (.long (x - x / y * y) :: st) σ Q) : z_At i d pc ls (.long y :: .long x :: st) σ Q := by
  subst hp
  intro p l e R s m args below meth c cells slots QS ad dC dI cA A hC hN hc hR H locs lsA hH hl
  exact lv_lrem hC.1 hC.2.1 hd hne (h p l e R s m args below meth c cells slots QS ad dC dI cA A hC hN hc hR H locs lsA hH hl)
theorem x_lcmp {i : zM} {d pc pc2 : Nat} {ls st : List Value} {σ : zS} {Q : Option Value → zS → Prop} {x y : Int64} (hd : decode i.2.1 pc = .ok (.lcmp, 1)) (hp : pc + 1 = pc2)  (h : z_At i d pc2 ls (.int (lg_cmp x y) :: st) σ Q) : z_At i d pc ls (.long y :: .long x :: st) σ Q := by
  subst hp
  intro p l e R s m args below meth c cells slots QS ad dC dI cA A hC hN hc hR H locs lsA hH hl
  exact W.lcmp hC.1 hC.2.1 hd  (h p l e R s m args below meth c cells slots QS ad dC dI cA A hC hN hc hR H locs lsA hH hl)
theorem x_i2l {i : zM} {d pc pc2 : Nat} {ls st : List Value} {σ : zS} {Q : Option Value → zS → Prop} {x : Int32} (hd : decode i.2.1 pc = .ok (.i2l, 1)) (hp : pc + 1 = pc2)  (h : z_At i d pc2 ls (.long x.toInt64 :: st) σ Q) : z_At i d pc ls (.int x :: st) σ Q := by
  subst hp
  intro p l e R s m args below meth c cells slots QS ad dC dI cA A hC hN hc hR H locs lsA hH hl
  exact lv_i2l hC.1 hC.2.1 hd rfl (h p l e R s m args below meth c cells slots QS ad dC dI cA A hC hN hc hR H locs lsA hH hl)
theorem x_i2b {i : zM} {d pc pc2 : Nat} {ls st : List Value} {σ : zS} {Q : Option Value → zS → Prop} {x : Int32} (hd : decode i.2.1 pc = .ok (.i2b, 1)) (hp : pc + 1 = pc2)  (h : z_At i d pc2 ls (.int x.toInt8.toInt32 :: st) σ Q) : z_At i d pc ls (.int x :: st) σ Q := by
  subst hp
  intro p l e R s m args below meth c cells slots QS ad dC dI cA A hC hN hc hR H locs lsA hH hl
  exact lv_i2b hC.1 hC.2.1 hd rfl (h p l e R s m args below meth c cells slots QS ad dC dI cA A hC hN hc hR H locs lsA hH hl)
theorem x_i2s {i : zM} {d pc pc2 : Nat} {ls st : List Value} {σ : zS} {Q : Option Value → zS → Prop} {x : Int32} (hd : decode i.2.1 pc = .ok (.i2s, 1)) (hp : pc + 1 = pc2)  (h : z_At i d pc2 ls (.int x.toInt16.toInt32 :: st) σ Q) : z_At i d pc ls (.int x :: st) σ Q := by
  subst hp
  intro p l e R s m args below meth c cells slots QS ad dC dI cA A hC hN hc hR H locs lsA hH hl
  exact lv_i2s hC.1 hC.2.1 hd rfl (h p l e R s m args below meth c cells slots QS ad dC dI cA A hC hN hc hR H locs lsA hH hl)
theorem x_iconst {i : zM} {d pc pc2 : Nat} {ls st : List Value} {σ : zS} {Q : Option Value → zS → Prop} {n : Int} {v : Int32} (hd : decode i.2.1 pc = .ok (.iconst n, 1)) (hp : pc + 1 = pc2) (hv : Int32.ofInt n = v) (h : z_At i d pc2 ls (.int v :: st) σ Q) : z_At i d pc ls (st) σ Q := by
  subst hp
  intro p l e R s m args below meth c cells slots QS ad dC dI cA A hC hN hc hR H locs lsA hH hl
  exact lv_iconst hC.1 hC.2.1 hd hv (h p l e R s m args below meth c cells slots QS ad dC dI cA A hC hN hc hR H locs lsA hH hl)
theorem x_bipush {i : zM} {d pc pc2 : Nat} {ls st : List Value} {σ : zS} {Q : Option Value → zS → Prop} {n : Int} {v : Int32} (hd : decode i.2.1 pc = .ok (.bipush n, 2)) (hp : pc + 2 = pc2) (hv : (Int8.ofInt n).toInt32 = v) (h : z_At i d pc2 ls (.int v :: st) σ Q) : z_At i d pc ls (st) σ Q := by
  subst hp
  intro p l e R s m args below meth c cells slots QS ad dC dI cA A hC hN hc hR H locs lsA hH hl
  exact lv_bipush hC.1 hC.2.1 hd hv (h p l e R s m args below meth c cells slots QS ad dC dI cA A hC hN hc hR H locs lsA hH hl)
theorem x_sipush {i : zM} {d pc pc2 : Nat} {ls st : List Value} {σ : zS} {Q : Option Value → zS → Prop} {n : Int} {v : Int32} (hd : decode i.2.1 pc = .ok (.sipush n, 3)) (hp : pc + 3 = pc2) (hv : (Int16.ofInt n).toInt32 = v) (h : z_At i d pc2 ls (.int v :: st) σ Q) : z_At i d pc ls (st) σ Q := by
  subst hp
  intro p l e R s m args below meth c cells slots QS ad dC dI cA A hC hN hc hR H locs lsA hH hl
  exact lv_sipush hC.1 hC.2.1 hd hv (h p l e R s m args below meth c cells slots QS ad dC dI cA A hC hN hc hR H locs lsA hH hl)
theorem x_lconst {i : zM} {d pc pc2 : Nat} {ls st : List Value} {σ : zS} {Q : Option Value → zS → Prop} {n : Fin 2} {v : Int64} (hd : decode i.2.1 pc = .ok (.lconst n, 1)) (hp : pc + 1 = pc2) (hv : Int64.ofNat (n : Nat) = v) (h : z_At i d pc2 ls (.long v :: st) σ Q) : z_At i d pc ls (st) σ Q := by
  subst hp
  intro p l e R s m args below meth c cells slots QS ad dC dI cA A hC hN hc hR H locs lsA hH hl
  exact lv_lconst hC.1 hC.2.1 hd hv (h p l e R s m args below meth c cells slots QS ad dC dI cA A hC hN hc hR H locs lsA hH hl)
theorem x_dup {i : zM} {d pc pc2 : Nat} {ls st : List Value} {σ : zS} {Q : Option Value → zS → Prop} {v : Value} (hd : decode i.2.1 pc = .ok (.dup, 1)) (hp : pc + 1 = pc2) (hv : v.category = 1) (h : z_At i d pc2 ls (v :: v :: st) σ Q) : z_At i d pc ls (v :: st) σ Q := by
  subst hp
  intro p l e R s m args below meth c cells slots QS ad dC dI cA A hC hN hc hR H locs lsA hH hl
  exact lv_dup hC.1 hC.2.1 hd (by rw [z_cv_cat]; exact hv) (h p l e R s m args below meth c cells slots QS ad dC dI cA A hC hN hc hR H locs lsA hH hl)
theorem x_dup_x1 {i : zM} {d pc pc2 : Nat} {ls st : List Value} {σ : zS} {Q : Option Value → zS → Prop} {v w : Value} (hd : decode i.2.1 pc = .ok (.dup_x1, 1)) (hp : pc + 1 = pc2) (hv : v.category = 1) (hw : w.category = 1) (h : z_At i d pc2 ls (v :: w :: v :: st) σ Q) : z_At i d pc ls (v :: w :: st) σ Q := by
  subst hp
  intro p l e R s m args below meth c cells slots QS ad dC dI cA A hC hN hc hR H locs lsA hH hl
  exact lv_dup_x1 hC.1 hC.2.1 hd (by rw [z_cv_cat]; exact hv) (by rw [z_cv_cat]; exact hw) (h p l e R s m args below meth c cells slots QS ad dC dI cA A hC hN hc hR H locs lsA hH hl)
theorem x_dup2 {i : zM} {d pc pc2 : Nat} {ls st : List Value} {σ : zS} {Q : Option Value → zS → Prop} {v w : Value} (hd : decode i.2.1 pc = .ok (.dup2, 1)) (hp : pc + 1 = pc2) (hv : v.category = 1) (hw : w.category = 1) (h : z_At i d pc2 ls (v :: w :: v :: w :: st) σ Q) : z_At i d pc ls (v :: w :: st) σ Q := by
  subst hp
  intro p l e R s m args below meth c cells slots QS ad dC dI cA A hC hN hc hR H locs lsA hH hl
  exact lv_dup2_11 hC.1 hC.2.1 hd (by rw [z_cv_cat]; exact hv) (by rw [z_cv_cat]; exact hw) (h p l e R s m args below meth c cells slots QS ad dC dI cA A hC hN hc hR H locs lsA hH hl)
theorem x_dup2L {i : zM} {d pc pc2 : Nat} {ls st : List Value} {σ : zS} {Q : Option Value → zS → Prop} {v : Value} (hd : decode i.2.1 pc = .ok (.dup2, 1)) (hp : pc + 1 = pc2) (hv : v.category = 2) (h : z_At i d pc2 ls (v :: v :: st) σ Q) : z_At i d pc ls (v :: st) σ Q := by
  subst hp
  intro p l e R s m args below meth c cells slots QS ad dC dI cA A hC hN hc hR H locs lsA hH hl
  exact lv_dup2_2 hC.1 hC.2.1 hd (by rw [z_cv_cat]; exact hv) (h p l e R s m args below meth c cells slots QS ad dC dI cA A hC hN hc hR H locs lsA hH hl)
theorem x_pop {i : zM} {d pc pc2 : Nat} {ls st : List Value} {σ : zS} {Q : Option Value → zS → Prop} {v : Value} (hd : decode i.2.1 pc = .ok (.pop, 1)) (hp : pc + 1 = pc2) (hv : v.category = 1) (h : z_At i d pc2 ls (st) σ Q) : z_At i d pc ls (v :: st) σ Q := by
  subst hp
  intro p l e R s m args below meth c cells slots QS ad dC dI cA A hC hN hc hR H locs lsA hH hl
  exact lv_pop hC.1 hC.2.1 hd (by rw [z_cv_cat]; exact hv) (h p l e R s m args below meth c cells slots QS ad dC dI cA A hC hN hc hR H locs lsA hH hl)
theorem x_goto {i : zM} {d pc pc2 : Nat} {ls st : List Value} {σ : zS} {Q : Option Value → zS → Prop} {off : Int} (hd : decode i.2.1 pc = .ok (.goto off, 3)) (ht : (pc : Int) + off = (pc2 : Int)) (h : z_At i d pc2 ls st σ Q) : z_At i d pc ls st σ Q := by
  intro p l e R s m args below meth c cells slots QS ad dC dI cA A hC hN hc hR H locs lsA hH hl
  exact lv_goto hC.1 hC.2.1 hd ht (h p l e R s m args below meth c cells slots QS ad dC dI cA A hC hN hc hR H locs lsA hH hl)
theorem x_icmp_eq {i : zM} {d pc pc2 : Nat} {ls st : List Value} {σ : zS} {Q : Option Value → zS → Prop} {pc3 : Nat} {x y : Int32} {off : Int} (hd : decode i.2.1 pc = .ok (.if_icmp .eq off, 3)) (ht : (pc : Int) + off = (pc3 : Int)) (hp : pc + 3 = pc2) (kt : x = y → z_At i d pc3 ls st σ Q) (kf : ¬ x = y → z_At i d pc2 ls st σ Q) : z_At i d pc ls (.int y :: .int x :: st) σ Q := by
  subst hp
  intro p l e R s m args below meth c cells slots QS ad dC dI cA A hC hN hc hR H locs lsA hH hl
  exact lv_icmp_eq hC.1 hC.2.1 hd ht (fun g => kt g p l e R s m args below meth c cells slots QS ad dC dI cA A hC hN hc hR H locs lsA hH hl) (fun g => kf g p l e R s m args below meth c cells slots QS ad dC dI cA A hC hN hc hR H locs lsA hH hl)
theorem x_if_eq {i : zM} {d pc pc2 : Nat} {ls st : List Value} {σ : zS} {Q : Option Value → zS → Prop} {pc3 : Nat} {x : Int32} {off : Int} (hd : decode i.2.1 pc = .ok (.ifCond .eq off, 3)) (ht : (pc : Int) + off = (pc3 : Int)) (hp : pc + 3 = pc2) (kt : x = 0 → z_At i d pc3 ls st σ Q) (kf : ¬ x = 0 → z_At i d pc2 ls st σ Q) : z_At i d pc ls (.int x :: st) σ Q := by
  subst hp
  intro p l e R s m args below meth c cells slots QS ad dC dI cA A hC hN hc hR H locs lsA hH hl
  exact lv_if_eq hC.1 hC.2.1 hd ht (fun g => kt g p l e R s m args below meth c cells slots QS ad dC dI cA A hC hN hc hR H locs lsA hH hl) (fun g => kf g p l e R s m args below meth c cells slots QS ad dC dI cA A hC hN hc hR H locs lsA hH hl)
theorem x_icmp_ne {i : zM} {d pc pc2 : Nat} {ls st : List Value} {σ : zS} {Q : Option Value → zS → Prop} {pc3 : Nat} {x y : Int32} {off : Int} (hd : decode i.2.1 pc = .ok (.if_icmp .ne off, 3)) (ht : (pc : Int) + off = (pc3 : Int)) (hp : pc + 3 = pc2) (kt : ¬ x = y → z_At i d pc3 ls st σ Q) (kf : x = y → z_At i d pc2 ls st σ Q) : z_At i d pc ls (.int y :: .int x :: st) σ Q := by
  subst hp
  intro p l e R s m args below meth c cells slots QS ad dC dI cA A hC hN hc hR H locs lsA hH hl
  exact lv_icmp_ne hC.1 hC.2.1 hd ht (fun g => kt g p l e R s m args below meth c cells slots QS ad dC dI cA A hC hN hc hR H locs lsA hH hl) (fun g => kf g p l e R s m args below meth c cells slots QS ad dC dI cA A hC hN hc hR H locs lsA hH hl)
theorem x_if_ne {i : zM} {d pc pc2 : Nat} {ls st : List Value} {σ : zS} {Q : Option Value → zS → Prop} {pc3 : Nat} {x : Int32} {off : Int} (hd : decode i.2.1 pc = .ok (.ifCond .ne off, 3)) (ht : (pc : Int) + off = (pc3 : Int)) (hp : pc + 3 = pc2) (kt : ¬ x = 0 → z_At i d pc3 ls st σ Q) (kf : x = 0 → z_At i d pc2 ls st σ Q) : z_At i d pc ls (.int x :: st) σ Q := by
  subst hp
  intro p l e R s m args below meth c cells slots QS ad dC dI cA A hC hN hc hR H locs lsA hH hl
  exact lv_if_ne hC.1 hC.2.1 hd ht (fun g => kt g p l e R s m args below meth c cells slots QS ad dC dI cA A hC hN hc hR H locs lsA hH hl) (fun g => kf g p l e R s m args below meth c cells slots QS ad dC dI cA A hC hN hc hR H locs lsA hH hl)
theorem x_icmp_lt {i : zM} {d pc pc2 : Nat} {ls st : List Value} {σ : zS} {Q : Option Value → zS → Prop} {pc3 : Nat} {x y : Int32} {off : Int} (hd : decode i.2.1 pc = .ok (.if_icmp .lt off, 3)) (ht : (pc : Int) + off = (pc3 : Int)) (hp : pc + 3 = pc2) (kt : x < y → z_At i d pc3 ls st σ Q) (kf : ¬ x < y → z_At i d pc2 ls st σ Q) : z_At i d pc ls (.int y :: .int x :: st) σ Q := by
  subst hp
  intro p l e R s m args below meth c cells slots QS ad dC dI cA A hC hN hc hR H locs lsA hH hl
  exact lv_icmp_lt hC.1 hC.2.1 hd ht (fun g => kt g p l e R s m args below meth c cells slots QS ad dC dI cA A hC hN hc hR H locs lsA hH hl) (fun g => kf g p l e R s m args below meth c cells slots QS ad dC dI cA A hC hN hc hR H locs lsA hH hl)
theorem x_if_lt {i : zM} {d pc pc2 : Nat} {ls st : List Value} {σ : zS} {Q : Option Value → zS → Prop} {pc3 : Nat} {x : Int32} {off : Int} (hd : decode i.2.1 pc = .ok (.ifCond .lt off, 3)) (ht : (pc : Int) + off = (pc3 : Int)) (hp : pc + 3 = pc2) (kt : x < 0 → z_At i d pc3 ls st σ Q) (kf : ¬ x < 0 → z_At i d pc2 ls st σ Q) : z_At i d pc ls (.int x :: st) σ Q := by
  subst hp
  intro p l e R s m args below meth c cells slots QS ad dC dI cA A hC hN hc hR H locs lsA hH hl
  exact lv_if_lt hC.1 hC.2.1 hd ht (fun g => kt g p l e R s m args below meth c cells slots QS ad dC dI cA A hC hN hc hR H locs lsA hH hl) (fun g => kf g p l e R s m args below meth c cells slots QS ad dC dI cA A hC hN hc hR H locs lsA hH hl)
theorem x_icmp_ge {i : zM} {d pc pc2 : Nat} {ls st : List Value} {σ : zS} {Q : Option Value → zS → Prop} {pc3 : Nat} {x y : Int32} {off : Int} (hd : decode i.2.1 pc = .ok (.if_icmp .ge off, 3)) (ht : (pc : Int) + off = (pc3 : Int)) (hp : pc + 3 = pc2) (kt : y ≤ x → z_At i d pc3 ls st σ Q) (kf : ¬ y ≤ x → z_At i d pc2 ls st σ Q) : z_At i d pc ls (.int y :: .int x :: st) σ Q := by
  subst hp
  intro p l e R s m args below meth c cells slots QS ad dC dI cA A hC hN hc hR H locs lsA hH hl
  exact lv_icmp_ge hC.1 hC.2.1 hd ht (fun g => kt g p l e R s m args below meth c cells slots QS ad dC dI cA A hC hN hc hR H locs lsA hH hl) (fun g => kf g p l e R s m args below meth c cells slots QS ad dC dI cA A hC hN hc hR H locs lsA hH hl)
theorem x_if_ge {i : zM} {d pc pc2 : Nat} {ls st : List Value} {σ : zS} {Q : Option Value → zS → Prop} {pc3 : Nat} {x : Int32} {off : Int} (hd : decode i.2.1 pc = .ok (.ifCond .ge off, 3)) (ht : (pc : Int) + off = (pc3 : Int)) (hp : pc + 3 = pc2) (kt : 0 ≤ x → z_At i d pc3 ls st σ Q) (kf : ¬ 0 ≤ x → z_At i d pc2 ls st σ Q) : z_At i d pc ls (.int x :: st) σ Q := by
  subst hp
  intro p l e R s m args below meth c cells slots QS ad dC dI cA A hC hN hc hR H locs lsA hH hl
  exact lv_if_ge hC.1 hC.2.1 hd ht (fun g => kt g p l e R s m args below meth c cells slots QS ad dC dI cA A hC hN hc hR H locs lsA hH hl) (fun g => kf g p l e R s m args below meth c cells slots QS ad dC dI cA A hC hN hc hR H locs lsA hH hl)
theorem x_icmp_gt {i : zM} {d pc pc2 : Nat} {ls st : List Value} {σ : zS} {Q : Option Value → zS → Prop} {pc3 : Nat} {x y : Int32} {off : Int} (hd : decode i.2.1 pc = .ok (.if_icmp .gt off, 3)) (ht : (pc : Int) + off = (pc3 : Int)) (hp : pc + 3 = pc2) (kt : y < x → z_At i d pc3 ls st σ Q) (kf : ¬ y < x → z_At i d pc2 ls st σ Q) : z_At i d pc ls (.int y :: .int x :: st) σ Q := by
  subst hp
  intro p l e R s m args below meth c cells slots QS ad dC dI cA A hC hN hc hR H locs lsA hH hl
  exact lv_icmp_gt hC.1 hC.2.1 hd ht (fun g => kt g p l e R s m args below meth c cells slots QS ad dC dI cA A hC hN hc hR H locs lsA hH hl) (fun g => kf g p l e R s m args below meth c cells slots QS ad dC dI cA A hC hN hc hR H locs lsA hH hl)
theorem x_if_gt {i : zM} {d pc pc2 : Nat} {ls st : List Value} {σ : zS} {Q : Option Value → zS → Prop} {pc3 : Nat} {x : Int32} {off : Int} (hd : decode i.2.1 pc = .ok (.ifCond .gt off, 3)) (ht : (pc : Int) + off = (pc3 : Int)) (hp : pc + 3 = pc2) (kt : 0 < x → z_At i d pc3 ls st σ Q) (kf : ¬ 0 < x → z_At i d pc2 ls st σ Q) : z_At i d pc ls (.int x :: st) σ Q := by
  subst hp
  intro p l e R s m args below meth c cells slots QS ad dC dI cA A hC hN hc hR H locs lsA hH hl
  exact lv_if_gt hC.1 hC.2.1 hd ht (fun g => kt g p l e R s m args below meth c cells slots QS ad dC dI cA A hC hN hc hR H locs lsA hH hl) (fun g => kf g p l e R s m args below meth c cells slots QS ad dC dI cA A hC hN hc hR H locs lsA hH hl)
theorem x_icmp_le {i : zM} {d pc pc2 : Nat} {ls st : List Value} {σ : zS} {Q : Option Value → zS → Prop} {pc3 : Nat} {x y : Int32} {off : Int} (hd : decode i.2.1 pc = .ok (.if_icmp .le off, 3)) (ht : (pc : Int) + off = (pc3 : Int)) (hp : pc + 3 = pc2) (kt : x ≤ y → z_At i d pc3 ls st σ Q) (kf : ¬ x ≤ y → z_At i d pc2 ls st σ Q) : z_At i d pc ls (.int y :: .int x :: st) σ Q := by
  subst hp
  intro p l e R s m args below meth c cells slots QS ad dC dI cA A hC hN hc hR H locs lsA hH hl
  exact lv_icmp_le hC.1 hC.2.1 hd ht (fun g => kt g p l e R s m args below meth c cells slots QS ad dC dI cA A hC hN hc hR H locs lsA hH hl) (fun g => kf g p l e R s m args below meth c cells slots QS ad dC dI cA A hC hN hc hR H locs lsA hH hl)
theorem x_if_le {i : zM} {d pc pc2 : Nat} {ls st : List Value} {σ : zS} {Q : Option Value → zS → Prop} {pc3 : Nat} {x : Int32} {off : Int} (hd : decode i.2.1 pc = .ok (.ifCond .le off, 3)) (ht : (pc : Int) + off = (pc3 : Int)) (hp : pc + 3 = pc2) (kt : x ≤ 0 → z_At i d pc3 ls st σ Q) (kf : ¬ x ≤ 0 → z_At i d pc2 ls st σ Q) : z_At i d pc ls (.int x :: st) σ Q := by
  subst hp
  intro p l e R s m args below meth c cells slots QS ad dC dI cA A hC hN hc hR H locs lsA hH hl
  exact lv_if_le hC.1 hC.2.1 hd ht (fun g => kt g p l e R s m args below meth c cells slots QS ad dC dI cA A hC hN hc hR H locs lsA hH hl) (fun g => kf g p l e R s m args below meth c cells slots QS ad dC dI cA A hC hN hc hR H locs lsA hH hl)
theorem x_lookup {i : zM} {d pc pc2 : Nat} {ls st : List Value} {σ : zS} {Q : Option Value → zS → Prop} {dflt : Int} {ps : Array (Int × Int)} {len : Nat} {x : Int32} {off : Int} (hd : decode i.2.1 pc = .ok (.lookupswitch dflt ps, len)) (hp : (ps.toList.zip (ps.toList.drop 1)).all (fun (a, next) => a.1 < next.1) = true) (ho : Op.lookupswitch.offset ps.toList dflt x.toInt = off) (ht : (pc : Int) + off = (pc2 : Int)) (h : z_At i d pc2 ls st σ Q) : z_At i d pc ls (.int x :: st) σ Q := by
  intro p l e R s m args below meth c cells slots QS ad dC dI cA A hC hN hc hR H locs lsA hH hl
  exact lv_lookup hC.1 hC.2.1 hd hp ho ht (h p l e R s m args below meth c cells slots QS ad dC dI cA A hC hN hc hR H locs lsA hH hl)
theorem x_tableOut {i : zM} {d pc pc2 : Nat} {ls st : List Value} {σ : zS} {Q : Option Value → zS → Prop} {dflt lo hi : Int} {offs : Array Int} {len : Nat} {x : Int32} (hd : decode i.2.1 pc = .ok (.tableswitch dflt lo hi offs, len)) (hx : x.toInt < lo ∨ hi < x.toInt) (ht : (pc : Int) + dflt = (pc2 : Int)) (h : z_At i d pc2 ls st σ Q) : z_At i d pc ls (.int x :: st) σ Q := by
  intro p l e R s m args below meth c cells slots QS ad dC dI cA A hC hN hc hR H locs lsA hH hl
  exact lv_tableOut hC.1 hC.2.1 hd hx ht (h p l e R s m args below meth c cells slots QS ad dC dI cA A hC hN hc hR H locs lsA hH hl)
theorem x_tableIn {i : zM} {d pc pc2 : Nat} {ls st : List Value} {σ : zS} {Q : Option Value → zS → Prop} {dflt lo hi : Int} {offs : Array Int} {len : Nat} {x : Int32} {off : Int} (hd : decode i.2.1 pc = .ok (.tableswitch dflt lo hi offs, len)) (h1 : ¬ x.toInt < lo) (h2 : ¬ hi < x.toInt) (ho : offs[(x.toInt - lo).toNat]? = some off) (ht : (pc : Int) + off = (pc2 : Int)) (h : z_At i d pc2 ls st σ Q) : z_At i d pc ls (.int x :: st) σ Q := by
  intro p l e R s m args below meth c cells slots QS ad dC dI cA A hC hN hc hR H locs lsA hH hl
  exact lv_tableIn hC.1 hC.2.1 hd h1 h2 ho ht (h p l e R s m args below meth c cells slots QS ad dC dI cA A hC hN hc hR H locs lsA hH hl)
theorem x_iload_g {i : zM} {d pc pc2 : Nat} {ls st : List Value} {σ : zS} {Q : Option Value → zS → Prop} {k : Nat} {x : Int32} (hd : decode i.2.1 pc = .ok (.iload k, 2)) (hp : pc + 2 = pc2) (hv : ls[k]? = some (.int x)) (h : z_At i d pc2 ls (.int x :: st) σ Q) : z_At i d pc ls st σ Q := by
  subst hp
  intro p l e R s m args below meth c cells slots QS ad dC dI cA A hC hN hc hR H locs lsA hH hl
  exact lv_iload hC.1 hC.2.1 hd (hl.2.2.2 k _ hv (fun e => by cases e)) (h p l e R s m args below meth c cells slots QS ad dC dI cA A hC hN hc hR H locs lsA hH hl)
theorem x_iload_ng {i : zM} {d pc pc2 : Nat} {ls st : List Value} {σ : zS} {Q : Option Value → zS → Prop} {k : Fin 4} {x : Int32} (hd : decode i.2.1 pc = .ok (.iload_n k, 1)) (hp : pc + 1 = pc2) (hv : ls[(k : Nat)]? = some (.int x)) (h : z_At i d pc2 ls (.int x :: st) σ Q) : z_At i d pc ls st σ Q := by
  subst hp
  intro p l e R s m args below meth c cells slots QS ad dC dI cA A hC hN hc hR H locs lsA hH hl
  exact lv_iload_n hC.1 hC.2.1 hd rfl (hl.2.2.2 k _ hv (fun e => by cases e)) (h p l e R s m args below meth c cells slots QS ad dC dI cA A hC hN hc hR H locs lsA hH hl)
theorem x_istore_g {i : zM} {d pc pc2 : Nat} {ls st : List Value} {σ : zS} {Q : Option Value → zS → Prop} {k : Nat} {x : Int32} (hd : decode i.2.1 pc = .ok (.istore k, 2)) (hp : pc + 2 = pc2) (hi : k < ls.length) (hk : ∀ u, ls[k - 1]? = some u → k ≠ 0 → u.category ≠ 2) (h : z_At i d pc2 (ls.set k (.int x)) st σ Q) : z_At i d pc ls (.int x :: st) σ Q := by
  subst hp
  intro p l e R s m args below meth c cells slots QS ad dC dI cA A hC hN hc hR H locs lsA hH hl
  exact lv_istore hC.1 hC.2.1 hd  hl.has (by rw [← hl.1]; exact hi) rfl (fun lsB hB => h p l e R s m args below meth c cells slots QS ad dC dI cA A hC hN hc hR H locs lsB hH (hl.set1 (x := .int x) hi hk hB))
theorem x_istore_ng {i : zM} {d pc pc2 : Nat} {ls st : List Value} {σ : zS} {Q : Option Value → zS → Prop} {k : Fin 4} {x : Int32} (hd : decode i.2.1 pc = .ok (.istore_n k, 1)) (hp : pc + 1 = pc2) (hi : (k : Nat) < ls.length) (hk : ∀ u, ls[(k : Nat) - 1]? = some u → (k : Nat) ≠ 0 → u.category ≠ 2) (h : z_At i d pc2 (ls.set (k : Nat) (.int x)) st σ Q) : z_At i d pc ls (.int x :: st) σ Q := by
  subst hp
  intro p l e R s m args below meth c cells slots QS ad dC dI cA A hC hN hc hR H locs lsA hH hl
  exact lv_istore_n hC.1 hC.2.1 hd rfl hl.has (by rw [← hl.1]; exact hi) rfl (fun lsB hB => h p l e R s m args below meth c cells slots QS ad dC dI cA A hC hN hc hR H locs lsB hH (hl.set1 (x := .int x) hi hk hB))
theorem x_lload_g {i : zM} {d pc pc2 : Nat} {ls st : List Value} {σ : zS} {Q : Option Value → zS → Prop} {k : Nat} {x : Int64} (hd : decode i.2.1 pc = .ok (.lload k, 2)) (hp : pc + 2 = pc2) (hv : ls[k]? = some (.long x)) (h : z_At i d pc2 ls (.long x :: st) σ Q) : z_At i d pc ls st σ Q := by
  subst hp
  intro p l e R s m args below meth c cells slots QS ad dC dI cA A hC hN hc hR H locs lsA hH hl
  exact lv_lload hC.1 hC.2.1 hd (hl.2.2.2 k _ hv (fun e => by cases e)) (h p l e R s m args below meth c cells slots QS ad dC dI cA A hC hN hc hR H locs lsA hH hl)
theorem x_lload_ng {i : zM} {d pc pc2 : Nat} {ls st : List Value} {σ : zS} {Q : Option Value → zS → Prop} {k : Fin 4} {x : Int64} (hd : decode i.2.1 pc = .ok (.lload_n k, 1)) (hp : pc + 1 = pc2) (hv : ls[(k : Nat)]? = some (.long x)) (h : z_At i d pc2 ls (.long x :: st) σ Q) : z_At i d pc ls st σ Q := by
  subst hp
  intro p l e R s m args below meth c cells slots QS ad dC dI cA A hC hN hc hR H locs lsA hH hl
  exact lv_lload_n hC.1 hC.2.1 hd rfl (hl.2.2.2 k _ hv (fun e => by cases e)) (h p l e R s m args below meth c cells slots QS ad dC dI cA A hC hN hc hR H locs lsA hH hl)
theorem x_lstore_g {i : zM} {d pc pc2 : Nat} {ls st : List Value} {σ : zS} {Q : Option Value → zS → Prop} {k : Nat} {x : Int64} (hd : decode i.2.1 pc = .ok (.lstore k, 2)) (hp : pc + 2 = pc2) (hi : k + 1 < ls.length) (hk : ∀ u, ls[k - 1]? = some u → k ≠ 0 → u.category ≠ 2) (h : z_At i d pc2 ((ls.set k (.long x)).set (k + 1) .null) st σ Q) : z_At i d pc ls (.long x :: st) σ Q := by
  subst hp
  intro p l e R s m args below meth c cells slots QS ad dC dI cA A hC hN hc hR H locs lsA hH hl
  exact lv_lstore hC.1 hC.2.1 hd  hl.has (by rw [← hl.1]; exact hi) rfl (fun lsB hB => h p l e R s m args below meth c cells slots QS ad dC dI cA A hC hN hc hR H locs lsB hH (hl.set2 (x := .long x) hi hk hB))
theorem x_lstore_ng {i : zM} {d pc pc2 : Nat} {ls st : List Value} {σ : zS} {Q : Option Value → zS → Prop} {k : Fin 4} {x : Int64} (hd : decode i.2.1 pc = .ok (.lstore_n k, 1)) (hp : pc + 1 = pc2) (hi : (k : Nat) + 1 < ls.length) (hk : ∀ u, ls[(k : Nat) - 1]? = some u → (k : Nat) ≠ 0 → u.category ≠ 2) (h : z_At i d pc2 ((ls.set (k : Nat) (.long x)).set ((k : Nat) + 1) .null) st σ Q) : z_At i d pc ls (.long x :: st) σ Q := by
  subst hp
  intro p l e R s m args below meth c cells slots QS ad dC dI cA A hC hN hc hR H locs lsA hH hl
  exact lv_lstore_n hC.1 hC.2.1 hd rfl hl.has (by rw [← hl.1]; exact hi) rfl (fun lsB hB => h p l e R s m args below meth c cells slots QS ad dC dI cA A hC hN hc hR H locs lsB hH (hl.set2 (x := .long x) hi hk hB))
theorem x_aload_g {i : zM} {d pc pc2 : Nat} {ls st : List Value} {σ : zS} {Q : Option Value → zS → Prop} {k : Nat} {x : Nat} (hd : decode i.2.1 pc = .ok (.aload k, 2)) (hp : pc + 2 = pc2) (hv : ls[k]? = some (.ref x)) (h : z_At i d pc2 ls (.ref x :: st) σ Q) : z_At i d pc ls st σ Q := by
  subst hp
  intro p l e R s m args below meth c cells slots QS ad dC dI cA A hC hN hc hR H locs lsA hH hl
  exact lv_aload hC.1 hC.2.1 hd (hl.2.2.2 k _ hv (fun e => by cases e)) (h p l e R s m args below meth c cells slots QS ad dC dI cA A hC hN hc hR H locs lsA hH hl)
theorem x_aload_ng {i : zM} {d pc pc2 : Nat} {ls st : List Value} {σ : zS} {Q : Option Value → zS → Prop} {k : Fin 4} {x : Nat} (hd : decode i.2.1 pc = .ok (.aload_n k, 1)) (hp : pc + 1 = pc2) (hv : ls[(k : Nat)]? = some (.ref x)) (h : z_At i d pc2 ls (.ref x :: st) σ Q) : z_At i d pc ls st σ Q := by
  subst hp
  intro p l e R s m args below meth c cells slots QS ad dC dI cA A hC hN hc hR H locs lsA hH hl
  exact lv_aload_n hC.1 hC.2.1 hd rfl (hl.2.2.2 k _ hv (fun e => by cases e)) (h p l e R s m args below meth c cells slots QS ad dC dI cA A hC hN hc hR H locs lsA hH hl)
theorem x_astore_g {i : zM} {d pc pc2 : Nat} {ls st : List Value} {σ : zS} {Q : Option Value → zS → Prop} {k : Nat} {x : Nat} (hd : decode i.2.1 pc = .ok (.astore k, 2)) (hp : pc + 2 = pc2) (hi : k < ls.length) (hk : ∀ u, ls[k - 1]? = some u → k ≠ 0 → u.category ≠ 2) (h : z_At i d pc2 (ls.set k (.ref x)) st σ Q) : z_At i d pc ls (.ref x :: st) σ Q := by
  subst hp
  intro p l e R s m args below meth c cells slots QS ad dC dI cA A hC hN hc hR H locs lsA hH hl
  exact lv_astore hC.1 hC.2.1 hd  hl.has (by rw [← hl.1]; exact hi) rfl (fun lsB hB => h p l e R s m args below meth c cells slots QS ad dC dI cA A hC hN hc hR H locs lsB hH (hl.set1 (x := .ref x) hi hk hB))
theorem x_astore_ng {i : zM} {d pc pc2 : Nat} {ls st : List Value} {σ : zS} {Q : Option Value → zS → Prop} {k : Fin 4} {x : Nat} (hd : decode i.2.1 pc = .ok (.astore_n k, 1)) (hp : pc + 1 = pc2) (hi : (k : Nat) < ls.length) (hk : ∀ u, ls[(k : Nat) - 1]? = some u → (k : Nat) ≠ 0 → u.category ≠ 2) (h : z_At i d pc2 (ls.set (k : Nat) (.ref x)) st σ Q) : z_At i d pc ls (.ref x :: st) σ Q := by
  subst hp
  intro p l e R s m args below meth c cells slots QS ad dC dI cA A hC hN hc hR H locs lsA hH hl
  exact lv_astore_n hC.1 hC.2.1 hd rfl hl.has (by rw [← hl.1]; exact hi) rfl (fun lsB hB => h p l e R s m args below meth c cells slots QS ad dC dI cA A hC hN hc hR H locs lsB hH (hl.set1 (x := .ref x) hi hk hB))
theorem x_iinc_g {i : zM} {d pc pc2 : Nat} {ls st : List Value} {σ : zS} {Q : Option Value → zS → Prop} {k : Nat} {n : Int} {x v : Int32} (hd : decode i.2.1 pc = .ok (.iinc k n, 3)) (hp : pc + 3 = pc2) (hv : ls[k]? = some (.int x)) (he : x + Int32.ofInt n = v) (hk : ∀ u, ls[k - 1]? = some u → k ≠ 0 → u.category ≠ 2) (h : z_At i d pc2 (ls.set k (.int v)) st σ Q) : z_At i d pc ls st σ Q := by
  subst hp
  intro p l e R s m args below meth c cells slots QS ad dC dI cA A hC hN hc hR H locs lsA hH hl
  have hi : k < ls.length := (List.getElem?_eq_some_iff.mp hv).1
  obtain ⟨q, hq⟩ := List.getElem?_of_mem (z_lst_in (ad := ad) hv (fun e => by cases e))
  exact lv_iinc hC.1 hC.2.1 hd hl.has hq he (by rw [← hl.1]; exact hi) rfl (fun lsB hB => h p l e R s m args below meth c cells slots QS ad dC dI cA A hC hN hc hR H locs lsB hH (hl.set1 (x := .int v) hi hk hB))
theorem x_iload0 {i : zM} {d pc pc2 : Nat} {σ : zS} {Q : Option Value → zS → Prop}  {t st : List Value} {x : Int32} (hd : decode i.2.1 pc = .ok (.iload_n 0, 1)) (hp : pc + 1 = pc2) (h : z_At i d pc2 (.int x :: t) (.int x :: st) σ Q) : z_At i d pc (.int x :: t) st σ Q := x_iload_ng hd hp rfl h
theorem x_istore0 {i : zM} {d pc pc2 : Nat} {σ : zS} {Q : Option Value → zS → Prop} {w : Value} {t st : List Value} {x : Int32} (hd : decode i.2.1 pc = .ok (.istore_n 0, 1)) (hp : pc + 1 = pc2)  (h : z_At i d pc2 (.int x :: t) st σ Q) : z_At i d pc (w :: t) (.int x :: st) σ Q := x_istore_ng hd hp (show 0 < (w :: t).length from by simp only [List.length_cons]; omega) (fun u hu h0 => absurd rfl h0) h
theorem x_lload0 {i : zM} {d pc pc2 : Nat} {σ : zS} {Q : Option Value → zS → Prop}  {t st : List Value} {x : Int64} (hd : decode i.2.1 pc = .ok (.lload_n 0, 1)) (hp : pc + 1 = pc2) (h : z_At i d pc2 (.long x :: t) (.long x :: st) σ Q) : z_At i d pc (.long x :: t) st σ Q := x_lload_ng hd hp rfl h
theorem x_lstore0 {i : zM} {d pc pc2 : Nat} {σ : zS} {Q : Option Value → zS → Prop} {w : Value} {t st : List Value} {w2 : Value} {x : Int64} (hd : decode i.2.1 pc = .ok (.lstore_n 0, 1)) (hp : pc + 1 = pc2)  (h : z_At i d pc2 (.long x :: .null :: t) st σ Q) : z_At i d pc (w :: w2 :: t) (.long x :: st) σ Q := x_lstore_ng hd hp (show 0 + 1 < (w :: w2 :: t).length from by simp only [List.length_cons]; omega) (fun u hu h0 => absurd rfl h0) h
theorem x_aload0 {i : zM} {d pc pc2 : Nat} {σ : zS} {Q : Option Value → zS → Prop}  {t st : List Value} {x : Nat} (hd : decode i.2.1 pc = .ok (.aload_n 0, 1)) (hp : pc + 1 = pc2) (h : z_At i d pc2 (.ref x :: t) (.ref x :: st) σ Q) : z_At i d pc (.ref x :: t) st σ Q := x_aload_ng hd hp rfl h
theorem x_astore0 {i : zM} {d pc pc2 : Nat} {σ : zS} {Q : Option Value → zS → Prop} {w : Value} {t st : List Value} {x : Nat} (hd : decode i.2.1 pc = .ok (.astore_n 0, 1)) (hp : pc + 1 = pc2)  (h : z_At i d pc2 (.ref x :: t) st σ Q) : z_At i d pc (w :: t) (.ref x :: st) σ Q := x_astore_ng hd hp (show 0 < (w :: t).length from by simp only [List.length_cons]; omega) (fun u hu h0 => absurd rfl h0) h
theorem x_iinc0 {i : zM} {d pc pc2 : Nat} {σ : zS} {Q : Option Value → zS → Prop}  {t st : List Value} {n : Int} {x v : Int32} (hd : decode i.2.1 pc = .ok (.iinc 0 n, 3)) (hp : pc + 3 = pc2) (he : x + Int32.ofInt n = v)  (h : z_At i d pc2 (.int v :: t) st σ Q) : z_At i d pc (.int x :: t) st σ Q := x_iinc_g hd hp rfl he (fun u hu h0 => absurd rfl h0) h
theorem x_iload1 {i : zM} {d pc pc2 : Nat} {σ : zS} {Q : Option Value → zS → Prop} {a0 : Value} {t st : List Value} {x : Int32} (hd : decode i.2.1 pc = .ok (.iload_n 1, 1)) (hp : pc + 1 = pc2) (h : z_At i d pc2 (a0 :: .int x :: t) (.int x :: st) σ Q) : z_At i d pc (a0 :: .int x :: t) st σ Q := x_iload_ng hd hp rfl h
theorem x_istore1 {i : zM} {d pc pc2 : Nat} {σ : zS} {Q : Option Value → zS → Prop} {a0 w : Value} {t st : List Value} {x : Int32} (hd : decode i.2.1 pc = .ok (.istore_n 1, 1)) (hp : pc + 1 = pc2) (hk : a0.category = 1) (h : z_At i d pc2 (a0 :: .int x :: t) st σ Q) : z_At i d pc (a0 :: w :: t) (.int x :: st) σ Q := x_istore_ng hd hp (show 1 < (a0 :: w :: t).length from by simp only [List.length_cons]; omega) (fun u hu _ => by cases hu; rw [hk]; decide) h
theorem x_lload1 {i : zM} {d pc pc2 : Nat} {σ : zS} {Q : Option Value → zS → Prop} {a0 : Value} {t st : List Value} {x : Int64} (hd : decode i.2.1 pc = .ok (.lload_n 1, 1)) (hp : pc + 1 = pc2) (h : z_At i d pc2 (a0 :: .long x :: t) (.long x :: st) σ Q) : z_At i d pc (a0 :: .long x :: t) st σ Q := x_lload_ng hd hp rfl h
theorem x_lstore1 {i : zM} {d pc pc2 : Nat} {σ : zS} {Q : Option Value → zS → Prop} {a0 w : Value} {t st : List Value} {w2 : Value} {x : Int64} (hd : decode i.2.1 pc = .ok (.lstore_n 1, 1)) (hp : pc + 1 = pc2) (hk : a0.category = 1) (h : z_At i d pc2 (a0 :: .long x :: .null :: t) st σ Q) : z_At i d pc (a0 :: w :: w2 :: t) (.long x :: st) σ Q := x_lstore_ng hd hp (show 1 + 1 < (a0 :: w :: w2 :: t).length from by simp only [List.length_cons]; omega) (fun u hu _ => by cases hu; rw [hk]; decide) h
theorem x_aload1 {i : zM} {d pc pc2 : Nat} {σ : zS} {Q : Option Value → zS → Prop} {a0 : Value} {t st : List Value} {x : Nat} (hd : decode i.2.1 pc = .ok (.aload_n 1, 1)) (hp : pc + 1 = pc2) (h : z_At i d pc2 (a0 :: .ref x :: t) (.ref x :: st) σ Q) : z_At i d pc (a0 :: .ref x :: t) st σ Q := x_aload_ng hd hp rfl h
theorem x_astore1 {i : zM} {d pc pc2 : Nat} {σ : zS} {Q : Option Value → zS → Prop} {a0 w : Value} {t st : List Value} {x : Nat} (hd : decode i.2.1 pc = .ok (.astore_n 1, 1)) (hp : pc + 1 = pc2) (hk : a0.category = 1) (h : z_At i d pc2 (a0 :: .ref x :: t) st σ Q) : z_At i d pc (a0 :: w :: t) (.ref x :: st) σ Q := x_astore_ng hd hp (show 1 < (a0 :: w :: t).length from by simp only [List.length_cons]; omega) (fun u hu _ => by cases hu; rw [hk]; decide) h
theorem x_iinc1 {i : zM} {d pc pc2 : Nat} {σ : zS} {Q : Option Value → zS → Prop} {a0 : Value} {t st : List Value} {n : Int} {x v : Int32} (hd : decode i.2.1 pc = .ok (.iinc 1 n, 3)) (hp : pc + 3 = pc2) (he : x + Int32.ofInt n = v) (hk : a0.category = 1) (h : z_At i d pc2 (a0 :: .int v :: t) st σ Q) : z_At i d pc (a0 :: .int x :: t) st σ Q := x_iinc_g hd hp rfl he (fun u hu _ => by cases hu; rw [hk]; decide) h
theorem x_iload2 {i : zM} {d pc pc2 : Nat} {σ : zS} {Q : Option Value → zS → Prop} {a0 a1 : Value} {t st : List Value} {x : Int32} (hd : decode i.2.1 pc = .ok (.iload_n 2, 1)) (hp : pc + 1 = pc2) (h : z_At i d pc2 (a0 :: a1 :: .int x :: t) (.int x :: st) σ Q) : z_At i d pc (a0 :: a1 :: .int x :: t) st σ Q := x_iload_ng hd hp rfl h
theorem x_istore2 {i : zM} {d pc pc2 : Nat} {σ : zS} {Q : Option Value → zS → Prop} {a0 a1 w : Value} {t st : List Value} {x : Int32} (hd : decode i.2.1 pc = .ok (.istore_n 2, 1)) (hp : pc + 1 = pc2) (hk : a1.category = 1) (h : z_At i d pc2 (a0 :: a1 :: .int x :: t) st σ Q) : z_At i d pc (a0 :: a1 :: w :: t) (.int x :: st) σ Q := x_istore_ng hd hp (show 2 < (a0 :: a1 :: w :: t).length from by simp only [List.length_cons]; omega) (fun u hu _ => by cases hu; rw [hk]; decide) h
theorem x_lload2 {i : zM} {d pc pc2 : Nat} {σ : zS} {Q : Option Value → zS → Prop} {a0 a1 : Value} {t st : List Value} {x : Int64} (hd : decode i.2.1 pc = .ok (.lload_n 2, 1)) (hp : pc + 1 = pc2) (h : z_At i d pc2 (a0 :: a1 :: .long x :: t) (.long x :: st) σ Q) : z_At i d pc (a0 :: a1 :: .long x :: t) st σ Q := x_lload_ng hd hp rfl h
theorem x_lstore2 {i : zM} {d pc pc2 : Nat} {σ : zS} {Q : Option Value → zS → Prop} {a0 a1 w : Value} {t st : List Value} {w2 : Value} {x : Int64} (hd : decode i.2.1 pc = .ok (.lstore_n 2, 1)) (hp : pc + 1 = pc2) (hk : a1.category = 1) (h : z_At i d pc2 (a0 :: a1 :: .long x :: .null :: t) st σ Q) : z_At i d pc (a0 :: a1 :: w :: w2 :: t) (.long x :: st) σ Q := x_lstore_ng hd hp (show 2 + 1 < (a0 :: a1 :: w :: w2 :: t).length from by simp only [List.length_cons]; omega) (fun u hu _ => by cases hu; rw [hk]; decide) h
theorem x_aload2 {i : zM} {d pc pc2 : Nat} {σ : zS} {Q : Option Value → zS → Prop} {a0 a1 : Value} {t st : List Value} {x : Nat} (hd : decode i.2.1 pc = .ok (.aload_n 2, 1)) (hp : pc + 1 = pc2) (h : z_At i d pc2 (a0 :: a1 :: .ref x :: t) (.ref x :: st) σ Q) : z_At i d pc (a0 :: a1 :: .ref x :: t) st σ Q := x_aload_ng hd hp rfl h
theorem x_astore2 {i : zM} {d pc pc2 : Nat} {σ : zS} {Q : Option Value → zS → Prop} {a0 a1 w : Value} {t st : List Value} {x : Nat} (hd : decode i.2.1 pc = .ok (.astore_n 2, 1)) (hp : pc + 1 = pc2) (hk : a1.category = 1) (h : z_At i d pc2 (a0 :: a1 :: .ref x :: t) st σ Q) : z_At i d pc (a0 :: a1 :: w :: t) (.ref x :: st) σ Q := x_astore_ng hd hp (show 2 < (a0 :: a1 :: w :: t).length from by simp only [List.length_cons]; omega) (fun u hu _ => by cases hu; rw [hk]; decide) h
theorem x_iinc2 {i : zM} {d pc pc2 : Nat} {σ : zS} {Q : Option Value → zS → Prop} {a0 a1 : Value} {t st : List Value} {n : Int} {x v : Int32} (hd : decode i.2.1 pc = .ok (.iinc 2 n, 3)) (hp : pc + 3 = pc2) (he : x + Int32.ofInt n = v) (hk : a1.category = 1) (h : z_At i d pc2 (a0 :: a1 :: .int v :: t) st σ Q) : z_At i d pc (a0 :: a1 :: .int x :: t) st σ Q := x_iinc_g hd hp rfl he (fun u hu _ => by cases hu; rw [hk]; decide) h
theorem x_iload3 {i : zM} {d pc pc2 : Nat} {σ : zS} {Q : Option Value → zS → Prop} {a0 a1 a2 : Value} {t st : List Value} {x : Int32} (hd : decode i.2.1 pc = .ok (.iload_n 3, 1)) (hp : pc + 1 = pc2) (h : z_At i d pc2 (a0 :: a1 :: a2 :: .int x :: t) (.int x :: st) σ Q) : z_At i d pc (a0 :: a1 :: a2 :: .int x :: t) st σ Q := x_iload_ng hd hp rfl h
theorem x_istore3 {i : zM} {d pc pc2 : Nat} {σ : zS} {Q : Option Value → zS → Prop} {a0 a1 a2 w : Value} {t st : List Value} {x : Int32} (hd : decode i.2.1 pc = .ok (.istore_n 3, 1)) (hp : pc + 1 = pc2) (hk : a2.category = 1) (h : z_At i d pc2 (a0 :: a1 :: a2 :: .int x :: t) st σ Q) : z_At i d pc (a0 :: a1 :: a2 :: w :: t) (.int x :: st) σ Q := x_istore_ng hd hp (show 3 < (a0 :: a1 :: a2 :: w :: t).length from by simp only [List.length_cons]; omega) (fun u hu _ => by cases hu; rw [hk]; decide) h
theorem x_lload3 {i : zM} {d pc pc2 : Nat} {σ : zS} {Q : Option Value → zS → Prop} {a0 a1 a2 : Value} {t st : List Value} {x : Int64} (hd : decode i.2.1 pc = .ok (.lload_n 3, 1)) (hp : pc + 1 = pc2) (h : z_At i d pc2 (a0 :: a1 :: a2 :: .long x :: t) (.long x :: st) σ Q) : z_At i d pc (a0 :: a1 :: a2 :: .long x :: t) st σ Q := x_lload_ng hd hp rfl h
theorem x_lstore3 {i : zM} {d pc pc2 : Nat} {σ : zS} {Q : Option Value → zS → Prop} {a0 a1 a2 w : Value} {t st : List Value} {w2 : Value} {x : Int64} (hd : decode i.2.1 pc = .ok (.lstore_n 3, 1)) (hp : pc + 1 = pc2) (hk : a2.category = 1) (h : z_At i d pc2 (a0 :: a1 :: a2 :: .long x :: .null :: t) st σ Q) : z_At i d pc (a0 :: a1 :: a2 :: w :: w2 :: t) (.long x :: st) σ Q := x_lstore_ng hd hp (show 3 + 1 < (a0 :: a1 :: a2 :: w :: w2 :: t).length from by simp only [List.length_cons]; omega) (fun u hu _ => by cases hu; rw [hk]; decide) h
theorem x_aload3 {i : zM} {d pc pc2 : Nat} {σ : zS} {Q : Option Value → zS → Prop} {a0 a1 a2 : Value} {t st : List Value} {x : Nat} (hd : decode i.2.1 pc = .ok (.aload_n 3, 1)) (hp : pc + 1 = pc2) (h : z_At i d pc2 (a0 :: a1 :: a2 :: .ref x :: t) (.ref x :: st) σ Q) : z_At i d pc (a0 :: a1 :: a2 :: .ref x :: t) st σ Q := x_aload_ng hd hp rfl h
theorem x_astore3 {i : zM} {d pc pc2 : Nat} {σ : zS} {Q : Option Value → zS → Prop} {a0 a1 a2 w : Value} {t st : List Value} {x : Nat} (hd : decode i.2.1 pc = .ok (.astore_n 3, 1)) (hp : pc + 1 = pc2) (hk : a2.category = 1) (h : z_At i d pc2 (a0 :: a1 :: a2 :: .ref x :: t) st σ Q) : z_At i d pc (a0 :: a1 :: a2 :: w :: t) (.ref x :: st) σ Q := x_astore_ng hd hp (show 3 < (a0 :: a1 :: a2 :: w :: t).length from by simp only [List.length_cons]; omega) (fun u hu _ => by cases hu; rw [hk]; decide) h
theorem x_iinc3 {i : zM} {d pc pc2 : Nat} {σ : zS} {Q : Option Value → zS → Prop} {a0 a1 a2 : Value} {t st : List Value} {n : Int} {x v : Int32} (hd : decode i.2.1 pc = .ok (.iinc 3 n, 3)) (hp : pc + 3 = pc2) (he : x + Int32.ofInt n = v) (hk : a2.category = 1) (h : z_At i d pc2 (a0 :: a1 :: a2 :: .int v :: t) st σ Q) : z_At i d pc (a0 :: a1 :: a2 :: .int x :: t) st σ Q := x_iinc_g hd hp rfl he (fun u hu _ => by cases hu; rw [hk]; decide) h
theorem x_iload4 {i : zM} {d pc pc2 : Nat} {σ : zS} {Q : Option Value → zS → Prop} {a0 a1 a2 a3 : Value} {t st : List Value} {x : Int32} (hd : decode i.2.1 pc = .ok (.iload 4, 2)) (hp : pc + 2 = pc2) (h : z_At i d pc2 (a0 :: a1 :: a2 :: a3 :: .int x :: t) (.int x :: st) σ Q) : z_At i d pc (a0 :: a1 :: a2 :: a3 :: .int x :: t) st σ Q := x_iload_g hd hp rfl h
theorem x_istore4 {i : zM} {d pc pc2 : Nat} {σ : zS} {Q : Option Value → zS → Prop} {a0 a1 a2 a3 w : Value} {t st : List Value} {x : Int32} (hd : decode i.2.1 pc = .ok (.istore 4, 2)) (hp : pc + 2 = pc2) (hk : a3.category = 1) (h : z_At i d pc2 (a0 :: a1 :: a2 :: a3 :: .int x :: t) st σ Q) : z_At i d pc (a0 :: a1 :: a2 :: a3 :: w :: t) (.int x :: st) σ Q := x_istore_g hd hp (show 4 < (a0 :: a1 :: a2 :: a3 :: w :: t).length from by simp only [List.length_cons]; omega) (fun u hu _ => by cases hu; rw [hk]; decide) h
theorem x_lload4 {i : zM} {d pc pc2 : Nat} {σ : zS} {Q : Option Value → zS → Prop} {a0 a1 a2 a3 : Value} {t st : List Value} {x : Int64} (hd : decode i.2.1 pc = .ok (.lload 4, 2)) (hp : pc + 2 = pc2) (h : z_At i d pc2 (a0 :: a1 :: a2 :: a3 :: .long x :: t) (.long x :: st) σ Q) : z_At i d pc (a0 :: a1 :: a2 :: a3 :: .long x :: t) st σ Q := x_lload_g hd hp rfl h
theorem x_lstore4 {i : zM} {d pc pc2 : Nat} {σ : zS} {Q : Option Value → zS → Prop} {a0 a1 a2 a3 w : Value} {t st : List Value} {w2 : Value} {x : Int64} (hd : decode i.2.1 pc = .ok (.lstore 4, 2)) (hp : pc + 2 = pc2) (hk : a3.category = 1) (h : z_At i d pc2 (a0 :: a1 :: a2 :: a3 :: .long x :: .null :: t) st σ Q) : z_At i d pc (a0 :: a1 :: a2 :: a3 :: w :: w2 :: t) (.long x :: st) σ Q := x_lstore_g hd hp (show 4 + 1 < (a0 :: a1 :: a2 :: a3 :: w :: w2 :: t).length from by simp only [List.length_cons]; omega) (fun u hu _ => by cases hu; rw [hk]; decide) h
theorem x_aload4 {i : zM} {d pc pc2 : Nat} {σ : zS} {Q : Option Value → zS → Prop} {a0 a1 a2 a3 : Value} {t st : List Value} {x : Nat} (hd : decode i.2.1 pc = .ok (.aload 4, 2)) (hp : pc + 2 = pc2) (h : z_At i d pc2 (a0 :: a1 :: a2 :: a3 :: .ref x :: t) (.ref x :: st) σ Q) : z_At i d pc (a0 :: a1 :: a2 :: a3 :: .ref x :: t) st σ Q := x_aload_g hd hp rfl h
theorem x_astore4 {i : zM} {d pc pc2 : Nat} {σ : zS} {Q : Option Value → zS → Prop} {a0 a1 a2 a3 w : Value} {t st : List Value} {x : Nat} (hd : decode i.2.1 pc = .ok (.astore 4, 2)) (hp : pc + 2 = pc2) (hk : a3.category = 1) (h : z_At i d pc2 (a0 :: a1 :: a2 :: a3 :: .ref x :: t) st σ Q) : z_At i d pc (a0 :: a1 :: a2 :: a3 :: w :: t) (.ref x :: st) σ Q := x_astore_g hd hp (show 4 < (a0 :: a1 :: a2 :: a3 :: w :: t).length from by simp only [List.length_cons]; omega) (fun u hu _ => by cases hu; rw [hk]; decide) h
theorem x_iinc4 {i : zM} {d pc pc2 : Nat} {σ : zS} {Q : Option Value → zS → Prop} {a0 a1 a2 a3 : Value} {t st : List Value} {n : Int} {x v : Int32} (hd : decode i.2.1 pc = .ok (.iinc 4 n, 3)) (hp : pc + 3 = pc2) (he : x + Int32.ofInt n = v) (hk : a3.category = 1) (h : z_At i d pc2 (a0 :: a1 :: a2 :: a3 :: .int v :: t) st σ Q) : z_At i d pc (a0 :: a1 :: a2 :: a3 :: .int x :: t) st σ Q := x_iinc_g hd hp rfl he (fun u hu _ => by cases hu; rw [hk]; decide) h
theorem x_iload5 {i : zM} {d pc pc2 : Nat} {σ : zS} {Q : Option Value → zS → Prop} {a0 a1 a2 a3 a4 : Value} {t st : List Value} {x : Int32} (hd : decode i.2.1 pc = .ok (.iload 5, 2)) (hp : pc + 2 = pc2) (h : z_At i d pc2 (a0 :: a1 :: a2 :: a3 :: a4 :: .int x :: t) (.int x :: st) σ Q) : z_At i d pc (a0 :: a1 :: a2 :: a3 :: a4 :: .int x :: t) st σ Q := x_iload_g hd hp rfl h
theorem x_istore5 {i : zM} {d pc pc2 : Nat} {σ : zS} {Q : Option Value → zS → Prop} {a0 a1 a2 a3 a4 w : Value} {t st : List Value} {x : Int32} (hd : decode i.2.1 pc = .ok (.istore 5, 2)) (hp : pc + 2 = pc2) (hk : a4.category = 1) (h : z_At i d pc2 (a0 :: a1 :: a2 :: a3 :: a4 :: .int x :: t) st σ Q) : z_At i d pc (a0 :: a1 :: a2 :: a3 :: a4 :: w :: t) (.int x :: st) σ Q := x_istore_g hd hp (show 5 < (a0 :: a1 :: a2 :: a3 :: a4 :: w :: t).length from by simp only [List.length_cons]; omega) (fun u hu _ => by cases hu; rw [hk]; decide) h
theorem x_lload5 {i : zM} {d pc pc2 : Nat} {σ : zS} {Q : Option Value → zS → Prop} {a0 a1 a2 a3 a4 : Value} {t st : List Value} {x : Int64} (hd : decode i.2.1 pc = .ok (.lload 5, 2)) (hp : pc + 2 = pc2) (h : z_At i d pc2 (a0 :: a1 :: a2 :: a3 :: a4 :: .long x :: t) (.long x :: st) σ Q) : z_At i d pc (a0 :: a1 :: a2 :: a3 :: a4 :: .long x :: t) st σ Q := x_lload_g hd hp rfl h
theorem x_lstore5 {i : zM} {d pc pc2 : Nat} {σ : zS} {Q : Option Value → zS → Prop} {a0 a1 a2 a3 a4 w : Value} {t st : List Value} {w2 : Value} {x : Int64} (hd : decode i.2.1 pc = .ok (.lstore 5, 2)) (hp : pc + 2 = pc2) (hk : a4.category = 1) (h : z_At i d pc2 (a0 :: a1 :: a2 :: a3 :: a4 :: .long x :: .null :: t) st σ Q) : z_At i d pc (a0 :: a1 :: a2 :: a3 :: a4 :: w :: w2 :: t) (.long x :: st) σ Q := x_lstore_g hd hp (show 5 + 1 < (a0 :: a1 :: a2 :: a3 :: a4 :: w :: w2 :: t).length from by simp only [List.length_cons]; omega) (fun u hu _ => by cases hu; rw [hk]; decide) h
theorem x_aload5 {i : zM} {d pc pc2 : Nat} {σ : zS} {Q : Option Value → zS → Prop} {a0 a1 a2 a3 a4 : Value} {t st : List Value} {x : Nat} (hd : decode i.2.1 pc = .ok (.aload 5, 2)) (hp : pc + 2 = pc2) (h : z_At i d pc2 (a0 :: a1 :: a2 :: a3 :: a4 :: .ref x :: t) (.ref x :: st) σ Q) : z_At i d pc (a0 :: a1 :: a2 :: a3 :: a4 :: .ref x :: t) st σ Q := x_aload_g hd hp rfl h
theorem x_astore5 {i : zM} {d pc pc2 : Nat} {σ : zS} {Q : Option Value → zS → Prop} {a0 a1 a2 a3 a4 w : Value} {t st : List Value} {x : Nat} (hd : decode i.2.1 pc = .ok (.astore 5, 2)) (hp : pc + 2 = pc2) (hk : a4.category = 1) (h : z_At i d pc2 (a0 :: a1 :: a2 :: a3 :: a4 :: .ref x :: t) st σ Q) : z_At i d pc (a0 :: a1 :: a2 :: a3 :: a4 :: w :: t) (.ref x :: st) σ Q := x_astore_g hd hp (show 5 < (a0 :: a1 :: a2 :: a3 :: a4 :: w :: t).length from by simp only [List.length_cons]; omega) (fun u hu _ => by cases hu; rw [hk]; decide) h
theorem x_iinc5 {i : zM} {d pc pc2 : Nat} {σ : zS} {Q : Option Value → zS → Prop} {a0 a1 a2 a3 a4 : Value} {t st : List Value} {n : Int} {x v : Int32} (hd : decode i.2.1 pc = .ok (.iinc 5 n, 3)) (hp : pc + 3 = pc2) (he : x + Int32.ofInt n = v) (hk : a4.category = 1) (h : z_At i d pc2 (a0 :: a1 :: a2 :: a3 :: a4 :: .int v :: t) st σ Q) : z_At i d pc (a0 :: a1 :: a2 :: a3 :: a4 :: .int x :: t) st σ Q := x_iinc_g hd hp rfl he (fun u hu _ => by cases hu; rw [hk]; decide) h
theorem x_iload6 {i : zM} {d pc pc2 : Nat} {σ : zS} {Q : Option Value → zS → Prop} {a0 a1 a2 a3 a4 a5 : Value} {t st : List Value} {x : Int32} (hd : decode i.2.1 pc = .ok (.iload 6, 2)) (hp : pc + 2 = pc2) (h : z_At i d pc2 (a0 :: a1 :: a2 :: a3 :: a4 :: a5 :: .int x :: t) (.int x :: st) σ Q) : z_At i d pc (a0 :: a1 :: a2 :: a3 :: a4 :: a5 :: .int x :: t) st σ Q := x_iload_g hd hp rfl h
theorem x_istore6 {i : zM} {d pc pc2 : Nat} {σ : zS} {Q : Option Value → zS → Prop} {a0 a1 a2 a3 a4 a5 w : Value} {t st : List Value} {x : Int32} (hd : decode i.2.1 pc = .ok (.istore 6, 2)) (hp : pc + 2 = pc2) (hk : a5.category = 1) (h : z_At i d pc2 (a0 :: a1 :: a2 :: a3 :: a4 :: a5 :: .int x :: t) st σ Q) : z_At i d pc (a0 :: a1 :: a2 :: a3 :: a4 :: a5 :: w :: t) (.int x :: st) σ Q := x_istore_g hd hp (show 6 < (a0 :: a1 :: a2 :: a3 :: a4 :: a5 :: w :: t).length from by simp only [List.length_cons]; omega) (fun u hu _ => by cases hu; rw [hk]; decide) h
theorem x_lload6 {i : zM} {d pc pc2 : Nat} {σ : zS} {Q : Option Value → zS → Prop} {a0 a1 a2 a3 a4 a5 : Value} {t st : List Value} {x : Int64} (hd : decode i.2.1 pc = .ok (.lload 6, 2)) (hp : pc + 2 = pc2) (h : z_At i d pc2 (a0 :: a1 :: a2 :: a3 :: a4 :: a5 :: .long x :: t) (.long x :: st) σ Q) : z_At i d pc (a0 :: a1 :: a2 :: a3 :: a4 :: a5 :: .long x :: t) st σ Q := x_lload_g hd hp rfl h
theorem x_lstore6 {i : zM} {d pc pc2 : Nat} {σ : zS} {Q : Option Value → zS → Prop} {a0 a1 a2 a3 a4 a5 w : Value} {t st : List Value} {w2 : Value} {x : Int64} (hd : decode i.2.1 pc = .ok (.lstore 6, 2)) (hp : pc + 2 = pc2) (hk : a5.category = 1) (h : z_At i d pc2 (a0 :: a1 :: a2 :: a3 :: a4 :: a5 :: .long x :: .null :: t) st σ Q) : z_At i d pc (a0 :: a1 :: a2 :: a3 :: a4 :: a5 :: w :: w2 :: t) (.long x :: st) σ Q := x_lstore_g hd hp (show 6 + 1 < (a0 :: a1 :: a2 :: a3 :: a4 :: a5 :: w :: w2 :: t).length from by simp only [List.length_cons]; omega) (fun u hu _ => by cases hu; rw [hk]; decide) h
theorem x_aload6 {i : zM} {d pc pc2 : Nat} {σ : zS} {Q : Option Value → zS → Prop} {a0 a1 a2 a3 a4 a5 : Value} {t st : List Value} {x : Nat} (hd : decode i.2.1 pc = .ok (.aload 6, 2)) (hp : pc + 2 = pc2) (h : z_At i d pc2 (a0 :: a1 :: a2 :: a3 :: a4 :: a5 :: .ref x :: t) (.ref x :: st) σ Q) : z_At i d pc (a0 :: a1 :: a2 :: a3 :: a4 :: a5 :: .ref x :: t) st σ Q := x_aload_g hd hp rfl h
theorem x_astore6 {i : zM} {d pc pc2 : Nat} {σ : zS} {Q : Option Value → zS → Prop} {a0 a1 a2 a3 a4 a5 w : Value} {t st : List Value} {x : Nat} (hd : decode i.2.1 pc = .ok (.astore 6, 2)) (hp : pc + 2 = pc2) (hk : a5.category = 1) (h : z_At i d pc2 (a0 :: a1 :: a2 :: a3 :: a4 :: a5 :: .ref x :: t) st σ Q) : z_At i d pc (a0 :: a1 :: a2 :: a3 :: a4 :: a5 :: w :: t) (.ref x :: st) σ Q := x_astore_g hd hp (show 6 < (a0 :: a1 :: a2 :: a3 :: a4 :: a5 :: w :: t).length from by simp only [List.length_cons]; omega) (fun u hu _ => by cases hu; rw [hk]; decide) h
theorem x_iinc6 {i : zM} {d pc pc2 : Nat} {σ : zS} {Q : Option Value → zS → Prop} {a0 a1 a2 a3 a4 a5 : Value} {t st : List Value} {n : Int} {x v : Int32} (hd : decode i.2.1 pc = .ok (.iinc 6 n, 3)) (hp : pc + 3 = pc2) (he : x + Int32.ofInt n = v) (hk : a5.category = 1) (h : z_At i d pc2 (a0 :: a1 :: a2 :: a3 :: a4 :: a5 :: .int v :: t) st σ Q) : z_At i d pc (a0 :: a1 :: a2 :: a3 :: a4 :: a5 :: .int x :: t) st σ Q := x_iinc_g hd hp rfl he (fun u hu _ => by cases hu; rw [hk]; decide) h
theorem x_iload7 {i : zM} {d pc pc2 : Nat} {σ : zS} {Q : Option Value → zS → Prop} {a0 a1 a2 a3 a4 a5 a6 : Value} {t st : List Value} {x : Int32} (hd : decode i.2.1 pc = .ok (.iload 7, 2)) (hp : pc + 2 = pc2) (h : z_At i d pc2 (a0 :: a1 :: a2 :: a3 :: a4 :: a5 :: a6 :: .int x :: t) (.int x :: st) σ Q) : z_At i d pc (a0 :: a1 :: a2 :: a3 :: a4 :: a5 :: a6 :: .int x :: t) st σ Q := x_iload_g hd hp rfl h
theorem x_istore7 {i : zM} {d pc pc2 : Nat} {σ : zS} {Q : Option Value → zS → Prop} {a0 a1 a2 a3 a4 a5 a6 w : Value} {t st : List Value} {x : Int32} (hd : decode i.2.1 pc = .ok (.istore 7, 2)) (hp : pc + 2 = pc2) (hk : a6.category = 1) (h : z_At i d pc2 (a0 :: a1 :: a2 :: a3 :: a4 :: a5 :: a6 :: .int x :: t) st σ Q) : z_At i d pc (a0 :: a1 :: a2 :: a3 :: a4 :: a5 :: a6 :: w :: t) (.int x :: st) σ Q := x_istore_g hd hp (show 7 < (a0 :: a1 :: a2 :: a3 :: a4 :: a5 :: a6 :: w :: t).length from by simp only [List.length_cons]; omega) (fun u hu _ => by cases hu; rw [hk]; decide) h
theorem x_lload7 {i : zM} {d pc pc2 : Nat} {σ : zS} {Q : Option Value → zS → Prop} {a0 a1 a2 a3 a4 a5 a6 : Value} {t st : List Value} {x : Int64} (hd : decode i.2.1 pc = .ok (.lload 7, 2)) (hp : pc + 2 = pc2) (h : z_At i d pc2 (a0 :: a1 :: a2 :: a3 :: a4 :: a5 :: a6 :: .long x :: t) (.long x :: st) σ Q) : z_At i d pc (a0 :: a1 :: a2 :: a3 :: a4 :: a5 :: a6 :: .long x :: t) st σ Q := x_lload_g hd hp rfl h
theorem x_lstore7 {i : zM} {d pc pc2 : Nat} {σ : zS} {Q : Option Value → zS → Prop} {a0 a1 a2 a3 a4 a5 a6 w : Value} {t st : List Value} {w2 : Value} {x : Int64} (hd : decode i.2.1 pc = .ok (.lstore 7, 2)) (hp : pc + 2 = pc2) (hk : a6.category = 1) (h : z_At i d pc2 (a0 :: a1 :: a2 :: a3 :: a4 :: a5 :: a6 :: .long x :: .null :: t) st σ Q) : z_At i d pc (a0 :: a1 :: a2 :: a3 :: a4 :: a5 :: a6 :: w :: w2 :: t) (.long x :: st) σ Q := x_lstore_g hd hp (show 7 + 1 < (a0 :: a1 :: a2 :: a3 :: a4 :: a5 :: a6 :: w :: w2 :: t).length from by simp only [List.length_cons]; omega) (fun u hu _ => by cases hu; rw [hk]; decide) h
theorem x_aload7 {i : zM} {d pc pc2 : Nat} {σ : zS} {Q : Option Value → zS → Prop} {a0 a1 a2 a3 a4 a5 a6 : Value} {t st : List Value} {x : Nat} (hd : decode i.2.1 pc = .ok (.aload 7, 2)) (hp : pc + 2 = pc2) (h : z_At i d pc2 (a0 :: a1 :: a2 :: a3 :: a4 :: a5 :: a6 :: .ref x :: t) (.ref x :: st) σ Q) : z_At i d pc (a0 :: a1 :: a2 :: a3 :: a4 :: a5 :: a6 :: .ref x :: t) st σ Q := x_aload_g hd hp rfl h
theorem x_astore7 {i : zM} {d pc pc2 : Nat} {σ : zS} {Q : Option Value → zS → Prop} {a0 a1 a2 a3 a4 a5 a6 w : Value} {t st : List Value} {x : Nat} (hd : decode i.2.1 pc = .ok (.astore 7, 2)) (hp : pc + 2 = pc2) (hk : a6.category = 1) (h : z_At i d pc2 (a0 :: a1 :: a2 :: a3 :: a4 :: a5 :: a6 :: .ref x :: t) st σ Q) : z_At i d pc (a0 :: a1 :: a2 :: a3 :: a4 :: a5 :: a6 :: w :: t) (.ref x :: st) σ Q := x_astore_g hd hp (show 7 < (a0 :: a1 :: a2 :: a3 :: a4 :: a5 :: a6 :: w :: t).length from by simp only [List.length_cons]; omega) (fun u hu _ => by cases hu; rw [hk]; decide) h
theorem x_iinc7 {i : zM} {d pc pc2 : Nat} {σ : zS} {Q : Option Value → zS → Prop} {a0 a1 a2 a3 a4 a5 a6 : Value} {t st : List Value} {n : Int} {x v : Int32} (hd : decode i.2.1 pc = .ok (.iinc 7 n, 3)) (hp : pc + 3 = pc2) (he : x + Int32.ofInt n = v) (hk : a6.category = 1) (h : z_At i d pc2 (a0 :: a1 :: a2 :: a3 :: a4 :: a5 :: a6 :: .int v :: t) st σ Q) : z_At i d pc (a0 :: a1 :: a2 :: a3 :: a4 :: a5 :: a6 :: .int x :: t) st σ Q := x_iinc_g hd hp rfl he (fun u hu _ => by cases hu; rw [hk]; decide) h
theorem x_iload8 {i : zM} {d pc pc2 : Nat} {σ : zS} {Q : Option Value → zS → Prop} {a0 a1 a2 a3 a4 a5 a6 a7 : Value} {t st : List Value} {x : Int32} (hd : decode i.2.1 pc = .ok (.iload 8, 2)) (hp : pc + 2 = pc2) (h : z_At i d pc2 (a0 :: a1 :: a2 :: a3 :: a4 :: a5 :: a6 :: a7 :: .int x :: t) (.int x :: st) σ Q) : z_At i d pc (a0 :: a1 :: a2 :: a3 :: a4 :: a5 :: a6 :: a7 :: .int x :: t) st σ Q := x_iload_g hd hp rfl h
theorem x_istore8 {i : zM} {d pc pc2 : Nat} {σ : zS} {Q : Option Value → zS → Prop} {a0 a1 a2 a3 a4 a5 a6 a7 w : Value} {t st : List Value} {x : Int32} (hd : decode i.2.1 pc = .ok (.istore 8, 2)) (hp : pc + 2 = pc2) (hk : a7.category = 1) (h : z_At i d pc2 (a0 :: a1 :: a2 :: a3 :: a4 :: a5 :: a6 :: a7 :: .int x :: t) st σ Q) : z_At i d pc (a0 :: a1 :: a2 :: a3 :: a4 :: a5 :: a6 :: a7 :: w :: t) (.int x :: st) σ Q := x_istore_g hd hp (show 8 < (a0 :: a1 :: a2 :: a3 :: a4 :: a5 :: a6 :: a7 :: w :: t).length from by simp only [List.length_cons]; omega) (fun u hu _ => by cases hu; rw [hk]; decide) h
theorem x_lload8 {i : zM} {d pc pc2 : Nat} {σ : zS} {Q : Option Value → zS → Prop} {a0 a1 a2 a3 a4 a5 a6 a7 : Value} {t st : List Value} {x : Int64} (hd : decode i.2.1 pc = .ok (.lload 8, 2)) (hp : pc + 2 = pc2) (h : z_At i d pc2 (a0 :: a1 :: a2 :: a3 :: a4 :: a5 :: a6 :: a7 :: .long x :: t) (.long x :: st) σ Q) : z_At i d pc (a0 :: a1 :: a2 :: a3 :: a4 :: a5 :: a6 :: a7 :: .long x :: t) st σ Q := x_lload_g hd hp rfl h
theorem x_lstore8 {i : zM} {d pc pc2 : Nat} {σ : zS} {Q : Option Value → zS → Prop} {a0 a1 a2 a3 a4 a5 a6 a7 w : Value} {t st : List Value} {w2 : Value} {x : Int64} (hd : decode i.2.1 pc = .ok (.lstore 8, 2)) (hp : pc + 2 = pc2) (hk : a7.category = 1) (h : z_At i d pc2 (a0 :: a1 :: a2 :: a3 :: a4 :: a5 :: a6 :: a7 :: .long x :: .null :: t) st σ Q) : z_At i d pc (a0 :: a1 :: a2 :: a3 :: a4 :: a5 :: a6 :: a7 :: w :: w2 :: t) (.long x :: st) σ Q := x_lstore_g hd hp (show 8 + 1 < (a0 :: a1 :: a2 :: a3 :: a4 :: a5 :: a6 :: a7 :: w :: w2 :: t).length from by simp only [List.length_cons]; omega) (fun u hu _ => by cases hu; rw [hk]; decide) h
theorem x_aload8 {i : zM} {d pc pc2 : Nat} {σ : zS} {Q : Option Value → zS → Prop} {a0 a1 a2 a3 a4 a5 a6 a7 : Value} {t st : List Value} {x : Nat} (hd : decode i.2.1 pc = .ok (.aload 8, 2)) (hp : pc + 2 = pc2) (h : z_At i d pc2 (a0 :: a1 :: a2 :: a3 :: a4 :: a5 :: a6 :: a7 :: .ref x :: t) (.ref x :: st) σ Q) : z_At i d pc (a0 :: a1 :: a2 :: a3 :: a4 :: a5 :: a6 :: a7 :: .ref x :: t) st σ Q := x_aload_g hd hp rfl h
theorem x_astore8 {i : zM} {d pc pc2 : Nat} {σ : zS} {Q : Option Value → zS → Prop} {a0 a1 a2 a3 a4 a5 a6 a7 w : Value} {t st : List Value} {x : Nat} (hd : decode i.2.1 pc = .ok (.astore 8, 2)) (hp : pc + 2 = pc2) (hk : a7.category = 1) (h : z_At i d pc2 (a0 :: a1 :: a2 :: a3 :: a4 :: a5 :: a6 :: a7 :: .ref x :: t) st σ Q) : z_At i d pc (a0 :: a1 :: a2 :: a3 :: a4 :: a5 :: a6 :: a7 :: w :: t) (.ref x :: st) σ Q := x_astore_g hd hp (show 8 < (a0 :: a1 :: a2 :: a3 :: a4 :: a5 :: a6 :: a7 :: w :: t).length from by simp only [List.length_cons]; omega) (fun u hu _ => by cases hu; rw [hk]; decide) h
theorem x_iinc8 {i : zM} {d pc pc2 : Nat} {σ : zS} {Q : Option Value → zS → Prop} {a0 a1 a2 a3 a4 a5 a6 a7 : Value} {t st : List Value} {n : Int} {x v : Int32} (hd : decode i.2.1 pc = .ok (.iinc 8 n, 3)) (hp : pc + 3 = pc2) (he : x + Int32.ofInt n = v) (hk : a7.category = 1) (h : z_At i d pc2 (a0 :: a1 :: a2 :: a3 :: a4 :: a5 :: a6 :: a7 :: .int v :: t) st σ Q) : z_At i d pc (a0 :: a1 :: a2 :: a3 :: a4 :: a5 :: a6 :: a7 :: .int x :: t) st σ Q := x_iinc_g hd hp rfl he (fun u hu _ => by cases hu; rw [hk]; decide) h
theorem x_iload9 {i : zM} {d pc pc2 : Nat} {σ : zS} {Q : Option Value → zS → Prop} {a0 a1 a2 a3 a4 a5 a6 a7 a8 : Value} {t st : List Value} {x : Int32} (hd : decode i.2.1 pc = .ok (.iload 9, 2)) (hp : pc + 2 = pc2) (h : z_At i d pc2 (a0 :: a1 :: a2 :: a3 :: a4 :: a5 :: a6 :: a7 :: a8 :: .int x :: t) (.int x :: st) σ Q) : z_At i d pc (a0 :: a1 :: a2 :: a3 :: a4 :: a5 :: a6 :: a7 :: a8 :: .int x :: t) st σ Q := x_iload_g hd hp rfl h
theorem x_istore9 {i : zM} {d pc pc2 : Nat} {σ : zS} {Q : Option Value → zS → Prop} {a0 a1 a2 a3 a4 a5 a6 a7 a8 w : Value} {t st : List Value} {x : Int32} (hd : decode i.2.1 pc = .ok (.istore 9, 2)) (hp : pc + 2 = pc2) (hk : a8.category = 1) (h : z_At i d pc2 (a0 :: a1 :: a2 :: a3 :: a4 :: a5 :: a6 :: a7 :: a8 :: .int x :: t) st σ Q) : z_At i d pc (a0 :: a1 :: a2 :: a3 :: a4 :: a5 :: a6 :: a7 :: a8 :: w :: t) (.int x :: st) σ Q := x_istore_g hd hp (show 9 < (a0 :: a1 :: a2 :: a3 :: a4 :: a5 :: a6 :: a7 :: a8 :: w :: t).length from by simp only [List.length_cons]; omega) (fun u hu _ => by cases hu; rw [hk]; decide) h
theorem x_lload9 {i : zM} {d pc pc2 : Nat} {σ : zS} {Q : Option Value → zS → Prop} {a0 a1 a2 a3 a4 a5 a6 a7 a8 : Value} {t st : List Value} {x : Int64} (hd : decode i.2.1 pc = .ok (.lload 9, 2)) (hp : pc + 2 = pc2) (h : z_At i d pc2 (a0 :: a1 :: a2 :: a3 :: a4 :: a5 :: a6 :: a7 :: a8 :: .long x :: t) (.long x :: st) σ Q) : z_At i d pc (a0 :: a1 :: a2 :: a3 :: a4 :: a5 :: a6 :: a7 :: a8 :: .long x :: t) st σ Q := x_lload_g hd hp rfl h
theorem x_lstore9 {i : zM} {d pc pc2 : Nat} {σ : zS} {Q : Option Value → zS → Prop} {a0 a1 a2 a3 a4 a5 a6 a7 a8 w : Value} {t st : List Value} {w2 : Value} {x : Int64} (hd : decode i.2.1 pc = .ok (.lstore 9, 2)) (hp : pc + 2 = pc2) (hk : a8.category = 1) (h : z_At i d pc2 (a0 :: a1 :: a2 :: a3 :: a4 :: a5 :: a6 :: a7 :: a8 :: .long x :: .null :: t) st σ Q) : z_At i d pc (a0 :: a1 :: a2 :: a3 :: a4 :: a5 :: a6 :: a7 :: a8 :: w :: w2 :: t) (.long x :: st) σ Q := x_lstore_g hd hp (show 9 + 1 < (a0 :: a1 :: a2 :: a3 :: a4 :: a5 :: a6 :: a7 :: a8 :: w :: w2 :: t).length from by simp only [List.length_cons]; omega) (fun u hu _ => by cases hu; rw [hk]; decide) h
theorem x_aload9 {i : zM} {d pc pc2 : Nat} {σ : zS} {Q : Option Value → zS → Prop} {a0 a1 a2 a3 a4 a5 a6 a7 a8 : Value} {t st : List Value} {x : Nat} (hd : decode i.2.1 pc = .ok (.aload 9, 2)) (hp : pc + 2 = pc2) (h : z_At i d pc2 (a0 :: a1 :: a2 :: a3 :: a4 :: a5 :: a6 :: a7 :: a8 :: .ref x :: t) (.ref x :: st) σ Q) : z_At i d pc (a0 :: a1 :: a2 :: a3 :: a4 :: a5 :: a6 :: a7 :: a8 :: .ref x :: t) st σ Q := x_aload_g hd hp rfl h
theorem x_astore9 {i : zM} {d pc pc2 : Nat} {σ : zS} {Q : Option Value → zS → Prop} {a0 a1 a2 a3 a4 a5 a6 a7 a8 w : Value} {t st : List Value} {x : Nat} (hd : decode i.2.1 pc = .ok (.astore 9, 2)) (hp : pc + 2 = pc2) (hk : a8.category = 1) (h : z_At i d pc2 (a0 :: a1 :: a2 :: a3 :: a4 :: a5 :: a6 :: a7 :: a8 :: .ref x :: t) st σ Q) : z_At i d pc (a0 :: a1 :: a2 :: a3 :: a4 :: a5 :: a6 :: a7 :: a8 :: w :: t) (.ref x :: st) σ Q := x_astore_g hd hp (show 9 < (a0 :: a1 :: a2 :: a3 :: a4 :: a5 :: a6 :: a7 :: a8 :: w :: t).length from by simp only [List.length_cons]; omega) (fun u hu _ => by cases hu; rw [hk]; decide) h
theorem x_iinc9 {i : zM} {d pc pc2 : Nat} {σ : zS} {Q : Option Value → zS → Prop} {a0 a1 a2 a3 a4 a5 a6 a7 a8 : Value} {t st : List Value} {n : Int} {x v : Int32} (hd : decode i.2.1 pc = .ok (.iinc 9 n, 3)) (hp : pc + 3 = pc2) (he : x + Int32.ofInt n = v) (hk : a8.category = 1) (h : z_At i d pc2 (a0 :: a1 :: a2 :: a3 :: a4 :: a5 :: a6 :: a7 :: a8 :: .int v :: t) st σ Q) : z_At i d pc (a0 :: a1 :: a2 :: a3 :: a4 :: a5 :: a6 :: a7 :: a8 :: .int x :: t) st σ Q := x_iinc_g hd hp rfl he (fun u hu _ => by cases hu; rw [hk]; decide) h
theorem x_iload10 {i : zM} {d pc pc2 : Nat} {σ : zS} {Q : Option Value → zS → Prop} {a0 a1 a2 a3 a4 a5 a6 a7 a8 a9 : Value} {t st : List Value} {x : Int32} (hd : decode i.2.1 pc = .ok (.iload 10, 2)) (hp : pc + 2 = pc2) (h : z_At i d pc2 (a0 :: a1 :: a2 :: a3 :: a4 :: a5 :: a6 :: a7 :: a8 :: a9 :: .int x :: t) (.int x :: st) σ Q) : z_At i d pc (a0 :: a1 :: a2 :: a3 :: a4 :: a5 :: a6 :: a7 :: a8 :: a9 :: .int x :: t) st σ Q := x_iload_g hd hp rfl h
theorem x_istore10 {i : zM} {d pc pc2 : Nat} {σ : zS} {Q : Option Value → zS → Prop} {a0 a1 a2 a3 a4 a5 a6 a7 a8 a9 w : Value} {t st : List Value} {x : Int32} (hd : decode i.2.1 pc = .ok (.istore 10, 2)) (hp : pc + 2 = pc2) (hk : a9.category = 1) (h : z_At i d pc2 (a0 :: a1 :: a2 :: a3 :: a4 :: a5 :: a6 :: a7 :: a8 :: a9 :: .int x :: t) st σ Q) : z_At i d pc (a0 :: a1 :: a2 :: a3 :: a4 :: a5 :: a6 :: a7 :: a8 :: a9 :: w :: t) (.int x :: st) σ Q := x_istore_g hd hp (show 10 < (a0 :: a1 :: a2 :: a3 :: a4 :: a5 :: a6 :: a7 :: a8 :: a9 :: w :: t).length from by simp only [List.length_cons]; omega) (fun u hu _ => by cases hu; rw [hk]; decide) h
theorem x_lload10 {i : zM} {d pc pc2 : Nat} {σ : zS} {Q : Option Value → zS → Prop} {a0 a1 a2 a3 a4 a5 a6 a7 a8 a9 : Value} {t st : List Value} {x : Int64} (hd : decode i.2.1 pc = .ok (.lload 10, 2)) (hp : pc + 2 = pc2) (h : z_At i d pc2 (a0 :: a1 :: a2 :: a3 :: a4 :: a5 :: a6 :: a7 :: a8 :: a9 :: .long x :: t) (.long x :: st) σ Q) : z_At i d pc (a0 :: a1 :: a2 :: a3 :: a4 :: a5 :: a6 :: a7 :: a8 :: a9 :: .long x :: t) st σ Q := x_lload_g hd hp rfl h
theorem x_lstore10 {i : zM} {d pc pc2 : Nat} {σ : zS} {Q : Option Value → zS → Prop} {a0 a1 a2 a3 a4 a5 a6 a7 a8 a9 w : Value} {t st : List Value} {w2 : Value} {x : Int64} (hd : decode i.2.1 pc = .ok (.lstore 10, 2)) (hp : pc + 2 = pc2) (hk : a9.category = 1) (h : z_At i d pc2 (a0 :: a1 :: a2 :: a3 :: a4 :: a5 :: a6 :: a7 :: a8 :: a9 :: .long x :: .null :: t) st σ Q) : z_At i d pc (a0 :: a1 :: a2 :: a3 :: a4 :: a5 :: a6 :: a7 :: a8 :: a9 :: w :: w2 :: t) (.long x :: st) σ Q := x_lstore_g hd hp (show 10 + 1 < (a0 :: a1 :: a2 :: a3 :: a4 :: a5 :: a6 :: a7 :: a8 :: a9 :: w :: w2 :: t).length from by simp only [List.length_cons]; omega) (fun u hu _ => by cases hu; rw [hk]; decide) h
theorem x_aload10 {i : zM} {d pc pc2 : Nat} {σ : zS} {Q : Option Value → zS → Prop} {a0 a1 a2 a3 a4 a5 a6 a7 a8 a9 : Value} {t st : List Value} {x : Nat} (hd : decode i.2.1 pc = .ok (.aload 10, 2)) (hp : pc + 2 = pc2) (h : z_At i d pc2 (a0 :: a1 :: a2 :: a3 :: a4 :: a5 :: a6 :: a7 :: a8 :: a9 :: .ref x :: t) (.ref x :: st) σ Q) : z_At i d pc (a0 :: a1 :: a2 :: a3 :: a4 :: a5 :: a6 :: a7 :: a8 :: a9 :: .ref x :: t) st σ Q := x_aload_g hd hp rfl h
theorem x_astore10 {i : zM} {d pc pc2 : Nat} {σ : zS} {Q : Option Value → zS → Prop} {a0 a1 a2 a3 a4 a5 a6 a7 a8 a9 w : Value} {t st : List Value} {x : Nat} (hd : decode i.2.1 pc = .ok (.astore 10, 2)) (hp : pc + 2 = pc2) (hk : a9.category = 1) (h : z_At i d pc2 (a0 :: a1 :: a2 :: a3 :: a4 :: a5 :: a6 :: a7 :: a8 :: a9 :: .ref x :: t) st σ Q) : z_At i d pc (a0 :: a1 :: a2 :: a3 :: a4 :: a5 :: a6 :: a7 :: a8 :: a9 :: w :: t) (.ref x :: st) σ Q := x_astore_g hd hp (show 10 < (a0 :: a1 :: a2 :: a3 :: a4 :: a5 :: a6 :: a7 :: a8 :: a9 :: w :: t).length from by simp only [List.length_cons]; omega) (fun u hu _ => by cases hu; rw [hk]; decide) h
theorem x_iinc10 {i : zM} {d pc pc2 : Nat} {σ : zS} {Q : Option Value → zS → Prop} {a0 a1 a2 a3 a4 a5 a6 a7 a8 a9 : Value} {t st : List Value} {n : Int} {x v : Int32} (hd : decode i.2.1 pc = .ok (.iinc 10 n, 3)) (hp : pc + 3 = pc2) (he : x + Int32.ofInt n = v) (hk : a9.category = 1) (h : z_At i d pc2 (a0 :: a1 :: a2 :: a3 :: a4 :: a5 :: a6 :: a7 :: a8 :: a9 :: .int v :: t) st σ Q) : z_At i d pc (a0 :: a1 :: a2 :: a3 :: a4 :: a5 :: a6 :: a7 :: a8 :: a9 :: .int x :: t) st σ Q := x_iinc_g hd hp rfl he (fun u hu _ => by cases hu; rw [hk]; decide) h
theorem x_iload11 {i : zM} {d pc pc2 : Nat} {σ : zS} {Q : Option Value → zS → Prop} {a0 a1 a2 a3 a4 a5 a6 a7 a8 a9 a10 : Value} {t st : List Value} {x : Int32} (hd : decode i.2.1 pc = .ok (.iload 11, 2)) (hp : pc + 2 = pc2) (h : z_At i d pc2 (a0 :: a1 :: a2 :: a3 :: a4 :: a5 :: a6 :: a7 :: a8 :: a9 :: a10 :: .int x :: t) (.int x :: st) σ Q) : z_At i d pc (a0 :: a1 :: a2 :: a3 :: a4 :: a5 :: a6 :: a7 :: a8 :: a9 :: a10 :: .int x :: t) st σ Q := x_iload_g hd hp rfl h
theorem x_istore11 {i : zM} {d pc pc2 : Nat} {σ : zS} {Q : Option Value → zS → Prop} {a0 a1 a2 a3 a4 a5 a6 a7 a8 a9 a10 w : Value} {t st : List Value} {x : Int32} (hd : decode i.2.1 pc = .ok (.istore 11, 2)) (hp : pc + 2 = pc2) (hk : a10.category = 1) (h : z_At i d pc2 (a0 :: a1 :: a2 :: a3 :: a4 :: a5 :: a6 :: a7 :: a8 :: a9 :: a10 :: .int x :: t) st σ Q) : z_At i d pc (a0 :: a1 :: a2 :: a3 :: a4 :: a5 :: a6 :: a7 :: a8 :: a9 :: a10 :: w :: t) (.int x :: st) σ Q := x_istore_g hd hp (show 11 < (a0 :: a1 :: a2 :: a3 :: a4 :: a5 :: a6 :: a7 :: a8 :: a9 :: a10 :: w :: t).length from by simp only [List.length_cons]; omega) (fun u hu _ => by cases hu; rw [hk]; decide) h
theorem x_lload11 {i : zM} {d pc pc2 : Nat} {σ : zS} {Q : Option Value → zS → Prop} {a0 a1 a2 a3 a4 a5 a6 a7 a8 a9 a10 : Value} {t st : List Value} {x : Int64} (hd : decode i.2.1 pc = .ok (.lload 11, 2)) (hp : pc + 2 = pc2) (h : z_At i d pc2 (a0 :: a1 :: a2 :: a3 :: a4 :: a5 :: a6 :: a7 :: a8 :: a9 :: a10 :: .long x :: t) (.long x :: st) σ Q) : z_At i d pc (a0 :: a1 :: a2 :: a3 :: a4 :: a5 :: a6 :: a7 :: a8 :: a9 :: a10 :: .long x :: t) st σ Q := x_lload_g hd hp rfl h
theorem x_lstore11 {i : zM} {d pc pc2 : Nat} {σ : zS} {Q : Option Value → zS → Prop} {a0 a1 a2 a3 a4 a5 a6 a7 a8 a9 a10 w : Value} {t st : List Value} {w2 : Value} {x : Int64} (hd : decode i.2.1 pc = .ok (.lstore 11, 2)) (hp : pc + 2 = pc2) (hk : a10.category = 1) (h : z_At i d pc2 (a0 :: a1 :: a2 :: a3 :: a4 :: a5 :: a6 :: a7 :: a8 :: a9 :: a10 :: .long x :: .null :: t) st σ Q) : z_At i d pc (a0 :: a1 :: a2 :: a3 :: a4 :: a5 :: a6 :: a7 :: a8 :: a9 :: a10 :: w :: w2 :: t) (.long x :: st) σ Q := x_lstore_g hd hp (show 11 + 1 < (a0 :: a1 :: a2 :: a3 :: a4 :: a5 :: a6 :: a7 :: a8 :: a9 :: a10 :: w :: w2 :: t).length from by simp only [List.length_cons]; omega) (fun u hu _ => by cases hu; rw [hk]; decide) h
theorem x_aload11 {i : zM} {d pc pc2 : Nat} {σ : zS} {Q : Option Value → zS → Prop} {a0 a1 a2 a3 a4 a5 a6 a7 a8 a9 a10 : Value} {t st : List Value} {x : Nat} (hd : decode i.2.1 pc = .ok (.aload 11, 2)) (hp : pc + 2 = pc2) (h : z_At i d pc2 (a0 :: a1 :: a2 :: a3 :: a4 :: a5 :: a6 :: a7 :: a8 :: a9 :: a10 :: .ref x :: t) (.ref x :: st) σ Q) : z_At i d pc (a0 :: a1 :: a2 :: a3 :: a4 :: a5 :: a6 :: a7 :: a8 :: a9 :: a10 :: .ref x :: t) st σ Q := x_aload_g hd hp rfl h
theorem x_astore11 {i : zM} {d pc pc2 : Nat} {σ : zS} {Q : Option Value → zS → Prop} {a0 a1 a2 a3 a4 a5 a6 a7 a8 a9 a10 w : Value} {t st : List Value} {x : Nat} (hd : decode i.2.1 pc = .ok (.astore 11, 2)) (hp : pc + 2 = pc2) (hk : a10.category = 1) (h : z_At i d pc2 (a0 :: a1 :: a2 :: a3 :: a4 :: a5 :: a6 :: a7 :: a8 :: a9 :: a10 :: .ref x :: t) st σ Q) : z_At i d pc (a0 :: a1 :: a2 :: a3 :: a4 :: a5 :: a6 :: a7 :: a8 :: a9 :: a10 :: w :: t) (.ref x :: st) σ Q := x_astore_g hd hp (show 11 < (a0 :: a1 :: a2 :: a3 :: a4 :: a5 :: a6 :: a7 :: a8 :: a9 :: a10 :: w :: t).length from by simp only [List.length_cons]; omega) (fun u hu _ => by cases hu; rw [hk]; decide) h
theorem x_iinc11 {i : zM} {d pc pc2 : Nat} {σ : zS} {Q : Option Value → zS → Prop} {a0 a1 a2 a3 a4 a5 a6 a7 a8 a9 a10 : Value} {t st : List Value} {n : Int} {x v : Int32} (hd : decode i.2.1 pc = .ok (.iinc 11 n, 3)) (hp : pc + 3 = pc2) (he : x + Int32.ofInt n = v) (hk : a10.category = 1) (h : z_At i d pc2 (a0 :: a1 :: a2 :: a3 :: a4 :: a5 :: a6 :: a7 :: a8 :: a9 :: a10 :: .int v :: t) st σ Q) : z_At i d pc (a0 :: a1 :: a2 :: a3 :: a4 :: a5 :: a6 :: a7 :: a8 :: a9 :: a10 :: .int x :: t) st σ Q := x_iinc_g hd hp rfl he (fun u hu _ => by cases hu; rw [hk]; decide) h
theorem x_ldc {i : zM} {d pc pc2 : Nat} {ls st : List Value} {σ : zS} {Q : Option Value → zS → Prop} {idx : Nat} {v : Int32} (hw : Cond.constant i.1.cls idx v ∈ lw_tbl) (hd : decode i.2.1 pc = .ok (.ldc idx, 2)) (hp : pc + 2 = pc2) (h : z_At i d pc2 ls (.int v :: st) σ Q) : z_At i d pc ls st σ Q := by
  subst hp
  intro p l e R s m args below meth c cells slots QS ad dC dI cA A hC hN hc hR H locs lsA hH hl
  exact lv_ldc hC.1 hC.2.1 hC.2.2.2.1 (hC.2.2.2.2.1 _ (z_inT hw rfl)) hd (h p l e R s m args below meth c cells slots QS ad dC dI cA A hC hN hc hR H locs lsA hH hl)
theorem x_ldc2 {i : zM} {d pc pc2 : Nat} {ls st : List Value} {σ : zS} {Q : Option Value → zS → Prop} {idx : Nat} {v : Int64} (hw : Cond.constantLong i.1.cls idx v ∈ lw_tbl) (hd : decode i.2.1 pc = .ok (.ldc2_w idx, 3)) (hp : pc + 3 = pc2) (h : z_At i d pc2 ls (.long v :: st) σ Q) : z_At i d pc ls st σ Q := by
  subst hp
  intro p l e R s m args below meth c cells slots QS ad dC dI cA A hC hN hc hR H locs lsA hH hl
  exact lv_ldc2 hC.1 hC.2.1 hC.2.2.2.1 (hC.2.2.2.2.1 _ (z_inT hw rfl)) hd (h p l e R s m args below meth c cells slots QS ad dC dI cA A hC hN hc hR H locs lsA hH hl)
theorem x_iret {i : zM} {d pc : Nat} {ls : List Value} {σ : zS} {Q : Option Value → zS → Prop} {v : Int32} (hd : decode i.2.1 pc = .ok (.ireturn, 1)) (hr : i.2.2.2 = some .int) (h : Q (some (.int v)) σ) : z_At i d pc ls [.int v] σ Q := by
  intro p l e R s m args below meth c cells slots QS ad dC dI cA A hC hN hc hR H locs lsA hH hl
  exact hR (some (.int v)) σ H locs lsA pc h hH ⟨⟨.int, hr, rfl⟩, hd⟩
theorem x_zret {i : zM} {d pc : Nat} {ls : List Value} {σ : zS} {Q : Option Value → zS → Prop} {v : Int32} (hd : decode i.2.1 pc = .ok (.ireturn, 1)) (hr : i.2.2.2 = some .boolean) (hv : v = 0 ∨ v = 1) (h : Q (some (.int v)) σ) : z_At i d pc ls [.int v] σ Q := by
  intro p l e R s m args below meth c cells slots QS ad dC dI cA A hC hN hc hR H locs lsA hH hl
  refine hR (some (.int v)) σ H locs lsA pc h hH ⟨⟨.boolean, hr, ?_⟩, hd⟩
  rcases hv with rfl | rfl <;> rfl
theorem x_lret {i : zM} {d pc : Nat} {ls : List Value} {σ : zS} {Q : Option Value → zS → Prop} {v : Int64} (hd : decode i.2.1 pc = .ok (.lreturn, 1)) (hr : i.2.2.2 = some .long) (h : Q (some (.long v)) σ) : z_At i d pc ls [.long v] σ Q := by
  intro p l e R s m args below meth c cells slots QS ad dC dI cA A hC hN hc hR H locs lsA hH hl
  exact hR (some (.long v)) σ H locs lsA pc h hH ⟨hr, hd⟩
theorem x_vret {i : zM} {d pc : Nat} {ls : List Value} {σ : zS} {Q : Option Value → zS → Prop} (hd : decode i.2.1 pc = .ok (.return_, 1)) (hr : i.2.2.2 = none) (h : Q none σ) : z_At i d pc ls [] σ Q := by
  intro p l e R s m args below meth c cells slots QS ad dC dI cA A hC hN hc hR H locs lsA hH hl
  exact hR none σ H locs lsA pc h hH ⟨hr, hd⟩
end
section
/-! fields -/
theorem x_get {i : zM} {d pc pc2 : Nat} {ls st : List Value} {σ : zS} {Q : Option Value → zS → Prop} {idx r ci j : Nat} {ks : List (Nat × Nat)} {k : Nat × Nat} (hf : z_Lf i.1.cls idx ci j) (hs : z_shp r = (0, ci, ks)) (hk : ks[j]? = some k) (hd : decode i.2.1 pc = .ok (.getfield idx, 3)) (hp : pc + 3 = pc2) (h : z_At i d pc2 ls (z_av σ r j k :: st) σ Q) : z_At i d pc ls (.ref r :: st) σ Q := by
  subst hp
  intro p l e R s m args below meth c cells slots QS ad dC dI cA A hC hN hc hR H locs lsA hH hl
  obtain ⟨C, T, N, h1, h2, h3, h4, h5⟩ := hf
  have hr : r < 63 := z_shp_lt hs (by decide)
  have hw : (z_ws ad cA σ)[r]? = some (ad r, .inr (ci, z_fs ad σ r ks)) := by rw [z_ws_at ad cA σ hr, z_cell_o hs]
  have hgo := h p l e R s m args below meth c cells slots QS ad dC dI cA A hC hN hc hR H locs lsA hH hl
  rw [List.map_cons, z_cv_av] at hgo
  have hsame : ∀ x, s.fieldFound? (T j).1 (T j).2.1 (T j).2.2.1 = some x → s.fieldFound? C (T j).2.1 (T j).2.2.1 = some x := fun x hx => by rw [h4] at hx; exact hx
  rcases h5 with h5 | ⟨host, h5⟩
  · exact va_get (D := (dC, dI)) hC.1 hC.2.1 hC.2.2.2.2.1 (z_uws h2) hC.2.2.2.1 hN.2.1 hH.1 r hw h1 j h3 (hC.2.2.2.2.1 _ (z_inT h5 rfl)) hsame (z_fs_at hk) hd hgo
  · exact va_getN (D := (dC, dI)) hC.1 hC.2.1 hC.2.2.2.2.1 (z_uws h2) hC.2.2.2.1 hN.2.1 hH.1 r hw h1 j h3 (va_Nw.use rfl (hN.2.2.2.2.2 _ (List.mem_filter.mpr ⟨h5, rfl⟩))) hsame (z_fs_at hk) hd hgo
theorem x_getI {i : zM} {d pc pc2 : Nat} {ls st : List Value} {σ : zS} {Q : Option Value → zS → Prop} {idx r ci j t : Nat} {ks : List (Nat × Nat)} (hf : z_Lf i.1.cls idx ci j) (hs : z_shp r = (0, ci, ks)) (hk : ks[j]? = some (0, t)) (hd : decode i.2.1 pc = .ok (.getfield idx, 3)) (hp : pc + 3 = pc2) (h : z_At i d pc2 ls (.int (σ.1 r j) :: st) σ Q) : z_At i d pc ls (.ref r :: st) σ Q := x_get hf hs hk hd hp h
theorem x_getL {i : zM} {d pc pc2 : Nat} {ls st : List Value} {σ : zS} {Q : Option Value → zS → Prop} {idx r ci j t : Nat} {ks : List (Nat × Nat)} (hf : z_Lf i.1.cls idx ci j) (hs : z_shp r = (0, ci, ks)) (hk : ks[j]? = some (1, t)) (hd : decode i.2.1 pc = .ok (.getfield idx, 3)) (hp : pc + 3 = pc2) (h : z_At i d pc2 ls (.long (σ.2 r j) :: st) σ Q) : z_At i d pc ls (.ref r :: st) σ Q := x_get hf hs hk hd hp h
theorem x_getR {i : zM} {d pc pc2 : Nat} {ls st : List Value} {σ : zS} {Q : Option Value → zS → Prop} {idx r ci j t : Nat} {ks : List (Nat × Nat)} (hf : z_Lf i.1.cls idx ci j) (hs : z_shp r = (0, ci, ks)) (hk : ks[j]? = some (2, t)) (hd : decode i.2.1 pc = .ok (.getfield idx, 3)) (hp : pc + 3 = pc2) (h : z_At i d pc2 ls (.ref t :: st) σ Q) : z_At i d pc ls (.ref r :: st) σ Q := x_get hf hs hk hd hp h
theorem z_fs_st {ad : Nat → Nat} {σ : zS} {r j t : Nat} {ks : List (Nat × Nat)} (v : Int32) (h : ks[j]? = some (0, t)) : (z_fs ad σ r ks).set j (.int v) = z_fs ad (z_st σ r j v) r ks := by
  apply List.ext_getElem?
  intro q
  unfold z_fs
  by_cases hq : q = j
  · subst hq
    rw [List.getElem?_set_self (by rw [List.length_mapIdx]; exact (List.getElem?_eq_some_iff.mp h).1), List.getElem?_mapIdx, h]
    simp [z_fv, z_st, z_up_same, upd]
  · rw [List.getElem?_set_ne (Ne.symm hq), List.getElem?_mapIdx, List.getElem?_mapIdx]
    cases ks[q]? with
    | none => rfl
    | some k => simp [z_fv, z_st, z_up_same, upd, hq]
theorem z_fs_stL {ad : Nat → Nat} {σ : zS} {r j t : Nat} {ks : List (Nat × Nat)} (v : Int64) (h : ks[j]? = some (1, t)) : (z_fs ad σ r ks).set j (.long v) = z_fs ad (z_stL σ r j v) r ks := by
  apply List.ext_getElem?
  intro q
  unfold z_fs
  by_cases hq : q = j
  · subst hq
    rw [List.getElem?_set_self (by rw [List.length_mapIdx]; exact (List.getElem?_eq_some_iff.mp h).1), List.getElem?_mapIdx, h]
    simp [z_fv, z_stL, z_upL_same, vp_updL]
  · rw [List.getElem?_set_ne (Ne.symm hq), List.getElem?_mapIdx, List.getElem?_mapIdx]
    cases ks[q]? with
    | none => rfl
    | some k => simp [z_fv, z_stL, z_upL_same, vp_updL, hq]
theorem z_st_off {σ : zS} {r j : Nat} {v : Int32} {q : Nat} (h : q ≠ r) : (z_st σ r j v).1 q = σ.1 q ∧ (z_st σ r j v).2 q = σ.2 q := ⟨z_up_ne _ _ h, rfl⟩
theorem z_stL_off {σ : zS} {r j : Nat} {v : Int64} {q : Nat} (h : q ≠ r) : (z_stL σ r j v).1 q = σ.1 q ∧ (z_stL σ r j v).2 q = σ.2 q := ⟨rfl, z_upL_ne _ _ h⟩
theorem x_putG {i : zM} {d pc pc2 : Nat} {ls st : List Value} {σ τ : zS} {Q : Option Value → zS → Prop} {idx r ci j : Nat} {ks : List (Nat × Nat)} {ty : FieldType} {v : Value} (hf : z_Lp i.1.cls idx ci j ty) (hs : z_shp r = (0, ci, ks)) (hj : j < ks.length) (hv : ∀ ad, z_cv ad v = v) (hn : narrow ty v = v) (hfit : fits ty v = true) (he : ∀ ad, (z_fs ad σ r ks).set j v = z_fs ad τ r ks) (ho : ∀ q, q ≠ r → τ.1 q = σ.1 q ∧ τ.2 q = σ.2 q) (hd : decode i.2.1 pc = .ok (.putfield idx, 3)) (hp : pc + 3 = pc2) (h : z_At i d pc2 ls st τ Q) : z_At i d pc ls (v :: .ref r :: st) σ Q := by
  subst hp
  intro p l e R s m args below meth c cells slots QS ad dC dI cA A hC hN hc hR H locs lsA hH hl
  obtain ⟨C, T, N, ty0, h1, h2, h3, h4, h5, h6, h7, h8, h9⟩ := hf
  have hr : r < 63 := z_shp_lt hs (by decide)
  have hw : (z_ws ad cA σ)[r]? = some (ad r, .inr (ci, z_fs ad σ r ks)) := by rw [z_ws_at ad cA σ hr, z_cell_o hs]
  have hsame : ∀ x, s.fieldFound? (T j).1 (T j).2.1 (T j).2.2.1 = some x → s.fieldFound? C (T j).2.1 (T j).2.2.1 = some x := fun x hx => by rw [h4] at hx; exact hx
  have hD : va_D A (z_ws ad cA σ) := z_ws_D hN.1 hN.2.2.1
  have hlen : j < (z_fs ad σ r ks).length := by unfold z_fs; rw [List.length_mapIdx]; exact hj
  have hset : (z_ws ad cA σ).set r (ad r, .inr (ci, (z_fs ad σ r ks).set j v)) = z_ws ad cA τ := by
    rw [he ad, ← z_ws_set hr ho, z_cell_o hs]
  have kk : ∀ (H1 : Heap) (locs1 : List Loc), va_P (dC, dI) vwCl ((z_ws ad cA σ).set r (ad r, .inr (ci, (z_fs ad σ r ks).set j v))) H1 → va_D A ((z_ws ad cA σ).set r (ad r, .inr (ci, (z_fs ad σ r ks).set j v))) → va_S A s.heap H1 locs1 → W p l e R s m args below meth c H1 locs1 cells slots QS (F0 m (pc + 3) lsA (st.map (z_cv ad))) := by
    intro H1 locs1 hP1 _ hS1
    rw [hset] at hP1
    exact h p l e R s m args below meth c cells slots QS ad dC dI cA A hC hN hc hR H1 locs1 lsA (hH.mk hP1 hS1 (ho 63 (by omega)).1 (ho 64 (by omega)).1) hl
  rw [List.map_cons, List.map_cons, hv ad]
  rcases h5 with h5 | ⟨host, h5⟩
  · exact va_put (D := (dC, dI)) hC.1 hC.2.1 hC.2.2.2.2.1 (z_uws h2) ty0 h6 h7 hC.2.2.2.1 hN.2.1 hH.1 hD hH.2.2 r hw h1 j h3 (hC.2.2.2.2.1 _ (z_inT h5 rfl)) hsame h8 h9 hn hfit hlen hd kk
  · exact va_putN (D := (dC, dI)) hC.1 hC.2.1 hC.2.2.2.2.1 (z_uws h2) ty0 h6 h7 hC.2.2.2.1 hN.2.1 hH.1 hD hH.2.2 r hw h1 j h3 (va_Nw.use rfl (hN.2.2.2.2.2 _ (List.mem_filter.mpr ⟨h5, rfl⟩))) hsame h8 h9 hn hfit hlen hd kk
theorem x_putI {i : zM} {d pc pc2 : Nat} {ls st : List Value} {σ : zS} {Q : Option Value → zS → Prop} {idx r ci j t : Nat} {ks : List (Nat × Nat)} {v : Int32} (hf : z_Lp i.1.cls idx ci j .int) (hs : z_shp r = (0, ci, ks)) (hk : ks[j]? = some (0, t)) (hd : decode i.2.1 pc = .ok (.putfield idx, 3)) (hp : pc + 3 = pc2) (h : z_At i d pc2 ls st (z_st σ r j v) Q) : z_At i d pc ls (.int v :: .ref r :: st) σ Q :=
  x_putG hf hs (List.getElem?_eq_some_iff.mp hk).1 (fun _ => rfl) rfl rfl (fun _ => z_fs_st v hk) (fun _ hq => z_st_off hq) hd hp h
theorem x_putZ {i : zM} {d pc pc2 : Nat} {ls st : List Value} {σ : zS} {Q : Option Value → zS → Prop} {idx r ci j t : Nat} {ks : List (Nat × Nat)} {v : Int32} (hf : z_Lp i.1.cls idx ci j .boolean) (hs : z_shp r = (0, ci, ks)) (hk : ks[j]? = some (0, t)) (hv : v = 0 ∨ v = 1) (hd : decode i.2.1 pc = .ok (.putfield idx, 3)) (hp : pc + 3 = pc2) (h : z_At i d pc2 ls st (z_st σ r j v) Q) : z_At i d pc ls (.int v :: .ref r :: st) σ Q :=
  x_putG hf hs (List.getElem?_eq_some_iff.mp hk).1 (fun _ => rfl) (by rcases hv with rfl | rfl <;> rfl) (by rcases hv with rfl | rfl <;> rfl) (fun _ => z_fs_st v hk) (fun _ hq => z_st_off hq) hd hp h
theorem x_putL {i : zM} {d pc pc2 : Nat} {ls st : List Value} {σ : zS} {Q : Option Value → zS → Prop} {idx r ci j t : Nat} {ks : List (Nat × Nat)} {v : Int64} (hf : z_Lp i.1.cls idx ci j .long) (hs : z_shp r = (0, ci, ks)) (hk : ks[j]? = some (1, t)) (hd : decode i.2.1 pc = .ok (.putfield idx, 3)) (hp : pc + 3 = pc2) (h : z_At i d pc2 ls st (z_stL σ r j v) Q) : z_At i d pc ls (.long v :: .ref r :: st) σ Q :=
  x_putG hf hs (List.getElem?_eq_some_iff.mp hk).1 (fun _ => rfl) rfl rfl (fun _ => z_fs_stL v hk) (fun _ hq => z_stL_off hq) hd hp h
/-! arrays -/
theorem x_iald {i : zM} {d pc pc2 : Nat} {ls st : List Value} {σ : zS} {Q : Option Value → zS → Prop} {r n : Nat} {ks : List (Nat × Nat)} {x : Int32} (hs : z_shp r = (1, n, ks)) (hin : vp_in x n) (hd : decode i.2.1 pc = .ok (.iaload, 1)) (hp : pc + 1 = pc2) (h : z_At i d pc2 ls (.int (σ.1 r x.toNatClampNeg) :: st) σ Q) : z_At i d pc ls (.int x :: .ref r :: st) σ Q := by
  subst hp
  intro p l e R s m args below meth c cells slots QS ad dC dI cA A hC hN hc hR H locs lsA hH hl
  have hr : r < 63 := z_shp_lt hs (by decide)
  have hw : (z_ws ad cA σ)[r]? = some (ad r, .inl (cA 0, n, .inl (σ.1 r))) := by rw [z_ws_at ad cA σ hr, z_cell_i hs]
  exact va_iald hC.1 hC.2.1 hN.2.1 hH.1 r 0 hw rfl hin hd (h p l e R s m args below meth c cells slots QS ad dC dI cA A hC hN hc hR H locs lsA hH hl)
theorem x_zald {i : zM} {d pc pc2 : Nat} {ls st : List Value} {σ : zS} {Q : Option Value → zS → Prop} {r n : Nat} {ks : List (Nat × Nat)} {x : Int32} (hs : z_shp r = (2, n, ks)) (hin : vp_in x n) (hd : decode i.2.1 pc = .ok (.baload, 1)) (hp : pc + 1 = pc2) (h : z_At i d pc2 ls (.int (σ.1 r x.toNatClampNeg) :: st) σ Q) : z_At i d pc ls (.int x :: .ref r :: st) σ Q := by
  subst hp
  intro p l e R s m args below meth c cells slots QS ad dC dI cA A hC hN hc hR H locs lsA hH hl
  have hr : r < 63 := z_shp_lt hs (by decide)
  have hw : (z_ws ad cA σ)[r]? = some (ad r, .inl (cA 1, n, .inl (σ.1 r))) := by rw [z_ws_at ad cA σ hr, z_cell_z hs]
  exact va_zald hC.1 hC.2.1 hN.2.1 hH.1 r 1 hw rfl hin hd (h p l e R s m args below meth c cells slots QS ad dC dI cA A hC hN hc hR H locs lsA hH hl)
theorem x_aald {i : zM} {d pc pc2 : Nat} {ls st : List Value} {σ : zS} {Q : Option Value → zS → Prop} {r n : Nat} {ks : List (Nat × Nat)} {x : Int32} (hs : z_shp r = (3, n, ks)) (hin : vp_in x n) (hd : decode i.2.1 pc = .ok (.aaload, 1)) (hp : pc + 1 = pc2) (h : z_At i d pc2 ls (.ref (14 + x.toNatClampNeg) :: st) σ Q) : z_At i d pc ls (.int x :: .ref r :: st) σ Q := by
  subst hp
  intro p l e R s m args below meth c cells slots QS ad dC dI cA A hC hN hc hR H locs lsA hH hl
  have hr : r < 63 := z_shp_lt hs (by decide)
  have hw : (z_ws ad cA σ)[r]? = some (ad r, .inl (cA 2, n, .inr (.inr (.inr (.inr (fun j => some (ad (14 + j)))))))) := by rw [z_ws_at ad cA σ hr, z_cell_q hs]
  exact va_aldq hC.1 hC.2.1 hN.2.1 hH.1 r 2 hw rfl hin hd (h p l e R s m args below meth c cells slots QS ad dC dI cA A hC hN hc hR H locs lsA hH hl)
theorem x_iast {i : zM} {d pc pc2 : Nat} {ls st : List Value} {σ : zS} {Q : Option Value → zS → Prop} {r n : Nat} {ks : List (Nat × Nat)} {x v : Int32} (hs : z_shp r = (1, n, ks)) (hin : vp_in x n) (hd : decode i.2.1 pc = .ok (.iastore, 1)) (hp : pc + 1 = pc2) (h : z_At i d pc2 ls st (z_st σ r x.toNatClampNeg v) Q) : z_At i d pc ls (.int v :: .int x :: .ref r :: st) σ Q := by
  subst hp
  intro p l e R s m args below meth c cells slots QS ad dC dI cA A hC hN hc hR H locs lsA hH hl
  have hr : r < 63 := z_shp_lt hs (by decide)
  have hw : (z_ws ad cA σ)[r]? = some (ad r, .inl (cA 0, n, .inl (σ.1 r))) := by rw [z_ws_at ad cA σ hr, z_cell_i hs]
  have ho : ∀ q, q ≠ r → (z_st σ r x.toNatClampNeg v).1 q = σ.1 q ∧ (z_st σ r x.toNatClampNeg v).2 q = σ.2 q := fun q hq => z_st_off hq
  refine va_iast hC.1 hC.2.1 hN.2.1 hH.1 (z_ws_D hN.1 hN.2.2.1) hH.2.2 r 0 hw rfl hin hd (fun H1 locs1 hP1 _ hS1 => ?_)
  have hset : (z_ws ad cA σ).set r (ad r, .inl (cA 0, n, .inl (upd (σ.1 r) x.toNatClampNeg v))) = z_ws ad cA (z_st σ r x.toNatClampNeg v) := by
    rw [← z_ws_set hr ho, z_cell_i hs]
    simp [z_st, z_up_same]
  rw [hset] at hP1
  exact h p l e R s m args below meth c cells slots QS ad dC dI cA A hC hN hc hR H1 locs1 lsA (hH.mk hP1 hS1 (ho 63 (by omega)).1 (ho 64 (by omega)).1) hl
theorem x_zast {i : zM} {d pc pc2 : Nat} {ls st : List Value} {σ : zS} {Q : Option Value → zS → Prop} {r n : Nat} {ks : List (Nat × Nat)} {x v : Int32} (hs : z_shp r = (2, n, ks)) (hin : vp_in x n) (hv : v = 0 ∨ v = 1) (hd : decode i.2.1 pc = .ok (.bastore, 1)) (hp : pc + 1 = pc2) (h : z_At i d pc2 ls st (z_st σ r x.toNatClampNeg v) Q) : z_At i d pc ls (.int v :: .int x :: .ref r :: st) σ Q := by
  subst hp
  intro p l e R s m args below meth c cells slots QS ad dC dI cA A hC hN hc hR H locs lsA hH hl
  have hr : r < 63 := z_shp_lt hs (by decide)
  have hw : (z_ws ad cA σ)[r]? = some (ad r, .inl (cA 1, n, .inl (σ.1 r))) := by rw [z_ws_at ad cA σ hr, z_cell_z hs]
  have ho : ∀ q, q ≠ r → (z_st σ r x.toNatClampNeg v).1 q = σ.1 q ∧ (z_st σ r x.toNatClampNeg v).2 q = σ.2 q := fun q hq => z_st_off hq
  have hnar : vp_nar .boolean v = v := by rcases hv with rfl | rfl <;> rfl
  refine va_zast hC.1 hC.2.1 hN.2.1 hH.1 (z_ws_D hN.1 hN.2.2.1) hH.2.2 r 1 hw rfl hin hd (fun H1 locs1 hP1 _ hS1 => ?_)
  rw [hnar] at hP1
  have hset : (z_ws ad cA σ).set r (ad r, .inl (cA 1, n, .inl (upd (σ.1 r) x.toNatClampNeg v))) = z_ws ad cA (z_st σ r x.toNatClampNeg v) := by
    rw [← z_ws_set hr ho, z_cell_z hs]
    simp [z_st, z_up_same]
  rw [hset] at hP1
  exact h p l e R s m args below meth c cells slots QS ad dC dI cA A hC hN hc hR H1 locs1 lsA (hH.mk hP1 hS1 (ho 63 (by omega)).1 (ho 64 (by omega)).1) hl
theorem x_alen {i : zM} {d pc pc2 : Nat} {ls st : List Value} {σ : zS} {Q : Option Value → zS → Prop} {r n : Nat} {ks : List (Nat × Nat)} (hs : z_shp r = (1, n, ks)) (hd : decode i.2.1 pc = .ok (.arraylength, 1)) (hp : pc + 1 = pc2) (h : z_At i d pc2 ls (.int (Int32.ofNat n) :: st) σ Q) : z_At i d pc ls (.ref r :: st) σ Q := by
  subst hp
  intro p l e R s m args below meth c cells slots QS ad dC dI cA A hC hN hc hR H locs lsA hH hl
  have hr : r < 63 := z_shp_lt hs (by decide)
  have hw : (z_ws ad cA σ)[r]? = some (ad r, .inl (cA 0, n, .inl (σ.1 r))) := by rw [z_ws_at ad cA σ hr, z_cell_i hs]
  exact va_alen hC.1 hC.2.1 hN.2.1 hH.1 r 0 hw rfl rfl hd (h p l e R s m args below meth c cells slots QS ad dC dI cA A hC hN hc hR H locs lsA hH hl)
/-! the script -/
theorem x_sld {i : zM} {d pc pc2 : Nat} {ls st : List Value} {σ : zS} {Q : Option Value → zS → Prop} {x : Int32} (hin : vp_in x (z_len σ)) (hd : decode i.2.1 pc = .ok (.iaload, 1)) (hp : pc + 1 = pc2) (h : z_At i d pc2 ls (.int (σ.1 63 x.toNatClampNeg) :: st) σ Q) : z_At i d pc ls (.int x :: .ref 63 :: st) σ Q := by
  subst hp
  intro p l e R s m args below meth c cells slots QS ad dC dI cA A hC hN hc hR H locs lsA hH hl
  exact va_sld hC.1 hC.2.1 hH.2.1 hN.2.2.2.2.1 hN.2.2.2.1 hH.2.2 hin hd (h p l e R s m args below meth c cells slots QS ad dC dI cA A hC hN hc hR H locs lsA hH hl)
theorem x_slen {i : zM} {d pc pc2 : Nat} {ls st : List Value} {σ : zS} {Q : Option Value → zS → Prop} (hd : decode i.2.1 pc = .ok (.arraylength, 1)) (hp : pc + 1 = pc2) (h : z_At i d pc2 ls (.int (Int32.ofNat (z_len σ)) :: st) σ Q) : z_At i d pc ls (.ref 63 :: st) σ Q := by
  subst hp
  intro p l e R s m args below meth c cells slots QS ad dC dI cA A hC hN hc hR H locs lsA hH hl
  exact va_slen hC.1 hC.2.1 hH.2.1 hN.2.2.2.2.1 hN.2.2.2.1 hH.2.2 hd (h p l e R s m args below meth c cells slots QS ad dC dI cA A hC hN hc hR H locs lsA hH hl)
end
section
/-! calls -/
theorem z_W.moved {ad : Nat → Nat} {dC : Nat → ClassId} {dI : Nat → Nat → Nat} {cA : Nat → ClassId} {σ : zS} {u U : State} (hh : U.heap = u.heap) (hvm : u.vm.Alike U.vm) (h : z_W ad dC dI cA σ u) : z_W ad dC dI cA σ U := by
  refine ⟨by rw [hh]; exact h.1, va_K.moved hvm h.2.1, ?_⟩
  rw [hh]
  exact va_X.moved hvm h.2.2
theorem z_blind {ad : Nat → Nat} {dC : Nat → ClassId} {dI : Nat → Nat → Nat} {cA : Nat → ClassId} {σ : zS} {as : List Value} : FrameBlind (va_Pc (as.map (z_cv ad)) (fun U => z_W ad dC dI cA σ U ∧ z_Nw U)) := by
  intro a U g mk q
  obtain ⟨q0, q1, q2⟩ := q
  exact ⟨q0, z_W.moved (u := U) (U := U.calling g mk a) rfl (Vm.Alike.refl U.vm) q1, z_Nw.same (s := U) (U := U.calling g mk a) rfl q2⟩
theorem z_pre {ad : Nat → Nat} {dC : Nat → ClassId} {dI : Nat → Nat → Nat} {cA : Nat → ClassId} {A : Nat → Prop} {s : State} {σ : zS} {H : Heap} {locs : List Loc} {as : List Value} (hN : z_N ad dC dI cA A s) (hH : z_H ad dC dI cA A s σ H locs) (U : State) (hU : U.heap = H) (hW : s.WarmedH U.vm) : va_Pc (as.map (z_cv ad)) (fun U => z_W ad dC dI cA σ U ∧ z_Nw U) (as.map (z_cv ad)).toArray U := by
  refine ⟨rfl, ⟨by rw [hU]; exact hH.1, va_K.moved hW.alike hN.2.1, ?_⟩, z_Nw.warm hW hN.2.2.2.2.2⟩
  refine va_X.moved hW.alike (va_X.kept hH.2.1 ?_)
  rw [hU]
  exact hH.2.2.2.1 (ad 63) hN.2.2.2.2.1 hN.2.2.2.1
/-- behind any call -/
theorem z_after {i : zM} {d pc : Nat} {ls st st0 : List Value} {σ : zS} {Q : Option Value → zS → Prop} {p : Program} {l : Launch} {e : Env} {R : Room} {s : State} {m : MethodId} {args : Array Value} {below : List Frame} {meth : Method} {c : Code} {cells slots : Nat} {QS : State → Prop} {ad : Nat → Nat} {dC : Nat → ClassId} {dI : Nat → Nat → Nat} {cA : Nat → ClassId} {A : Nat → Prop} {a : Array Value}
    (hC : z_C i d p R s m args c) (hN : z_N ad dC dI cA A s) (hc : cells ≤ R.cells ∧ slots ≤ R.slots) (hR : z_R i Q ad dC dI cA A p l e R s m args below meth c cells slots QS) {H : Heap} {locs : List Loc} {lsA : Array Slot} (hH : z_H ad dC dI cA A s σ H locs) (hl : z_loc ad i.2.2.1 ls lsA)
    (hr : va_Run p l e R s m args below meth c H locs cells slots 0 0 (F0 m pc lsA (st0.map (z_cv ad))) (st.map (z_cv ad)) (z_Qc ad dC dI cA (fun rv σ' => z_At i d (pc + 3) ls (rv.toList ++ st) σ' Q) a) (z_A ad)) : W p l e R s m args below meth c H locs cells slots QS (F0 m pc lsA (st0.map (z_cv ad))) := by
  intro T hT X
  obtain ⟨v, st₀, t, T', L, h0, X', hL, e1, e2, ⟨⟨rv, σ', hv, hq, hw⟩, hz, hk⟩, stp⟩ := hr T hT X
  have hv' : v = rv.map (z_cv ad) := by injection hv
  subst hv'
  rw [h0] at hz hk
  have hzA : ∀ q, z_A ad q → A q := fun q ⟨r, h1, h2⟩ => by rw [h2]; exact hN.2.2.1 r h1
  have hS1 : va_S A s.heap T'.heap (locs ++ L) := by
    refine ⟨Nat.le_trans hH.2.2.1 (by rw [e1]; exact hz), fun q h1 h2 => ?_, fun q hq => ?_⟩
    · rw [e1, hk q (Nat.lt_of_lt_of_le h1 hH.2.2.1) (fun z => h2 (hzA q z))]
      exact hH.2.2.2.1 q h1 h2
    · rcases List.mem_append.mp hq with h | h
      · exact hH.2.2.2.2 q h
      · exact hzA _ (hL q h)
  have hal : s.vm.Alike t.vm := by rw [← e2]; exact X'.warmed.alike
  have hX1 : va_X (ad 63) (z_len σ') (σ'.1 63) s s.heap := by
    refine va_X.kept (va_X.moved hal.symm hw.2.2) ?_
    rw [← hS1.2.1 (ad 63) hN.2.2.2.2.1 hN.2.2.2.1, e1]
  have hH1 : z_H ad dC dI cA A s σ' T'.heap (locs ++ L) := ⟨by rw [e1]; exact hw.1, hX1, hS1⟩
  obtain ⟨t2, a1, b1⟩ := hq p l e R s m args below meth c cells slots QS ad dC dI cA A hC hN hc hR T'.heap (locs ++ L) lsA hH1 hl T' rfl X'
  refine ⟨t2, stp t2 ?_, b1⟩
  have es : (rv.map (z_cv ad)).toList ++ st.map (z_cv ad) = (rv.toList ++ st).map (z_cv ad) := by cases rv <;> simp
  show Steps p.tables e below (T'.setTop (F0 m (pc + 3) lsA ((rv.map (z_cv ad)).toList ++ st.map (z_cv ad)))) t2
  rw [es]
  exact a1
theorem z_catsum (ad : Nat → Nat) (st : List Value) : ((st.map (z_cv ad)).map fun v => v.category).sum = (st.map fun v => v.category).sum := by
  rw [List.map_map]
  congr 1
  apply List.map_congr_left
  intro v _
  exact z_cv_cat ad v
theorem x_callV {i j : zM} {d pc idx n r ci : Nat} {as ls st : List Value} {σ : zS} {Q : Option Value → zS → Prop} {ks : List (Nat × Nat)} {T : u_T} {N : Nat} (hj : z_LmV j n) (hk : Cond.methodLink i.1.cls idx j.1 ∈ lw_tbl) (hs : z_shp r = (0, ci, ks)) (hcl : vwCl[ci]? = some (j.1.cls, T, N)) (hn : as.length = n) (hst : (st.map fun v => v.category).sum ≤ 8) (hd : decode i.2.1 pc = .ok (.invokevirtual idx, 3))
    (h : z_Ex j d (.ref r :: as) σ (fun rv σ' => z_At i (d + 1) (pc + 3) ls (rv.toList ++ st) σ' Q)) : z_At i (d + 1) pc ls (as.reverse ++ .ref r :: st) σ Q := by
  intro p l e R s m args below meth c cells slots QS ad dC dI cA A hC hN hc hR H locs lsA hH hl
  refine z_after (st := st) (a := (Value.ref (ad r) :: as.map (z_cv ad)).toArray) hC hN hc hR hH hl ?_
  have hM := h _ (fun _ _ hh => hh) l ad dC dI cA hN.1
  have hrr : r < 63 := z_shp_lt hs (by decide)
  have hw : (z_ws ad cA σ)[r]? = some (ad r, .inr (ci, z_fs ad σ r ks)) := by rw [z_ws_at ad cA σ hrr, z_cell_o hs]
  obtain ⟨h1, h2, h3, h4, h5, h6⟩ := hj
  refine va_runV (C := j.1.cls) (As := as.map (z_cv ad)) (rest := st.map (z_cv ad)) ⟨hC.1, hC.2.1, hC.2.2.1, hC.2.2.2.1, hC.2.2.2.2.1⟩ hM (cwV n hC.2.2.2.2.1 (z_goodIn (ws := wsV i.1.cls idx j.1.cls j.1 (z_wd j)) ?_) rfl rfl rfl ⟨rfl, h5⟩ ⟨?_, ?_⟩) ⟨z_blind, va_recv hN.2.1 hH.1 hcl hw, fun U hU hW => z_pre (as := .ref r :: as) hN hH U hU hW⟩ rfl (by rw [List.length_map]; exact hn) hl.2.1 ?_ (lv_room (by rw [z_catsum]; exact hst)) hd ⟨hc.1, hc.2⟩
  · intro w hw
    unfold wsV z_wd at hw
    simp only [List.cons_append, List.nil_append, List.mem_cons] at hw
    rcases hw with rfl | rfl | rfl | rfl | rfl | hw
    · exact z_inT hk rfl
    · exact z_inT h1 rfl
    · exact z_inT h2 rfl
    · exact z_inT h3 rfl
    · exact z_inT h4 rfl
    · exact hw
  · exact hC.2.2.2.2.2.1
  · have := hC.2.2.2.2.2.2
    show 8 + (j.2.2.1 + 11) + 40 * d ≤ R.locals
    omega
  · simp [z_cv]
theorem x_callS {i j : zM} {d pc idx n : Nat} {as ls st : List Value} {σ : zS} {Q : Option Value → zS → Prop} (hj : z_LmS j n) (hk : Cond.methodLink i.1.cls idx j.1 ∈ lw_tbl) (hn : as.length = n) (hst : (st.map fun v => v.category).sum ≤ 8) (hd : decode i.2.1 pc = .ok (.invokestatic idx, 3))
    (h : z_Ex j d as σ (fun rv σ' => z_At i (d + 1) (pc + 3) ls (rv.toList ++ st) σ' Q)) : z_At i (d + 1) pc ls (as.reverse ++ st) σ Q := by
  intro p l e R s m args below meth c cells slots QS ad dC dI cA A hC hN hc hR H locs lsA hH hl
  refine z_after (st := st) (a := (as.map (z_cv ad)).toArray) hC hN hc hR hH hl ?_
  have hM := h _ (fun _ _ hh => hh) l ad dC dI cA hN.1
  obtain ⟨h1, h3, h4, h5, h6⟩ := hj
  refine va_runS (As := as.map (z_cv ad)) (rest := st.map (z_cv ad)) ⟨hC.1, hC.2.1, hC.2.2.1, hC.2.2.2.1, hC.2.2.2.2.1⟩ hM (va_cwS n hC.2.2.2.2.1 (z_goodIn (ws := va_wsS i.1.cls idx j.1 (z_wd j)) ?_) rfl rfl rfl h5 ⟨?_, ?_⟩) ⟨z_blind, fun U hU hW => z_pre hN hH U hU hW⟩ rfl (by rw [List.length_map]; exact hn) hl.2.1 ?_ (lv_room (by rw [z_catsum]; exact hst)) hd ⟨hc.1, hc.2⟩
  · intro w hw
    unfold va_wsS z_wd at hw
    simp only [List.cons_append, List.nil_append, List.mem_cons] at hw
    rcases hw with rfl | rfl | rfl | rfl | hw
    · exact z_inT hk rfl
    · exact z_inT h1 rfl
    · exact z_inT h3 rfl
    · exact z_inT h4 rfl
    · exact hw
  · exact hC.2.2.2.2.2.1
  · have := hC.2.2.2.2.2.2
    show 8 + (j.2.2.1 + 11) + 40 * d ≤ R.locals
    omega
  · simp
/-! a method's beginning -/
def z_sl : List Value → List Value
  | [] => []
  | v :: t => if v.category = 2 then v :: .null :: z_sl t else v :: z_sl t
def z_ent (as : List Value) (nL : Nat) : List Value := z_sl as ++ List.replicate (nL - (z_sl as).length) .null
theorem z_sl_len (ad : Nat → Nat) (as : List Value) : (lg_sl (as.map (z_cv ad))).length = (z_sl as).length := by
  induction as with
  | nil => rfl
  | cons v t ih =>
    unfold lg_sl at ih ⊢
    rw [List.map_cons, List.flatMap_cons, List.length_append, ih, z_cv_cat]
    have e : z_sl (v :: t) = if v.category = 2 then v :: .null :: z_sl t else v :: z_sl t := rfl
    rw [e]
    split <;> simp <;> omega
theorem z_sl_at (ad : Nat → Nat) (as : List Value) : ∀ (b k : Nat) (v : Value), (z_sl as)[k]? = some v → v ≠ .null → (b + k, z_cv ad v) ∈ lv_args b (as.map (z_cv ad)) := by
  induction as with
  | nil => intro b k v h _; simp [z_sl] at h
  | cons u t ih =>
    intro b k v h hn
    unfold z_sl at h
    rw [List.map_cons]
    unfold lv_args
    rw [z_cv_cat]
    split at h
    next h2 =>
      rw [if_pos h2]
      match k, h with
      | 0, h => cases h; exact List.mem_cons_self
      | 1, h => cases h; exact absurd rfl hn
      | k + 2, h =>
        have h' : (z_sl t)[k]? = some v := by simpa using h
        have := ih (b + 2) k v h' hn
        rw [show b + (k + 2) = b + 2 + k by omega]
        exact List.mem_cons_of_mem _ this
    next h2 =>
      rw [if_neg h2]
      match k, h with
      | 0, h => cases h; exact List.mem_cons_self
      | k + 1, h =>
        have h' : (z_sl t)[k]? = some v := by simpa using h
        have := ih (b + 1) k v h' hn
        rw [show b + (k + 1) = b + 1 + k by omega]
        exact List.mem_cons_of_mem _ this
theorem x_enter {j : zM} {d : Nat} {as : List Value} {σ : zS} {Q : Option Value → zS → Prop} (hy : plainName j.1.cls = true) (hlen : (z_sl as).length ≤ j.2.2.1) (h : z_At j d 0 (z_ent as j.2.2.1) [] σ Q) : z_Ex j d as σ Q := by
  intro Q' hq l ad dC dI cA hi
  refine Met.ofW (cc := j.2.1) (maxL := j.2.2.1) (ret := j.2.2.2) hy rfl ?_
  intro p e s m args below meth c s₁ B hml hv
  obtain ⟨rfl, ⟨hP, hK, hX⟩, hNw⟩ := hv
  have hts := atoms_spec (ws := z_wd j) B.pre
  have hown : s.vm.findClass j.1.cls = some m.cls := findClass_of_methodNamed B.named
  have hlocks := B.notSynchronized
  rw [lg_entry_eq]
  have hlen' : (lg_sl (as.map (z_cv ad))).length ≤ j.2.2.1 := by rw [z_sl_len]; exact hlen
  have hl := lv_entry (as.map (z_cv ad)) (n := j.2.2.1) hlen'
  have h63 : ad 63 < s.heap.size := by
    obtain ⟨scr, h1, -⟩ := hX
    exact (Array.getElem?_eq_some_iff.mp h1).1
  have hN : z_N ad dC dI cA (z_A ad) s := ⟨hi, hK, fun r hr => ⟨r, hr, rfl⟩, fun ⟨r, h1, h2⟩ => by have := hi 63 r (by omega) (by omega) h2; omega, h63, hNw⟩
  refine h.mono hq p l e (z_rm d) s m _ below meth c 0 0 _ ad dC dI cA (z_A ad) ⟨B.exec, B.bytes, hml, hown, fun w hw => hts w (List.mem_cons_of_mem _ hw), Nat.le_refl _, Nat.le_refl _⟩ hN ⟨Nat.le_refl _, Nat.le_refl _⟩ ?_ s.heap [] _ ⟨hP, hX, va_S.rf⟩ ?_
  · intro rv τ H locs lsA pc hQ hH hrt
    have hfin : ∀ t : State, t.heap = H → s.WarmedH t.vm → z_Qc ad dC dI cA Q' (as.map (z_cv ad)).toArray s (.returned (rv.map (z_cv ad))) t := by
      intro t ht hW
      refine ⟨⟨rv, τ, rfl, hQ, by rw [ht]; exact hH.1, va_K.moved hW.alike hK, ?_⟩, hH.2.2.F ht⟩
      refine va_X.moved hW.alike (va_X.kept hH.2.1 ?_)
      rw [ht]
      exact hH.2.2.2.1 (ad 63) h63 hN.2.2.2.1
    match rv, hrt, hfin with
    | none, hrt, hfin => exact W.vret B.exec B.bytes (by rw [B.returns]; exact hrt.1) hfin hH.2.2.2.2 hrt.2 hlocks
    | some (.int v), hrt, hfin =>
      obtain ⟨⟨ty, h1, h2⟩, h3⟩ := hrt
      exact W.zret (v := v) B.exec B.bytes (by rw [B.returns]; exact h1) h2 hfin hH.2.2.2.2 h3 hlocks
    | some (.long v), hrt, hfin => exact W.lret (v := v) B.exec B.bytes (by rw [B.returns]; exact hrt.1) hfin hH.2.2.2.2 hrt.2 hlocks
  · refine ⟨?_, hl.1, hl.2.1, fun k v hk hn => ?_⟩
    · unfold z_ent
      rw [List.length_append, List.length_replicate]
      omega
    · unfold z_ent at hk
      by_cases hkl : k < (z_sl as).length
      · rw [List.getElem?_append_left hkl] at hk
        have := z_sl_at ad as 0 k v hk hn
        rw [Nat.zero_add] at this
        exact hl.2.2 _ this
      · rw [List.getElem?_append_right (by omega), List.getElem?_replicate] at hk
        split at hk
        · cases hk; exact absurd rfl hn
        · cases hk
end
section
/-! Math.min, Math.abs, System.arraycopy -/
theorem w_math_ini : Cond.initialized "java/lang/Math" ∈ lw_tbl := by decide +kernel
theorem w_sys_ini : Cond.initialized "java/lang/System" ∈ lw_tbl := by decide +kernel
theorem w_min_st : Cond.static Lib.Math.min.name ∈ lw_tbl := by decide +kernel
theorem w_min_code : Cond.code Lib.Math.min.name Lib.Math.min.code 2 (some .int) ∈ lw_tbl := by decide +kernel
theorem w_abs_st : Cond.static Lib.Math.abs.name ∈ lw_tbl := by decide +kernel
theorem w_abs_code : Cond.code Lib.Math.abs.name Lib.Math.abs.code 1 (some .int) ∈ lw_tbl := by decide +kernel
theorem w_cpy_st : Cond.static arraycopyName ∈ lw_tbl := by decide +kernel
theorem w_cpy_nat : Cond.native arraycopyName ∈ lw_tbl := by decide +kernel
theorem w_cpy_link : Cond.methodLink RX5 230 arraycopyName ∈ lw_tbl := by decide +kernel
theorem w_min_link : Cond.methodLink RX2 130 Lib.Math.min.name ∈ lw_tbl := by decide +kernel
theorem x_mmin {i : zM} {d pc pc2 idx : Nat} {ls st : List Value} {σ : zS} {Q : Option Value → zS → Prop} {x y : Int32} (hk : Cond.methodLink i.1.cls idx Lib.Math.min.name ∈ lw_tbl) (hst : (st.map fun v => v.category).sum ≤ 8) (hd : decode i.2.1 pc = .ok (.invokestatic idx, 3)) (hp : pc + 3 = pc2) (h : z_At i (d + 1) pc2 ls (.int (if y < x then y else x) :: st) σ Q) : z_At i (d + 1) pc ls (.int y :: .int x :: st) σ Q := by
  subst hp
  intro p l e R s m args below meth c cells slots QS ad dC dI cA A hC hN hc hR H locs lsA hH hl
  have ht : ∀ w, w ∈ lw_tbl → goodWord w = true → w.before args s = true := fun w h1 h2 => hC.2.2.2.2.1 w (z_inT h1 h2)
  have h1 := hC.2.2.2.2.2.1
  have h2 := hC.2.2.2.2.2.2
  have h3 := z_catsum ad st
  exact va_mmin hC.1 hC.2.1 (hC.2.2.1.trans hl.2.1.symm) hC.2.2.2.1 (ht _ hk rfl) (ht _ w_min_st rfl) (ht _ w_math_ini rfl) (ht _ w_min_code rfl) (by omega) (by omega) hc.1 hc.2 hd (h p l e R s m args below meth c cells slots QS ad dC dI cA A hC hN hc hR H locs lsA hH hl)
theorem x_mabs {i : zM} {d pc pc2 idx : Nat} {ls st : List Value} {σ : zS} {Q : Option Value → zS → Prop} {x : Int32} (hk : Cond.methodLink i.1.cls idx Lib.Math.abs.name ∈ lw_tbl) (hst : (st.map fun v => v.category).sum ≤ 8) (hd : decode i.2.1 pc = .ok (.invokestatic idx, 3)) (hp : pc + 3 = pc2) (h : z_At i (d + 1) pc2 ls (.int (if 0 ≤ x then x else 0 - x) :: st) σ Q) : z_At i (d + 1) pc ls (.int x :: st) σ Q := by
  subst hp
  intro p l e R s m args below meth c cells slots QS ad dC dI cA A hC hN hc hR H locs lsA hH hl
  have ht : ∀ w, w ∈ lw_tbl → goodWord w = true → w.before args s = true := fun w h1 h2 => hC.2.2.2.2.1 w (z_inT h1 h2)
  have h1 := hC.2.2.2.2.2.1
  have h2 := hC.2.2.2.2.2.2
  have h3 := z_catsum ad st
  exact va_mabs hC.1 hC.2.1 (hC.2.2.1.trans hl.2.1.symm) hC.2.2.2.1 (ht _ hk rfl) (ht _ w_abs_st rfl) (ht _ w_math_ini rfl) (ht _ w_abs_code rfl) (by omega) (by omega) hc.1 hc.2 hd (h p l e R s m args below meth c cells slots QS ad dC dI cA A hC hN hc hR H locs lsA hH hl)
theorem w_cpy_words : nativeFrameWords "java/lang/System" "arraycopy" 5 ≤ 60 := by decide
def z_cp (σ : zS) (r0 r1 sp dp n : Nat) : zS := (z_up σ.1 r1 (va_cpy (σ.1 r0) (σ.1 r1) sp dp n), σ.2)
theorem x_acopy {i : zM} {d pc pc2 idx : Nat} {ls st : List Value} {σ : zS} {Q : Option Value → zS → Prop} {r0 r1 n0 n1 : Nat} {k0 k1 : List (Nat × Nat)} {sp dp n : Int32} (hk : Cond.methodLink i.1.cls idx arraycopyName ∈ lw_tbl) (hs0 : z_shp r0 = (1, n0, k0)) (hs1 : z_shp r1 = (1, n1, k1)) (g1 : ¬ sp < 0) (g2 : ¬ dp < 0) (g3 : ¬ n < 0) (g4 : sp.toNatClampNeg + n.toNatClampNeg ≤ n0) (g5 : dp.toNatClampNeg + n.toNatClampNeg ≤ n1) (hst : (st.map fun v => v.category).sum ≤ 8) (hd : decode i.2.1 pc = .ok (.invokestatic idx, 3)) (hp : pc + 3 = pc2) (h : z_At i (d + 2) pc2 ls st (z_cp σ r0 r1 sp.toNatClampNeg dp.toNatClampNeg n.toNatClampNeg) Q) : z_At i (d + 2) pc ls (.int n :: .int dp :: .ref r1 :: .int sp :: .ref r0 :: st) σ Q := by
  subst hp
  intro p l e R s m args below meth c cells slots QS ad dC dI cA A hC hN hc hR H locs lsA hH hl
  have ht : ∀ w, w ∈ lw_tbl → goodWord w = true → w.before args s = true := fun w h1 h2 => hC.2.2.2.2.1 w (z_inT h1 h2)
  have h1 := hC.2.2.2.2.2.1
  have h2 := hC.2.2.2.2.2.2
  have h3 := z_catsum ad st
  have h4 := w_cpy_words
  have hr0 : r0 < 63 := z_shp_lt hs0 (by decide)
  have hr1 : r1 < 63 := z_shp_lt hs1 (by decide)
  have hw0 : (z_ws ad cA σ)[r0]? = some (ad r0, .inl (cA 0, n0, .inl (σ.1 r0))) := by rw [z_ws_at ad cA σ hr0, z_cell_i hs0]
  have hw1 : (z_ws ad cA σ)[r1]? = some (ad r1, .inl (cA 0, n1, .inl (σ.1 r1))) := by rw [z_ws_at ad cA σ hr1, z_cell_i hs1]
  generalize hτ : z_cp σ r0 r1 sp.toNatClampNeg dp.toNatClampNeg n.toNatClampNeg = τ at h
  have ho : ∀ q, q ≠ r1 → τ.1 q = σ.1 q ∧ τ.2 q = σ.2 q := fun q hq => by rw [← hτ]; exact ⟨z_up_ne _ _ hq, rfl⟩
  refine va_copyi hC.1 hC.2.1 (hC.2.2.1.trans hl.2.1.symm) hC.2.2.2.1 (ht _ hk rfl) (ht _ w_cpy_nat rfl) (ht _ w_cpy_st rfl) (ht _ w_sys_ini rfl) hN.2.1 hH.1 (z_ws_D hN.1 hN.2.2.1) hH.2.2 r0 r1 0 0 hw0 hw1 rfl rfl rfl g1 g2 g3 g4 g5 (fun _ _ => rfl) (by omega) (by omega) hd (fun H1 locs1 hP1 _ hS1 => ?_)
  have hset : (z_ws ad cA σ).set r1 (ad r1, .inl (cA 0, n1, .inl (va_cpy (σ.1 r0) (σ.1 r1) sp.toNatClampNeg dp.toNatClampNeg n.toNatClampNeg))) = z_ws ad cA τ := by
    rw [← z_ws_set hr1 ho, z_cell_i hs1, ← hτ]
    simp [z_cp, z_up_same]
  rw [hset] at hP1
  exact h p l e R s m args below meth c cells slots QS ad dC dI cA A hC hN hc hR H1 locs1 lsA (hH.mk hP1 hS1 (ho 63 (by omega)).1 (ho 64 (by omega)).1) hl
end
section
theorem sh_0 : z_shp 0 = (0, 5, [(2, 1), (2, 7), (2, 13), (2, 22), (2, 26), (2, 31), (2, 42), (0, 0), (0, 0), (0, 0), (0, 0), (0, 0), (0, 0), (0, 0)]) := rfl
theorem sh_1 : z_shp 1 = (0, 0, [(0, 0), (0, 0), (0, 0), (2, 2), (2, 3), (2, 4), (0, 0), (2, 5), (2, 6)]) := rfl
theorem sh_2 : z_shp 2 = (1, 3, []) := rfl
theorem sh_3 : z_shp 3 = (1, 3, []) := rfl
theorem sh_4 : z_shp 4 = (2, 3, []) := rfl
theorem sh_5 : z_shp 5 = (1, 4, []) := rfl
theorem sh_6 : z_shp 6 = (1, 4, []) := rfl
theorem sh_7 : z_shp 7 = (0, 0, [(0, 0), (0, 0), (0, 0), (2, 8), (2, 9), (2, 10), (0, 0), (2, 11), (2, 12)]) := rfl
theorem sh_8 : z_shp 8 = (1, 3, []) := rfl
theorem sh_9 : z_shp 9 = (1, 3, []) := rfl
theorem sh_10 : z_shp 10 = (2, 3, []) := rfl
theorem sh_11 : z_shp 11 = (1, 4, []) := rfl
theorem sh_12 : z_shp 12 = (1, 4, []) := rfl
theorem sh_13 : z_shp 13 = (3, 4, []) := rfl
theorem sh_14 : z_shp 14 = (0, 3, [(0, 0), (0, 0), (2, 18)]) := rfl
theorem sh_15 : z_shp 15 = (0, 3, [(0, 0), (0, 0), (2, 19)]) := rfl
theorem sh_16 : z_shp 16 = (0, 3, [(0, 0), (0, 0), (2, 20)]) := rfl
theorem sh_17 : z_shp 17 = (0, 3, [(0, 0), (0, 0), (2, 21)]) := rfl
theorem sh_18 : z_shp 18 = (1, 60, []) := rfl
theorem sh_19 : z_shp 19 = (1, 60, []) := rfl
theorem sh_20 : z_shp 20 = (1, 60, []) := rfl
theorem sh_21 : z_shp 21 = (1, 60, []) := rfl
theorem sh_22 : z_shp 22 = (0, 1, [(0, 0), (2, 23), (2, 24), (2, 25)]) := rfl
theorem sh_23 : z_shp 23 = (1, 8, []) := rfl
theorem sh_24 : z_shp 24 = (1, 8, []) := rfl
theorem sh_25 : z_shp 25 = (1, 8, []) := rfl
theorem sh_26 : z_shp 26 = (0, 4, [(0, 0), (2, 27), (2, 28), (2, 29), (2, 30), (0, 0), (0, 0), (1, 0), (1, 0)]) := rfl
theorem sh_27 : z_shp 27 = (1, 18, []) := rfl
theorem sh_28 : z_shp 28 = (1, 18, []) := rfl
theorem sh_29 : z_shp 29 = (1, 19, []) := rfl
theorem sh_30 : z_shp 30 = (1, 4, []) := rfl
theorem sh_31 : z_shp 31 = (0, 2, [(0, 0), (0, 0), (0, 0), (0, 0), (2, 32), (2, 33), (2, 34), (2, 35), (2, 36), (2, 37), (0, 0), (0, 0), (2, 38), (2, 39), (2, 40), (2, 41)]) := rfl
theorem sh_32 : z_shp 32 = (2, 16, []) := rfl
theorem sh_33 : z_shp 33 = (2, 16, []) := rfl
theorem sh_34 : z_shp 34 = (1, 16, []) := rfl
theorem sh_35 : z_shp 35 = (1, 96, []) := rfl
theorem sh_36 : z_shp 36 = (1, 1024, []) := rfl
theorem sh_37 : z_shp 37 = (1, 1024, []) := rfl
theorem sh_38 : z_shp 38 = (1, 32, []) := rfl
theorem sh_39 : z_shp 39 = (1, 1024, []) := rfl
theorem sh_40 : z_shp 40 = (1, 1024, []) := rfl
theorem sh_41 : z_shp 41 = (1, 1024, []) := rfl
theorem sh_42 : z_shp 42 = (1, 1024, []) := rfl
theorem sh_43 : z_shp 43 = (0, 6, [(0, 0), (0, 0), (2, 44), (2, 45), (2, 46), (0, 0), (0, 0), (0, 0), (0, 0), (2, 47), (2, 48), (2, 49), (2, 50), (2, 51), (0, 0), (0, 0), (0, 0), (0, 0), (0, 0), (2, 52), (2, 53), (0, 0), (2, 54), (2, 55), (2, 56), (2, 57), (0, 0), (0, 0), (1, 0), (1, 0), (2, 58), (2, 59), (0, 0), (0, 0), (0, 0), (2, 60), (2, 61), (2, 62)]) := rfl
theorem sh_44 : z_shp 44 = (1, 4, []) := rfl
theorem sh_45 : z_shp 45 = (1, 4, []) := rfl
theorem sh_46 : z_shp 46 = (1, 240, []) := rfl
theorem sh_47 : z_shp 47 = (1, 3, []) := rfl
theorem sh_48 : z_shp 48 = (1, 3, []) := rfl
theorem sh_49 : z_shp 49 = (2, 3, []) := rfl
theorem sh_50 : z_shp 50 = (1, 4, []) := rfl
theorem sh_51 : z_shp 51 = (1, 4, []) := rfl
theorem sh_52 : z_shp 52 = (1, 6, []) := rfl
theorem sh_53 : z_shp 53 = (1, 8, []) := rfl
theorem sh_54 : z_shp 54 = (1, 18, []) := rfl
theorem sh_55 : z_shp 55 = (1, 18, []) := rfl
theorem sh_56 : z_shp 56 = (1, 18, []) := rfl
theorem sh_57 : z_shp 57 = (1, 18, []) := rfl
theorem sh_58 : z_shp 58 = (1, 1024, []) := rfl
theorem sh_59 : z_shp 59 = (1, 1024, []) := rfl
theorem sh_60 : z_shp 60 = (1, 8, []) := rfl
theorem sh_61 : z_shp 61 = (1, 8, []) := rfl
theorem sh_62 : z_shp 62 = (1, 8, []) := rfl
def z_isP (r : Nat) : Prop := r = 1 ∨ r = 7
def z_isS (r : Nat) : Prop := r = 14 ∨ r = 15 ∨ r = 16 ∨ r = 17
theorem z_isS_of {x : Int32} (h : vp_in x 4) : z_isS (14 + x.toNatClampNeg) := by
  have : x.toNatClampNeg < 4 := Nat.not_le.mp fun q => h (Or.inr q)
  unfold z_isS
  omega
theorem sh_P {r : Nat} (h : z_isP r) : z_shp r = (0, 0, [(0, 0), (0, 0), (0, 0), (2, r + 1), (2, r + 2), (2, r + 3), (0, 0), (2, r + 4), (2, r + 5)]) := by rcases h with rfl | rfl <;> rfl
theorem sh_P1 {r : Nat} (h : z_isP r) : z_shp (r + 1) = (1, 3, []) := by rcases h with rfl | rfl <;> rfl
theorem sh_P2 {r : Nat} (h : z_isP r) : z_shp (r + 2) = (1, 3, []) := by rcases h with rfl | rfl <;> rfl
theorem sh_P3 {r : Nat} (h : z_isP r) : z_shp (r + 3) = (2, 3, []) := by rcases h with rfl | rfl <;> rfl
theorem sh_P4 {r : Nat} (h : z_isP r) : z_shp (r + 4) = (1, 4, []) := by rcases h with rfl | rfl <;> rfl
theorem sh_P5 {r : Nat} (h : z_isP r) : z_shp (r + 5) = (1, 4, []) := by rcases h with rfl | rfl <;> rfl
theorem sh_S {r : Nat} (h : z_isS r) : z_shp r = (0, 3, [(0, 0), (0, 0), (2, r + 4)]) := by rcases h with rfl | rfl | rfl | rfl <;> rfl
theorem sh_S1 {r : Nat} (h : z_isS r) : z_shp (r + 4) = (1, 60, []) := by rcases h with rfl | rfl | rfl | rfl <;> rfl
/-! contracts that are functions: one answer, one state behind it -/
def z_Fn (j : zM) (d : Nat) (as : List Value) (σ : zS) (v : Value) (τ : zS) : Prop := z_Ex j d as σ (fun rv σ' => rv = some v ∧ σ' = τ)
def z_Pr (j : zM) (d : Nat) (as : List Value) (σ τ : zS) : Prop := z_Ex j d as σ (fun rv σ' => rv = none ∧ σ' = τ)
def z_b (c : Bool) : Int32 := if c then 1 else 0
theorem z_b01 (c : Bool) : z_b c = 0 ∨ z_b c = 1 := by cases c <;> simp [z_b]
theorem z_b0 {c : Bool} : z_b c = 0 ↔ c = false := by cases c <;> simp [z_b]
theorem z_b1 {c : Bool} : z_b c = 1 ↔ c = true := by cases c <;> simp [z_b]
theorem z_bn0 {c : Bool} : ¬ z_b c = 0 ↔ c = true := by cases c <;> simp [z_b]
theorem z_inc1 (x : Int32) : x + Int32.ofInt 1 = x + 1 := rfl
theorem z_inc2 (x : Int32) : x + Int32.ofInt 2 = x + 2 := rfl
theorem z_inc7 (x : Int32) : x + Int32.ofInt 7 = x + 7 := rfl
theorem z_incm1 (x : Int32) : x + Int32.ofInt (-1) = x + (-1) := rfl
theorem x_cV0 {i j : zM} {d pc idx r ci : Nat} {ls st : List Value} {σ : zS} {Q : Option Value → zS → Prop} {ks : List (Nat × Nat)} {T : u_T} {N : Nat}  (hj : z_LmV j 0) (hk : Cond.methodLink i.1.cls idx j.1 ∈ lw_tbl) (hs : z_shp r = (0, ci, ks)) (hcl : vwCl[ci]? = some (j.1.cls, T, N)) (hst : (st.map fun v => v.category).sum ≤ 8) (hd : decode i.2.1 pc = .ok (.invokevirtual idx, 3)) (h : z_Ex j d [.ref r] σ (fun rv σ' => z_At i (d + 1) (pc + 3) ls (rv.toList ++ st) σ' Q)) : z_At i (d + 1) pc ls (.ref r :: st) σ Q := x_callV (as := []) hj hk hs hcl rfl hst hd h
theorem x_fV0 {i j : zM} {d pc idx r ci : Nat} {ls st : List Value} {σ : zS} {Q : Option Value → zS → Prop} {ks : List (Nat × Nat)} {T : u_T} {N : Nat}  {pc2 : Nat} {v : Value} {τ : zS} (hj : z_LmV j 0) (hk : Cond.methodLink i.1.cls idx j.1 ∈ lw_tbl) (hs : z_shp r = (0, ci, ks)) (hcl : vwCl[ci]? = some (j.1.cls, T, N)) (hst : (st.map fun v => v.category).sum ≤ 8) (hd : decode i.2.1 pc = .ok (.invokevirtual idx, 3)) (hp : pc + 3 = pc2) (hf : z_Fn j d [.ref r] σ v τ) (h : z_At i (d + 1) pc2 ls (v :: st) τ Q) : z_At i (d + 1) pc ls (.ref r :: st) σ Q := by
  subst hp
  exact x_cV0 hj hk hs hcl hst hd (hf.mono (fun rv σ' hh => by obtain ⟨rfl, rfl⟩ := hh; exact h))
theorem x_pV0 {i j : zM} {d pc idx r ci : Nat} {ls st : List Value} {σ : zS} {Q : Option Value → zS → Prop} {ks : List (Nat × Nat)} {T : u_T} {N : Nat}  {pc2 : Nat} {τ : zS} (hj : z_LmV j 0) (hk : Cond.methodLink i.1.cls idx j.1 ∈ lw_tbl) (hs : z_shp r = (0, ci, ks)) (hcl : vwCl[ci]? = some (j.1.cls, T, N)) (hst : (st.map fun v => v.category).sum ≤ 8) (hd : decode i.2.1 pc = .ok (.invokevirtual idx, 3)) (hp : pc + 3 = pc2) (hf : z_Pr j d [.ref r] σ τ) (h : z_At i (d + 1) pc2 ls st τ Q) : z_At i (d + 1) pc ls (.ref r :: st) σ Q := by
  subst hp
  exact x_cV0 hj hk hs hcl hst hd (hf.mono (fun rv σ' hh => by obtain ⟨rfl, rfl⟩ := hh; exact h))
theorem x_cS0 {i j : zM} {d pc idx : Nat} {ls st : List Value} {σ : zS} {Q : Option Value → zS → Prop}  (hj : z_LmS j 0) (hk : Cond.methodLink i.1.cls idx j.1 ∈ lw_tbl) (hst : (st.map fun v => v.category).sum ≤ 8) (hd : decode i.2.1 pc = .ok (.invokestatic idx, 3)) (h : z_Ex j d [] σ (fun rv σ' => z_At i (d + 1) (pc + 3) ls (rv.toList ++ st) σ' Q)) : z_At i (d + 1) pc ls (st) σ Q := x_callS (as := []) hj hk rfl hst hd h
theorem x_fS0 {i j : zM} {d pc idx : Nat} {ls st : List Value} {σ : zS} {Q : Option Value → zS → Prop}  {pc2 : Nat} {v : Value} {τ : zS} (hj : z_LmS j 0) (hk : Cond.methodLink i.1.cls idx j.1 ∈ lw_tbl) (hst : (st.map fun v => v.category).sum ≤ 8) (hd : decode i.2.1 pc = .ok (.invokestatic idx, 3)) (hp : pc + 3 = pc2) (hf : z_Fn j d [] σ v τ) (h : z_At i (d + 1) pc2 ls (v :: st) τ Q) : z_At i (d + 1) pc ls (st) σ Q := by
  subst hp
  exact x_cS0 hj hk hst hd (hf.mono (fun rv σ' hh => by obtain ⟨rfl, rfl⟩ := hh; exact h))
theorem x_pS0 {i j : zM} {d pc idx : Nat} {ls st : List Value} {σ : zS} {Q : Option Value → zS → Prop}  {pc2 : Nat} {τ : zS} (hj : z_LmS j 0) (hk : Cond.methodLink i.1.cls idx j.1 ∈ lw_tbl) (hst : (st.map fun v => v.category).sum ≤ 8) (hd : decode i.2.1 pc = .ok (.invokestatic idx, 3)) (hp : pc + 3 = pc2) (hf : z_Pr j d [] σ τ) (h : z_At i (d + 1) pc2 ls st τ Q) : z_At i (d + 1) pc ls (st) σ Q := by
  subst hp
  exact x_cS0 hj hk hst hd (hf.mono (fun rv σ' hh => by obtain ⟨rfl, rfl⟩ := hh; exact h))
theorem x_cV1 {i j : zM} {d pc idx r ci : Nat} {ls st : List Value} {σ : zS} {Q : Option Value → zS → Prop} {ks : List (Nat × Nat)} {T : u_T} {N : Nat} {b1 : Value} (hj : z_LmV j 1) (hk : Cond.methodLink i.1.cls idx j.1 ∈ lw_tbl) (hs : z_shp r = (0, ci, ks)) (hcl : vwCl[ci]? = some (j.1.cls, T, N)) (hst : (st.map fun v => v.category).sum ≤ 8) (hd : decode i.2.1 pc = .ok (.invokevirtual idx, 3)) (h : z_Ex j d [.ref r, b1] σ (fun rv σ' => z_At i (d + 1) (pc + 3) ls (rv.toList ++ st) σ' Q)) : z_At i (d + 1) pc ls (b1 :: .ref r :: st) σ Q := x_callV (as := [b1]) hj hk hs hcl rfl hst hd h
theorem x_fV1 {i j : zM} {d pc idx r ci : Nat} {ls st : List Value} {σ : zS} {Q : Option Value → zS → Prop} {ks : List (Nat × Nat)} {T : u_T} {N : Nat} {b1 : Value} {pc2 : Nat} {v : Value} {τ : zS} (hj : z_LmV j 1) (hk : Cond.methodLink i.1.cls idx j.1 ∈ lw_tbl) (hs : z_shp r = (0, ci, ks)) (hcl : vwCl[ci]? = some (j.1.cls, T, N)) (hst : (st.map fun v => v.category).sum ≤ 8) (hd : decode i.2.1 pc = .ok (.invokevirtual idx, 3)) (hp : pc + 3 = pc2) (hf : z_Fn j d [.ref r, b1] σ v τ) (h : z_At i (d + 1) pc2 ls (v :: st) τ Q) : z_At i (d + 1) pc ls (b1 :: .ref r :: st) σ Q := by
  subst hp
  exact x_cV1 hj hk hs hcl hst hd (hf.mono (fun rv σ' hh => by obtain ⟨rfl, rfl⟩ := hh; exact h))
theorem x_pV1 {i j : zM} {d pc idx r ci : Nat} {ls st : List Value} {σ : zS} {Q : Option Value → zS → Prop} {ks : List (Nat × Nat)} {T : u_T} {N : Nat} {b1 : Value} {pc2 : Nat} {τ : zS} (hj : z_LmV j 1) (hk : Cond.methodLink i.1.cls idx j.1 ∈ lw_tbl) (hs : z_shp r = (0, ci, ks)) (hcl : vwCl[ci]? = some (j.1.cls, T, N)) (hst : (st.map fun v => v.category).sum ≤ 8) (hd : decode i.2.1 pc = .ok (.invokevirtual idx, 3)) (hp : pc + 3 = pc2) (hf : z_Pr j d [.ref r, b1] σ τ) (h : z_At i (d + 1) pc2 ls st τ Q) : z_At i (d + 1) pc ls (b1 :: .ref r :: st) σ Q := by
  subst hp
  exact x_cV1 hj hk hs hcl hst hd (hf.mono (fun rv σ' hh => by obtain ⟨rfl, rfl⟩ := hh; exact h))
theorem x_cS1 {i j : zM} {d pc idx : Nat} {ls st : List Value} {σ : zS} {Q : Option Value → zS → Prop} {b1 : Value} (hj : z_LmS j 1) (hk : Cond.methodLink i.1.cls idx j.1 ∈ lw_tbl) (hst : (st.map fun v => v.category).sum ≤ 8) (hd : decode i.2.1 pc = .ok (.invokestatic idx, 3)) (h : z_Ex j d [b1] σ (fun rv σ' => z_At i (d + 1) (pc + 3) ls (rv.toList ++ st) σ' Q)) : z_At i (d + 1) pc ls (b1 :: st) σ Q := x_callS (as := [b1]) hj hk rfl hst hd h
theorem x_fS1 {i j : zM} {d pc idx : Nat} {ls st : List Value} {σ : zS} {Q : Option Value → zS → Prop} {b1 : Value} {pc2 : Nat} {v : Value} {τ : zS} (hj : z_LmS j 1) (hk : Cond.methodLink i.1.cls idx j.1 ∈ lw_tbl) (hst : (st.map fun v => v.category).sum ≤ 8) (hd : decode i.2.1 pc = .ok (.invokestatic idx, 3)) (hp : pc + 3 = pc2) (hf : z_Fn j d [b1] σ v τ) (h : z_At i (d + 1) pc2 ls (v :: st) τ Q) : z_At i (d + 1) pc ls (b1 :: st) σ Q := by
  subst hp
  exact x_cS1 hj hk hst hd (hf.mono (fun rv σ' hh => by obtain ⟨rfl, rfl⟩ := hh; exact h))
theorem x_pS1 {i j : zM} {d pc idx : Nat} {ls st : List Value} {σ : zS} {Q : Option Value → zS → Prop} {b1 : Value} {pc2 : Nat} {τ : zS} (hj : z_LmS j 1) (hk : Cond.methodLink i.1.cls idx j.1 ∈ lw_tbl) (hst : (st.map fun v => v.category).sum ≤ 8) (hd : decode i.2.1 pc = .ok (.invokestatic idx, 3)) (hp : pc + 3 = pc2) (hf : z_Pr j d [b1] σ τ) (h : z_At i (d + 1) pc2 ls st τ Q) : z_At i (d + 1) pc ls (b1 :: st) σ Q := by
  subst hp
  exact x_cS1 hj hk hst hd (hf.mono (fun rv σ' hh => by obtain ⟨rfl, rfl⟩ := hh; exact h))
theorem x_cV2 {i j : zM} {d pc idx r ci : Nat} {ls st : List Value} {σ : zS} {Q : Option Value → zS → Prop} {ks : List (Nat × Nat)} {T : u_T} {N : Nat} {b1 b2 : Value} (hj : z_LmV j 2) (hk : Cond.methodLink i.1.cls idx j.1 ∈ lw_tbl) (hs : z_shp r = (0, ci, ks)) (hcl : vwCl[ci]? = some (j.1.cls, T, N)) (hst : (st.map fun v => v.category).sum ≤ 8) (hd : decode i.2.1 pc = .ok (.invokevirtual idx, 3)) (h : z_Ex j d [.ref r, b1, b2] σ (fun rv σ' => z_At i (d + 1) (pc + 3) ls (rv.toList ++ st) σ' Q)) : z_At i (d + 1) pc ls (b2 :: b1 :: .ref r :: st) σ Q := x_callV (as := [b1, b2]) hj hk hs hcl rfl hst hd h
theorem x_fV2 {i j : zM} {d pc idx r ci : Nat} {ls st : List Value} {σ : zS} {Q : Option Value → zS → Prop} {ks : List (Nat × Nat)} {T : u_T} {N : Nat} {b1 b2 : Value} {pc2 : Nat} {v : Value} {τ : zS} (hj : z_LmV j 2) (hk : Cond.methodLink i.1.cls idx j.1 ∈ lw_tbl) (hs : z_shp r = (0, ci, ks)) (hcl : vwCl[ci]? = some (j.1.cls, T, N)) (hst : (st.map fun v => v.category).sum ≤ 8) (hd : decode i.2.1 pc = .ok (.invokevirtual idx, 3)) (hp : pc + 3 = pc2) (hf : z_Fn j d [.ref r, b1, b2] σ v τ) (h : z_At i (d + 1) pc2 ls (v :: st) τ Q) : z_At i (d + 1) pc ls (b2 :: b1 :: .ref r :: st) σ Q := by
  subst hp
  exact x_cV2 hj hk hs hcl hst hd (hf.mono (fun rv σ' hh => by obtain ⟨rfl, rfl⟩ := hh; exact h))
theorem x_pV2 {i j : zM} {d pc idx r ci : Nat} {ls st : List Value} {σ : zS} {Q : Option Value → zS → Prop} {ks : List (Nat × Nat)} {T : u_T} {N : Nat} {b1 b2 : Value} {pc2 : Nat} {τ : zS} (hj : z_LmV j 2) (hk : Cond.methodLink i.1.cls idx j.1 ∈ lw_tbl) (hs : z_shp r = (0, ci, ks)) (hcl : vwCl[ci]? = some (j.1.cls, T, N)) (hst : (st.map fun v => v.category).sum ≤ 8) (hd : decode i.2.1 pc = .ok (.invokevirtual idx, 3)) (hp : pc + 3 = pc2) (hf : z_Pr j d [.ref r, b1, b2] σ τ) (h : z_At i (d + 1) pc2 ls st τ Q) : z_At i (d + 1) pc ls (b2 :: b1 :: .ref r :: st) σ Q := by
  subst hp
  exact x_cV2 hj hk hs hcl hst hd (hf.mono (fun rv σ' hh => by obtain ⟨rfl, rfl⟩ := hh; exact h))
theorem x_cS2 {i j : zM} {d pc idx : Nat} {ls st : List Value} {σ : zS} {Q : Option Value → zS → Prop} {b1 b2 : Value} (hj : z_LmS j 2) (hk : Cond.methodLink i.1.cls idx j.1 ∈ lw_tbl) (hst : (st.map fun v => v.category).sum ≤ 8) (hd : decode i.2.1 pc = .ok (.invokestatic idx, 3)) (h : z_Ex j d [b1, b2] σ (fun rv σ' => z_At i (d + 1) (pc + 3) ls (rv.toList ++ st) σ' Q)) : z_At i (d + 1) pc ls (b2 :: b1 :: st) σ Q := x_callS (as := [b1, b2]) hj hk rfl hst hd h
theorem x_fS2 {i j : zM} {d pc idx : Nat} {ls st : List Value} {σ : zS} {Q : Option Value → zS → Prop} {b1 b2 : Value} {pc2 : Nat} {v : Value} {τ : zS} (hj : z_LmS j 2) (hk : Cond.methodLink i.1.cls idx j.1 ∈ lw_tbl) (hst : (st.map fun v => v.category).sum ≤ 8) (hd : decode i.2.1 pc = .ok (.invokestatic idx, 3)) (hp : pc + 3 = pc2) (hf : z_Fn j d [b1, b2] σ v τ) (h : z_At i (d + 1) pc2 ls (v :: st) τ Q) : z_At i (d + 1) pc ls (b2 :: b1 :: st) σ Q := by
  subst hp
  exact x_cS2 hj hk hst hd (hf.mono (fun rv σ' hh => by obtain ⟨rfl, rfl⟩ := hh; exact h))
theorem x_pS2 {i j : zM} {d pc idx : Nat} {ls st : List Value} {σ : zS} {Q : Option Value → zS → Prop} {b1 b2 : Value} {pc2 : Nat} {τ : zS} (hj : z_LmS j 2) (hk : Cond.methodLink i.1.cls idx j.1 ∈ lw_tbl) (hst : (st.map fun v => v.category).sum ≤ 8) (hd : decode i.2.1 pc = .ok (.invokestatic idx, 3)) (hp : pc + 3 = pc2) (hf : z_Pr j d [b1, b2] σ τ) (h : z_At i (d + 1) pc2 ls st τ Q) : z_At i (d + 1) pc ls (b2 :: b1 :: st) σ Q := by
  subst hp
  exact x_cS2 hj hk hst hd (hf.mono (fun rv σ' hh => by obtain ⟨rfl, rfl⟩ := hh; exact h))
theorem x_cV3 {i j : zM} {d pc idx r ci : Nat} {ls st : List Value} {σ : zS} {Q : Option Value → zS → Prop} {ks : List (Nat × Nat)} {T : u_T} {N : Nat} {b1 b2 b3 : Value} (hj : z_LmV j 3) (hk : Cond.methodLink i.1.cls idx j.1 ∈ lw_tbl) (hs : z_shp r = (0, ci, ks)) (hcl : vwCl[ci]? = some (j.1.cls, T, N)) (hst : (st.map fun v => v.category).sum ≤ 8) (hd : decode i.2.1 pc = .ok (.invokevirtual idx, 3)) (h : z_Ex j d [.ref r, b1, b2, b3] σ (fun rv σ' => z_At i (d + 1) (pc + 3) ls (rv.toList ++ st) σ' Q)) : z_At i (d + 1) pc ls (b3 :: b2 :: b1 :: .ref r :: st) σ Q := x_callV (as := [b1, b2, b3]) hj hk hs hcl rfl hst hd h
theorem x_fV3 {i j : zM} {d pc idx r ci : Nat} {ls st : List Value} {σ : zS} {Q : Option Value → zS → Prop} {ks : List (Nat × Nat)} {T : u_T} {N : Nat} {b1 b2 b3 : Value} {pc2 : Nat} {v : Value} {τ : zS} (hj : z_LmV j 3) (hk : Cond.methodLink i.1.cls idx j.1 ∈ lw_tbl) (hs : z_shp r = (0, ci, ks)) (hcl : vwCl[ci]? = some (j.1.cls, T, N)) (hst : (st.map fun v => v.category).sum ≤ 8) (hd : decode i.2.1 pc = .ok (.invokevirtual idx, 3)) (hp : pc + 3 = pc2) (hf : z_Fn j d [.ref r, b1, b2, b3] σ v τ) (h : z_At i (d + 1) pc2 ls (v :: st) τ Q) : z_At i (d + 1) pc ls (b3 :: b2 :: b1 :: .ref r :: st) σ Q := by
  subst hp
  exact x_cV3 hj hk hs hcl hst hd (hf.mono (fun rv σ' hh => by obtain ⟨rfl, rfl⟩ := hh; exact h))
theorem x_pV3 {i j : zM} {d pc idx r ci : Nat} {ls st : List Value} {σ : zS} {Q : Option Value → zS → Prop} {ks : List (Nat × Nat)} {T : u_T} {N : Nat} {b1 b2 b3 : Value} {pc2 : Nat} {τ : zS} (hj : z_LmV j 3) (hk : Cond.methodLink i.1.cls idx j.1 ∈ lw_tbl) (hs : z_shp r = (0, ci, ks)) (hcl : vwCl[ci]? = some (j.1.cls, T, N)) (hst : (st.map fun v => v.category).sum ≤ 8) (hd : decode i.2.1 pc = .ok (.invokevirtual idx, 3)) (hp : pc + 3 = pc2) (hf : z_Pr j d [.ref r, b1, b2, b3] σ τ) (h : z_At i (d + 1) pc2 ls st τ Q) : z_At i (d + 1) pc ls (b3 :: b2 :: b1 :: .ref r :: st) σ Q := by
  subst hp
  exact x_cV3 hj hk hs hcl hst hd (hf.mono (fun rv σ' hh => by obtain ⟨rfl, rfl⟩ := hh; exact h))
theorem x_cS3 {i j : zM} {d pc idx : Nat} {ls st : List Value} {σ : zS} {Q : Option Value → zS → Prop} {b1 b2 b3 : Value} (hj : z_LmS j 3) (hk : Cond.methodLink i.1.cls idx j.1 ∈ lw_tbl) (hst : (st.map fun v => v.category).sum ≤ 8) (hd : decode i.2.1 pc = .ok (.invokestatic idx, 3)) (h : z_Ex j d [b1, b2, b3] σ (fun rv σ' => z_At i (d + 1) (pc + 3) ls (rv.toList ++ st) σ' Q)) : z_At i (d + 1) pc ls (b3 :: b2 :: b1 :: st) σ Q := x_callS (as := [b1, b2, b3]) hj hk rfl hst hd h
theorem x_fS3 {i j : zM} {d pc idx : Nat} {ls st : List Value} {σ : zS} {Q : Option Value → zS → Prop} {b1 b2 b3 : Value} {pc2 : Nat} {v : Value} {τ : zS} (hj : z_LmS j 3) (hk : Cond.methodLink i.1.cls idx j.1 ∈ lw_tbl) (hst : (st.map fun v => v.category).sum ≤ 8) (hd : decode i.2.1 pc = .ok (.invokestatic idx, 3)) (hp : pc + 3 = pc2) (hf : z_Fn j d [b1, b2, b3] σ v τ) (h : z_At i (d + 1) pc2 ls (v :: st) τ Q) : z_At i (d + 1) pc ls (b3 :: b2 :: b1 :: st) σ Q := by
  subst hp
  exact x_cS3 hj hk hst hd (hf.mono (fun rv σ' hh => by obtain ⟨rfl, rfl⟩ := hh; exact h))
theorem x_pS3 {i j : zM} {d pc idx : Nat} {ls st : List Value} {σ : zS} {Q : Option Value → zS → Prop} {b1 b2 b3 : Value} {pc2 : Nat} {τ : zS} (hj : z_LmS j 3) (hk : Cond.methodLink i.1.cls idx j.1 ∈ lw_tbl) (hst : (st.map fun v => v.category).sum ≤ 8) (hd : decode i.2.1 pc = .ok (.invokestatic idx, 3)) (hp : pc + 3 = pc2) (hf : z_Pr j d [b1, b2, b3] σ τ) (h : z_At i (d + 1) pc2 ls st τ Q) : z_At i (d + 1) pc ls (b3 :: b2 :: b1 :: st) σ Q := by
  subst hp
  exact x_cS3 hj hk hst hd (hf.mono (fun rv σ' hh => by obtain ⟨rfl, rfl⟩ := hh; exact h))
theorem x_cV4 {i j : zM} {d pc idx r ci : Nat} {ls st : List Value} {σ : zS} {Q : Option Value → zS → Prop} {ks : List (Nat × Nat)} {T : u_T} {N : Nat} {b1 b2 b3 b4 : Value} (hj : z_LmV j 4) (hk : Cond.methodLink i.1.cls idx j.1 ∈ lw_tbl) (hs : z_shp r = (0, ci, ks)) (hcl : vwCl[ci]? = some (j.1.cls, T, N)) (hst : (st.map fun v => v.category).sum ≤ 8) (hd : decode i.2.1 pc = .ok (.invokevirtual idx, 3)) (h : z_Ex j d [.ref r, b1, b2, b3, b4] σ (fun rv σ' => z_At i (d + 1) (pc + 3) ls (rv.toList ++ st) σ' Q)) : z_At i (d + 1) pc ls (b4 :: b3 :: b2 :: b1 :: .ref r :: st) σ Q := x_callV (as := [b1, b2, b3, b4]) hj hk hs hcl rfl hst hd h
theorem x_fV4 {i j : zM} {d pc idx r ci : Nat} {ls st : List Value} {σ : zS} {Q : Option Value → zS → Prop} {ks : List (Nat × Nat)} {T : u_T} {N : Nat} {b1 b2 b3 b4 : Value} {pc2 : Nat} {v : Value} {τ : zS} (hj : z_LmV j 4) (hk : Cond.methodLink i.1.cls idx j.1 ∈ lw_tbl) (hs : z_shp r = (0, ci, ks)) (hcl : vwCl[ci]? = some (j.1.cls, T, N)) (hst : (st.map fun v => v.category).sum ≤ 8) (hd : decode i.2.1 pc = .ok (.invokevirtual idx, 3)) (hp : pc + 3 = pc2) (hf : z_Fn j d [.ref r, b1, b2, b3, b4] σ v τ) (h : z_At i (d + 1) pc2 ls (v :: st) τ Q) : z_At i (d + 1) pc ls (b4 :: b3 :: b2 :: b1 :: .ref r :: st) σ Q := by
  subst hp
  exact x_cV4 hj hk hs hcl hst hd (hf.mono (fun rv σ' hh => by obtain ⟨rfl, rfl⟩ := hh; exact h))
theorem x_pV4 {i j : zM} {d pc idx r ci : Nat} {ls st : List Value} {σ : zS} {Q : Option Value → zS → Prop} {ks : List (Nat × Nat)} {T : u_T} {N : Nat} {b1 b2 b3 b4 : Value} {pc2 : Nat} {τ : zS} (hj : z_LmV j 4) (hk : Cond.methodLink i.1.cls idx j.1 ∈ lw_tbl) (hs : z_shp r = (0, ci, ks)) (hcl : vwCl[ci]? = some (j.1.cls, T, N)) (hst : (st.map fun v => v.category).sum ≤ 8) (hd : decode i.2.1 pc = .ok (.invokevirtual idx, 3)) (hp : pc + 3 = pc2) (hf : z_Pr j d [.ref r, b1, b2, b3, b4] σ τ) (h : z_At i (d + 1) pc2 ls st τ Q) : z_At i (d + 1) pc ls (b4 :: b3 :: b2 :: b1 :: .ref r :: st) σ Q := by
  subst hp
  exact x_cV4 hj hk hs hcl hst hd (hf.mono (fun rv σ' hh => by obtain ⟨rfl, rfl⟩ := hh; exact h))
theorem x_cS4 {i j : zM} {d pc idx : Nat} {ls st : List Value} {σ : zS} {Q : Option Value → zS → Prop} {b1 b2 b3 b4 : Value} (hj : z_LmS j 4) (hk : Cond.methodLink i.1.cls idx j.1 ∈ lw_tbl) (hst : (st.map fun v => v.category).sum ≤ 8) (hd : decode i.2.1 pc = .ok (.invokestatic idx, 3)) (h : z_Ex j d [b1, b2, b3, b4] σ (fun rv σ' => z_At i (d + 1) (pc + 3) ls (rv.toList ++ st) σ' Q)) : z_At i (d + 1) pc ls (b4 :: b3 :: b2 :: b1 :: st) σ Q := x_callS (as := [b1, b2, b3, b4]) hj hk rfl hst hd h
theorem x_fS4 {i j : zM} {d pc idx : Nat} {ls st : List Value} {σ : zS} {Q : Option Value → zS → Prop} {b1 b2 b3 b4 : Value} {pc2 : Nat} {v : Value} {τ : zS} (hj : z_LmS j 4) (hk : Cond.methodLink i.1.cls idx j.1 ∈ lw_tbl) (hst : (st.map fun v => v.category).sum ≤ 8) (hd : decode i.2.1 pc = .ok (.invokestatic idx, 3)) (hp : pc + 3 = pc2) (hf : z_Fn j d [b1, b2, b3, b4] σ v τ) (h : z_At i (d + 1) pc2 ls (v :: st) τ Q) : z_At i (d + 1) pc ls (b4 :: b3 :: b2 :: b1 :: st) σ Q := by
  subst hp
  exact x_cS4 hj hk hst hd (hf.mono (fun rv σ' hh => by obtain ⟨rfl, rfl⟩ := hh; exact h))
theorem x_pS4 {i j : zM} {d pc idx : Nat} {ls st : List Value} {σ : zS} {Q : Option Value → zS → Prop} {b1 b2 b3 b4 : Value} {pc2 : Nat} {τ : zS} (hj : z_LmS j 4) (hk : Cond.methodLink i.1.cls idx j.1 ∈ lw_tbl) (hst : (st.map fun v => v.category).sum ≤ 8) (hd : decode i.2.1 pc = .ok (.invokestatic idx, 3)) (hp : pc + 3 = pc2) (hf : z_Pr j d [b1, b2, b3, b4] σ τ) (h : z_At i (d + 1) pc2 ls st τ Q) : z_At i (d + 1) pc ls (b4 :: b3 :: b2 :: b1 :: st) σ Q := by
  subst hp
  exact x_cS4 hj hk hst hd (hf.mono (fun rv σ' hh => by obtain ⟨rfl, rfl⟩ := hh; exact h))
theorem x_cV5 {i j : zM} {d pc idx r ci : Nat} {ls st : List Value} {σ : zS} {Q : Option Value → zS → Prop} {ks : List (Nat × Nat)} {T : u_T} {N : Nat} {b1 b2 b3 b4 b5 : Value} (hj : z_LmV j 5) (hk : Cond.methodLink i.1.cls idx j.1 ∈ lw_tbl) (hs : z_shp r = (0, ci, ks)) (hcl : vwCl[ci]? = some (j.1.cls, T, N)) (hst : (st.map fun v => v.category).sum ≤ 8) (hd : decode i.2.1 pc = .ok (.invokevirtual idx, 3)) (h : z_Ex j d [.ref r, b1, b2, b3, b4, b5] σ (fun rv σ' => z_At i (d + 1) (pc + 3) ls (rv.toList ++ st) σ' Q)) : z_At i (d + 1) pc ls (b5 :: b4 :: b3 :: b2 :: b1 :: .ref r :: st) σ Q := x_callV (as := [b1, b2, b3, b4, b5]) hj hk hs hcl rfl hst hd h
theorem x_fV5 {i j : zM} {d pc idx r ci : Nat} {ls st : List Value} {σ : zS} {Q : Option Value → zS → Prop} {ks : List (Nat × Nat)} {T : u_T} {N : Nat} {b1 b2 b3 b4 b5 : Value} {pc2 : Nat} {v : Value} {τ : zS} (hj : z_LmV j 5) (hk : Cond.methodLink i.1.cls idx j.1 ∈ lw_tbl) (hs : z_shp r = (0, ci, ks)) (hcl : vwCl[ci]? = some (j.1.cls, T, N)) (hst : (st.map fun v => v.category).sum ≤ 8) (hd : decode i.2.1 pc = .ok (.invokevirtual idx, 3)) (hp : pc + 3 = pc2) (hf : z_Fn j d [.ref r, b1, b2, b3, b4, b5] σ v τ) (h : z_At i (d + 1) pc2 ls (v :: st) τ Q) : z_At i (d + 1) pc ls (b5 :: b4 :: b3 :: b2 :: b1 :: .ref r :: st) σ Q := by
  subst hp
  exact x_cV5 hj hk hs hcl hst hd (hf.mono (fun rv σ' hh => by obtain ⟨rfl, rfl⟩ := hh; exact h))
theorem x_pV5 {i j : zM} {d pc idx r ci : Nat} {ls st : List Value} {σ : zS} {Q : Option Value → zS → Prop} {ks : List (Nat × Nat)} {T : u_T} {N : Nat} {b1 b2 b3 b4 b5 : Value} {pc2 : Nat} {τ : zS} (hj : z_LmV j 5) (hk : Cond.methodLink i.1.cls idx j.1 ∈ lw_tbl) (hs : z_shp r = (0, ci, ks)) (hcl : vwCl[ci]? = some (j.1.cls, T, N)) (hst : (st.map fun v => v.category).sum ≤ 8) (hd : decode i.2.1 pc = .ok (.invokevirtual idx, 3)) (hp : pc + 3 = pc2) (hf : z_Pr j d [.ref r, b1, b2, b3, b4, b5] σ τ) (h : z_At i (d + 1) pc2 ls st τ Q) : z_At i (d + 1) pc ls (b5 :: b4 :: b3 :: b2 :: b1 :: .ref r :: st) σ Q := by
  subst hp
  exact x_cV5 hj hk hs hcl hst hd (hf.mono (fun rv σ' hh => by obtain ⟨rfl, rfl⟩ := hh; exact h))
theorem x_cS5 {i j : zM} {d pc idx : Nat} {ls st : List Value} {σ : zS} {Q : Option Value → zS → Prop} {b1 b2 b3 b4 b5 : Value} (hj : z_LmS j 5) (hk : Cond.methodLink i.1.cls idx j.1 ∈ lw_tbl) (hst : (st.map fun v => v.category).sum ≤ 8) (hd : decode i.2.1 pc = .ok (.invokestatic idx, 3)) (h : z_Ex j d [b1, b2, b3, b4, b5] σ (fun rv σ' => z_At i (d + 1) (pc + 3) ls (rv.toList ++ st) σ' Q)) : z_At i (d + 1) pc ls (b5 :: b4 :: b3 :: b2 :: b1 :: st) σ Q := x_callS (as := [b1, b2, b3, b4, b5]) hj hk rfl hst hd h
theorem x_fS5 {i j : zM} {d pc idx : Nat} {ls st : List Value} {σ : zS} {Q : Option Value → zS → Prop} {b1 b2 b3 b4 b5 : Value} {pc2 : Nat} {v : Value} {τ : zS} (hj : z_LmS j 5) (hk : Cond.methodLink i.1.cls idx j.1 ∈ lw_tbl) (hst : (st.map fun v => v.category).sum ≤ 8) (hd : decode i.2.1 pc = .ok (.invokestatic idx, 3)) (hp : pc + 3 = pc2) (hf : z_Fn j d [b1, b2, b3, b4, b5] σ v τ) (h : z_At i (d + 1) pc2 ls (v :: st) τ Q) : z_At i (d + 1) pc ls (b5 :: b4 :: b3 :: b2 :: b1 :: st) σ Q := by
  subst hp
  exact x_cS5 hj hk hst hd (hf.mono (fun rv σ' hh => by obtain ⟨rfl, rfl⟩ := hh; exact h))
theorem x_pS5 {i j : zM} {d pc idx : Nat} {ls st : List Value} {σ : zS} {Q : Option Value → zS → Prop} {b1 b2 b3 b4 b5 : Value} {pc2 : Nat} {τ : zS} (hj : z_LmS j 5) (hk : Cond.methodLink i.1.cls idx j.1 ∈ lw_tbl) (hst : (st.map fun v => v.category).sum ≤ 8) (hd : decode i.2.1 pc = .ok (.invokestatic idx, 3)) (hp : pc + 3 = pc2) (hf : z_Pr j d [b1, b2, b3, b4, b5] σ τ) (h : z_At i (d + 1) pc2 ls st τ Q) : z_At i (d + 1) pc ls (b5 :: b4 :: b3 :: b2 :: b1 :: st) σ Q := by
  subst hp
  exact x_cS5 hj hk hst hd (hf.mono (fun rv σ' hh => by obtain ⟨rfl, rfl⟩ := hh; exact h))
theorem x_cV6 {i j : zM} {d pc idx r ci : Nat} {ls st : List Value} {σ : zS} {Q : Option Value → zS → Prop} {ks : List (Nat × Nat)} {T : u_T} {N : Nat} {b1 b2 b3 b4 b5 b6 : Value} (hj : z_LmV j 6) (hk : Cond.methodLink i.1.cls idx j.1 ∈ lw_tbl) (hs : z_shp r = (0, ci, ks)) (hcl : vwCl[ci]? = some (j.1.cls, T, N)) (hst : (st.map fun v => v.category).sum ≤ 8) (hd : decode i.2.1 pc = .ok (.invokevirtual idx, 3)) (h : z_Ex j d [.ref r, b1, b2, b3, b4, b5, b6] σ (fun rv σ' => z_At i (d + 1) (pc + 3) ls (rv.toList ++ st) σ' Q)) : z_At i (d + 1) pc ls (b6 :: b5 :: b4 :: b3 :: b2 :: b1 :: .ref r :: st) σ Q := x_callV (as := [b1, b2, b3, b4, b5, b6]) hj hk hs hcl rfl hst hd h
theorem x_fV6 {i j : zM} {d pc idx r ci : Nat} {ls st : List Value} {σ : zS} {Q : Option Value → zS → Prop} {ks : List (Nat × Nat)} {T : u_T} {N : Nat} {b1 b2 b3 b4 b5 b6 : Value} {pc2 : Nat} {v : Value} {τ : zS} (hj : z_LmV j 6) (hk : Cond.methodLink i.1.cls idx j.1 ∈ lw_tbl) (hs : z_shp r = (0, ci, ks)) (hcl : vwCl[ci]? = some (j.1.cls, T, N)) (hst : (st.map fun v => v.category).sum ≤ 8) (hd : decode i.2.1 pc = .ok (.invokevirtual idx, 3)) (hp : pc + 3 = pc2) (hf : z_Fn j d [.ref r, b1, b2, b3, b4, b5, b6] σ v τ) (h : z_At i (d + 1) pc2 ls (v :: st) τ Q) : z_At i (d + 1) pc ls (b6 :: b5 :: b4 :: b3 :: b2 :: b1 :: .ref r :: st) σ Q := by
  subst hp
  exact x_cV6 hj hk hs hcl hst hd (hf.mono (fun rv σ' hh => by obtain ⟨rfl, rfl⟩ := hh; exact h))
theorem x_pV6 {i j : zM} {d pc idx r ci : Nat} {ls st : List Value} {σ : zS} {Q : Option Value → zS → Prop} {ks : List (Nat × Nat)} {T : u_T} {N : Nat} {b1 b2 b3 b4 b5 b6 : Value} {pc2 : Nat} {τ : zS} (hj : z_LmV j 6) (hk : Cond.methodLink i.1.cls idx j.1 ∈ lw_tbl) (hs : z_shp r = (0, ci, ks)) (hcl : vwCl[ci]? = some (j.1.cls, T, N)) (hst : (st.map fun v => v.category).sum ≤ 8) (hd : decode i.2.1 pc = .ok (.invokevirtual idx, 3)) (hp : pc + 3 = pc2) (hf : z_Pr j d [.ref r, b1, b2, b3, b4, b5, b6] σ τ) (h : z_At i (d + 1) pc2 ls st τ Q) : z_At i (d + 1) pc ls (b6 :: b5 :: b4 :: b3 :: b2 :: b1 :: .ref r :: st) σ Q := by
  subst hp
  exact x_cV6 hj hk hs hcl hst hd (hf.mono (fun rv σ' hh => by obtain ⟨rfl, rfl⟩ := hh; exact h))
theorem x_cS6 {i j : zM} {d pc idx : Nat} {ls st : List Value} {σ : zS} {Q : Option Value → zS → Prop} {b1 b2 b3 b4 b5 b6 : Value} (hj : z_LmS j 6) (hk : Cond.methodLink i.1.cls idx j.1 ∈ lw_tbl) (hst : (st.map fun v => v.category).sum ≤ 8) (hd : decode i.2.1 pc = .ok (.invokestatic idx, 3)) (h : z_Ex j d [b1, b2, b3, b4, b5, b6] σ (fun rv σ' => z_At i (d + 1) (pc + 3) ls (rv.toList ++ st) σ' Q)) : z_At i (d + 1) pc ls (b6 :: b5 :: b4 :: b3 :: b2 :: b1 :: st) σ Q := x_callS (as := [b1, b2, b3, b4, b5, b6]) hj hk rfl hst hd h
theorem x_fS6 {i j : zM} {d pc idx : Nat} {ls st : List Value} {σ : zS} {Q : Option Value → zS → Prop} {b1 b2 b3 b4 b5 b6 : Value} {pc2 : Nat} {v : Value} {τ : zS} (hj : z_LmS j 6) (hk : Cond.methodLink i.1.cls idx j.1 ∈ lw_tbl) (hst : (st.map fun v => v.category).sum ≤ 8) (hd : decode i.2.1 pc = .ok (.invokestatic idx, 3)) (hp : pc + 3 = pc2) (hf : z_Fn j d [b1, b2, b3, b4, b5, b6] σ v τ) (h : z_At i (d + 1) pc2 ls (v :: st) τ Q) : z_At i (d + 1) pc ls (b6 :: b5 :: b4 :: b3 :: b2 :: b1 :: st) σ Q := by
  subst hp
  exact x_cS6 hj hk hst hd (hf.mono (fun rv σ' hh => by obtain ⟨rfl, rfl⟩ := hh; exact h))
theorem x_pS6 {i j : zM} {d pc idx : Nat} {ls st : List Value} {σ : zS} {Q : Option Value → zS → Prop} {b1 b2 b3 b4 b5 b6 : Value} {pc2 : Nat} {τ : zS} (hj : z_LmS j 6) (hk : Cond.methodLink i.1.cls idx j.1 ∈ lw_tbl) (hst : (st.map fun v => v.category).sum ≤ 8) (hd : decode i.2.1 pc = .ok (.invokestatic idx, 3)) (hp : pc + 3 = pc2) (hf : z_Pr j d [b1, b2, b3, b4, b5, b6] σ τ) (h : z_At i (d + 1) pc2 ls st τ Q) : z_At i (d + 1) pc ls (b6 :: b5 :: b4 :: b3 :: b2 :: b1 :: st) σ Q := by
  subst hp
  exact x_cS6 hj hk hst hd (hf.mono (fun rv σ' hh => by obtain ⟨rfl, rfl⟩ := hh; exact h))
end
section
theorem z_toInt_ne {x k : Int32} (h : x ≠ k) : x.toInt ≠ k.toInt := fun e => h (Int32.toInt_inj.mp e)
theorem x_lk2 {i : zM} {d pc len : Nat} {ls st : List Value} {σ : zS} {Q : Option Value → zS → Prop} {x : Int32} {dflt K1 o1 K2 o2 : Int} {k1 k2 : Int32} {p0 p1 p2 : Nat} (hd : decode i.2.1 pc = .ok (.lookupswitch dflt #[(K1, o1), (K2, o2)], len)) (s1 : K1 < K2) (e1 : k1.toInt = K1) (e2 : k2.toInt = K2) (t1 : (pc : Int) + o1 = (p1 : Int)) (t2 : (pc : Int) + o2 = (p2 : Int)) (t0 : (pc : Int) + dflt = (p0 : Int)) (g1 : x = k1 → z_At i d p1 ls st σ Q) (g2 : x = k2 → z_At i d p2 ls st σ Q) (g0 : x ≠ k1 → x ≠ k2 → z_At i d p0 ls st σ Q) : z_At i d pc ls (.int x :: st) σ Q := by
  by_cases c1 : x = k1
  · refine x_lookup hd (by simp [s1]) (off := o1) ?_ t1 (g1 c1)
    simp [Op.lookupswitch.offset, c1, e1]
  by_cases c2 : x = k2
  · refine x_lookup hd (by simp [s1]) (off := o2) ?_ t2 (g2 c2)
    have n1 : ¬ K1 = K2 := by omega
    simp [Op.lookupswitch.offset, c2, e2, n1]
  have n1 : ¬ K1 = x.toInt := fun h => c1 (Int32.toInt_inj.mp (by rw [e1]; exact h.symm))
  have n2 : ¬ K2 = x.toInt := fun h => c2 (Int32.toInt_inj.mp (by rw [e2]; exact h.symm))
  refine x_lookup hd (by simp [s1]) (off := dflt) ?_ t0 (g0 c1 c2)
  simp [Op.lookupswitch.offset, n1, n2]
theorem x_lk3 {i : zM} {d pc len : Nat} {ls st : List Value} {σ : zS} {Q : Option Value → zS → Prop} {x : Int32} {dflt K1 o1 K2 o2 K3 o3 : Int} {k1 k2 k3 : Int32} {p0 p1 p2 p3 : Nat} (hd : decode i.2.1 pc = .ok (.lookupswitch dflt #[(K1, o1), (K2, o2), (K3, o3)], len)) (s1 : K1 < K2) (s2 : K2 < K3) (e1 : k1.toInt = K1) (e2 : k2.toInt = K2) (e3 : k3.toInt = K3) (t1 : (pc : Int) + o1 = (p1 : Int)) (t2 : (pc : Int) + o2 = (p2 : Int)) (t3 : (pc : Int) + o3 = (p3 : Int)) (t0 : (pc : Int) + dflt = (p0 : Int)) (g1 : x = k1 → z_At i d p1 ls st σ Q) (g2 : x = k2 → z_At i d p2 ls st σ Q) (g3 : x = k3 → z_At i d p3 ls st σ Q) (g0 : x ≠ k1 → x ≠ k2 → x ≠ k3 → z_At i d p0 ls st σ Q) : z_At i d pc ls (.int x :: st) σ Q := by
  by_cases c1 : x = k1
  · refine x_lookup hd (by simp [s1, s2]) (off := o1) ?_ t1 (g1 c1)
    simp [Op.lookupswitch.offset, c1, e1]
  by_cases c2 : x = k2
  · refine x_lookup hd (by simp [s1, s2]) (off := o2) ?_ t2 (g2 c2)
    have n1 : ¬ K1 = K2 := by omega
    simp [Op.lookupswitch.offset, c2, e2, n1]
  by_cases c3 : x = k3
  · refine x_lookup hd (by simp [s1, s2]) (off := o3) ?_ t3 (g3 c3)
    have n1 : ¬ K1 = K3 := by omega
    have n2 : ¬ K2 = K3 := by omega
    simp [Op.lookupswitch.offset, c3, e3, n1, n2]
  have n1 : ¬ K1 = x.toInt := fun h => c1 (Int32.toInt_inj.mp (by rw [e1]; exact h.symm))
  have n2 : ¬ K2 = x.toInt := fun h => c2 (Int32.toInt_inj.mp (by rw [e2]; exact h.symm))
  have n3 : ¬ K3 = x.toInt := fun h => c3 (Int32.toInt_inj.mp (by rw [e3]; exact h.symm))
  refine x_lookup hd (by simp [s1, s2]) (off := dflt) ?_ t0 (g0 c1 c2 c3)
  simp [Op.lookupswitch.offset, n1, n2, n3]
theorem x_tbl {i : zM} {d pc len : Nat} {ls st : List Value} {σ : zS} {Q : Option Value → zS → Prop} {x : Int32} {dflt lo hi : Int} {offs : Array Int} {p0 : Nat} (f : Nat → Nat) (hd : decode i.2.1 pc = .ok (.tableswitch dflt lo hi offs, len)) (hsz : (offs.size : Int) = hi - lo + 1) (hf : ∀ k, k < offs.size → (offs[k]?).map (fun o => (pc : Int) + o) = some ((f k : Nat) : Int)) (t0 : (pc : Int) + dflt = (p0 : Int)) (g : ∀ k, k < offs.size → x.toInt = lo + k → z_At i d (f k) ls st σ Q) (g0 : x.toInt < lo ∨ hi < x.toInt → z_At i d p0 ls st σ Q) : z_At i d pc ls (.int x :: st) σ Q := by
  by_cases c1 : x.toInt < lo ∨ hi < x.toInt
  · exact x_tableOut hd c1 t0 (g0 c1)
  · have hk : (x.toInt - lo).toNat < offs.size := by omega
    have h1 := hf _ hk
    cases ho : offs[(x.toInt - lo).toNat]? with
    | none => rw [ho] at h1; cases h1
    | some o =>
      rw [ho] at h1
      exact x_tableIn hd (by omega) (by omega) ho (Option.some.inj h1) (g _ hk (by omega))
theorem z_of_toInt {x k : Int32} (h : x.toInt = k.toInt) : x = k := Int32.toInt_inj.mp h
end
section
/-! PortageTrips$Portage: reads -/
def z_rng (k x : Int32) : Bool := !decide (k < 0) && !decide (x ≤ k)
def z_wi (v a b : Int32) : Bool := !decide (v < a) && !decide (b < v)
def z_pos (x : Int32) : Bool := !decide (x ≤ 0)
def z_spot (k n : Int32) : Bool := z_pos n && z_wi k 0 n
def z_bit (set t : Int32) : Bool := decide ((set >>> (t &&& 31)) &&& 1 = 1)
theorem s_isIn (d : Nat) (σ : zS) (set t : Int32) : z_Fn mX0_isIn d [.int set, .int t] σ (.int (z_b (z_bit set t))) σ := by
  refine x_enter (by decide) (Nat.le_of_ble_eq_true rfl) ?_
  show z_At _ _ _ [.int set, .int t] _ _ _
  unfold z_bit
  refine x_iload0 (pc2 := 1) dX0_isIn_0 rfl ?_
  refine x_iload1 (pc2 := 2) dX0_isIn_1 rfl ?_
  refine x_ishr (pc2 := 3) dX0_isIn_2 rfl ?_
  refine x_iconst (v := 1) (pc2 := 4) dX0_isIn_3 rfl (by decide) ?_
  refine x_iand (pc2 := 5) dX0_isIn_4 rfl ?_
  refine x_iconst (v := 1) (pc2 := 6) dX0_isIn_5 rfl (by decide) ?_
  refine x_icmp_ne (pc2 := 9) (pc3 := 13) dX0_isIn_6 rfl rfl (fun h6 => ?_) (fun h6 => ?_)
  · skip
    refine x_iconst (v := 0) (pc2 := 14) dX0_isIn_13 rfl (by decide) ?_
    refine x_zret dX0_isIn_14 rfl (by first | exact z_b01 _ | exact Or.inl rfl | exact Or.inr rfl) ?_
    exact ⟨by simp [z_b, *], rfl⟩
  · skip
    refine x_iconst (v := 1) (pc2 := 10) dX0_isIn_9 rfl (by decide) ?_
    refine x_goto (pc2 := 14) dX0_isIn_10 rfl ?_
    refine x_zret dX0_isIn_14 rfl (by first | exact z_b01 _ | exact Or.inl rfl | exact Or.inr rfl) ?_
    exact ⟨by simp [z_b, *], rfl⟩
theorem s_isThere (d : Nat) (σ : zS) {r : Nat} (hr : z_isP r) : z_Fn mX0_isThere d [.ref r] σ (.int (z_b (z_pos (σ.1 r 2)))) σ := by
  refine x_enter (by decide) (Nat.le_of_ble_eq_true rfl) ?_
  show z_At _ _ _ [.ref r] _ _ _
  unfold z_pos
  refine x_aload0 (pc2 := 1) dX0_isThere_0 rfl ?_
  refine x_getI (pc2 := 4) fX0_32 (sh_P hr) rfl dX0_isThere_1 rfl ?_
  refine x_if_le (pc2 := 7) (pc3 := 11) dX0_isThere_4 rfl rfl (fun h4 => ?_) (fun h4 => ?_)
  · skip
    refine x_iconst (v := 0) (pc2 := 12) dX0_isThere_11 rfl (by decide) ?_
    refine x_zret dX0_isThere_12 rfl (by first | exact z_b01 _ | exact Or.inl rfl | exact Or.inr rfl) ?_
    exact ⟨by simp [z_b, *], rfl⟩
  · skip
    refine x_iconst (v := 1) (pc2 := 8) dX0_isThere_7 rfl (by decide) ?_
    refine x_goto (pc2 := 12) dX0_isThere_8 rfl ?_
    refine x_zret dX0_isThere_12 rfl (by first | exact z_b01 _ | exact Or.inl rfl | exact Or.inr rfl) ?_
    exact ⟨by simp [z_b, *], rfl⟩
theorem s_hasStage (d : Nat) (σ : zS) {r : Nat} (hr : z_isP r) (k : Int32) : z_Fn mX0_hasStage d [.ref r, .int k] σ (.int (z_b (z_rng k (σ.1 r 2)))) σ := by
  refine x_enter (by decide) (Nat.le_of_ble_eq_true rfl) ?_
  show z_At _ _ _ [.ref r, .int k] _ _ _
  unfold z_rng
  refine x_iload1 (pc2 := 1) dX0_hasStage_0 rfl ?_
  refine x_if_lt (pc2 := 4) (pc3 := 16) dX0_hasStage_1 rfl rfl (fun h1 => ?_) (fun h1 => ?_)
  · skip
    refine x_iconst (v := 0) (pc2 := 17) dX0_hasStage_16 rfl (by decide) ?_
    refine x_zret dX0_hasStage_17 rfl (by first | exact z_b01 _ | exact Or.inl rfl | exact Or.inr rfl) ?_
    exact ⟨by simp [z_b, *], rfl⟩
  · skip
    refine x_iload1 (pc2 := 5) dX0_hasStage_4 rfl ?_
    refine x_aload0 (pc2 := 6) dX0_hasStage_5 rfl ?_
    refine x_getI (pc2 := 9) fX0_32 (sh_P hr) rfl dX0_hasStage_6 rfl ?_
    refine x_icmp_ge (pc2 := 12) (pc3 := 16) dX0_hasStage_9 rfl rfl (fun h9 => ?_) (fun h9 => ?_)
    · skip
      refine x_iconst (v := 0) (pc2 := 17) dX0_hasStage_16 rfl (by decide) ?_
      refine x_zret dX0_hasStage_17 rfl (by first | exact z_b01 _ | exact Or.inl rfl | exact Or.inr rfl) ?_
      exact ⟨by simp [z_b, *], rfl⟩
    · skip
      refine x_iconst (v := 1) (pc2 := 13) dX0_hasStage_12 rfl (by decide) ?_
      refine x_goto (pc2 := 17) dX0_hasStage_13 rfl ?_
      refine x_zret dX0_hasStage_17 rfl (by first | exact z_b01 _ | exact Or.inl rfl | exact Or.inr rfl) ?_
      exact ⟨by simp [z_b, *], rfl⟩
theorem s_hasSpot (d : Nat) (σ : zS) {r : Nat} (hr : z_isP r) (k : Int32) : z_Fn mX0_hasSpot (d + 1) [.ref r, .int k] σ (.int (z_b (z_spot k (σ.1 r 2)))) σ := by
  refine x_enter (by decide) (Nat.le_of_ble_eq_true rfl) ?_
  show z_At _ _ _ [.ref r, .int k] _ _ _
  unfold z_spot z_wi
  refine x_aload0 (pc2 := 1) dX0_hasSpot_0 rfl ?_
  refine x_fV0 (pc2 := 4) eX0_isThere kX0_35 (sh_P hr) rfl (Nat.le_of_ble_eq_true rfl) dX0_hasSpot_1 rfl (s_isThere _ _ hr) ?_
  refine x_if_eq (pc2 := 7) (pc3 := 23) dX0_hasSpot_4 rfl rfl (fun h4 => ?_) (fun h4 => ?_)
  · skip
    refine x_iconst (v := 0) (pc2 := 24) dX0_hasSpot_23 rfl (by decide) ?_
    refine x_zret dX0_hasSpot_24 rfl (by first | exact z_b01 _ | exact Or.inl rfl | exact Or.inr rfl) ?_
    exact ⟨by simp_all [z_b], rfl⟩
  · skip
    refine x_iload1 (pc2 := 8) dX0_hasSpot_7 rfl ?_
    refine x_if_lt (pc2 := 11) (pc3 := 23) dX0_hasSpot_8 rfl rfl (fun h8 => ?_) (fun h8 => ?_)
    · skip
      refine x_iconst (v := 0) (pc2 := 24) dX0_hasSpot_23 rfl (by decide) ?_
      refine x_zret dX0_hasSpot_24 rfl (by first | exact z_b01 _ | exact Or.inl rfl | exact Or.inr rfl) ?_
      exact ⟨by simp_all [z_b], rfl⟩
    · skip
      refine x_iload1 (pc2 := 12) dX0_hasSpot_11 rfl ?_
      refine x_aload0 (pc2 := 13) dX0_hasSpot_12 rfl ?_
      refine x_getI (pc2 := 16) fX0_32 (sh_P hr) rfl dX0_hasSpot_13 rfl ?_
      refine x_icmp_gt (pc2 := 19) (pc3 := 23) dX0_hasSpot_16 rfl rfl (fun h16 => ?_) (fun h16 => ?_)
      · skip
        refine x_iconst (v := 0) (pc2 := 24) dX0_hasSpot_23 rfl (by decide) ?_
        refine x_zret dX0_hasSpot_24 rfl (by first | exact z_b01 _ | exact Or.inl rfl | exact Or.inr rfl) ?_
        exact ⟨by simp_all [z_b], rfl⟩
      · skip
        refine x_iconst (v := 1) (pc2 := 20) dX0_hasSpot_19 rfl (by decide) ?_
        refine x_goto (pc2 := 24) dX0_hasSpot_20 rfl ?_
        refine x_zret dX0_hasSpot_24 rfl (by first | exact z_b01 _ | exact Or.inl rfl | exact Or.inr rfl) ?_
        exact ⟨by simp_all [z_b], rfl⟩
theorem s_hasThing (d : Nat) (σ : zS) {r : Nat} (hr : z_isP r) (k : Int32) : z_Fn mX0_hasThing d [.ref r, .int k] σ (.int (z_b (z_rng k (σ.1 r 6)))) σ := by
  refine x_enter (by decide) (Nat.le_of_ble_eq_true rfl) ?_
  show z_At _ _ _ [.ref r, .int k] _ _ _
  unfold z_rng
  refine x_iload1 (pc2 := 1) dX0_hasThing_0 rfl ?_
  refine x_if_lt (pc2 := 4) (pc3 := 16) dX0_hasThing_1 rfl rfl (fun h1 => ?_) (fun h1 => ?_)
  · skip
    refine x_iconst (v := 0) (pc2 := 17) dX0_hasThing_16 rfl (by decide) ?_
    refine x_zret dX0_hasThing_17 rfl (by first | exact z_b01 _ | exact Or.inl rfl | exact Or.inr rfl) ?_
    exact ⟨by simp [z_b, *], rfl⟩
  · skip
    refine x_iload1 (pc2 := 5) dX0_hasThing_4 rfl ?_
    refine x_aload0 (pc2 := 6) dX0_hasThing_5 rfl ?_
    refine x_getI (pc2 := 9) fX0_39 (sh_P hr) rfl dX0_hasThing_6 rfl ?_
    refine x_icmp_ge (pc2 := 12) (pc3 := 16) dX0_hasThing_9 rfl rfl (fun h9 => ?_) (fun h9 => ?_)
    · skip
      refine x_iconst (v := 0) (pc2 := 17) dX0_hasThing_16 rfl (by decide) ?_
      refine x_zret dX0_hasThing_17 rfl (by first | exact z_b01 _ | exact Or.inl rfl | exact Or.inr rfl) ?_
      exact ⟨by simp [z_b, *], rfl⟩
    · skip
      refine x_iconst (v := 1) (pc2 := 13) dX0_hasThing_12 rfl (by decide) ?_
      refine x_goto (pc2 := 17) dX0_hasThing_13 rfl ?_
      refine x_zret dX0_hasThing_17 rfl (by first | exact z_b01 _ | exact Or.inl rfl | exact Or.inr rfl) ?_
      exact ⟨by simp [z_b, *], rfl⟩
def z_ushr (x y : Int32) : Int32 := (x.toUInt32 >>> (y.toUInt32 &&& Int32.toUInt32 31)).toInt32
theorem s_hasAllOf (d : Nat) (σ : zS) {r : Nat} (hr : z_isP r) (k : Int32) : z_Fn mX0_hasAllOf d [.ref r, .int k] σ (.int (z_b (decide (z_ushr k (σ.1 r 6) = 0)))) σ := by
  refine x_enter (by decide) (Nat.le_of_ble_eq_true rfl) ?_
  show z_At _ _ _ [.ref r, .int k] _ _ _
  unfold z_ushr
  refine x_iload1 (pc2 := 1) dX0_hasAllOf_0 rfl ?_
  refine x_aload0 (pc2 := 2) dX0_hasAllOf_1 rfl ?_
  refine x_getI (pc2 := 5) fX0_39 (sh_P hr) rfl dX0_hasAllOf_2 rfl ?_
  refine x_iushr (pc2 := 6) dX0_hasAllOf_5 rfl ?_
  refine x_if_ne (pc2 := 9) (pc3 := 13) dX0_hasAllOf_6 rfl rfl (fun h6 => ?_) (fun h6 => ?_)
  · skip
    refine x_iconst (v := 0) (pc2 := 14) dX0_hasAllOf_13 rfl (by decide) ?_
    refine x_zret dX0_hasAllOf_14 rfl (by first | exact z_b01 _ | exact Or.inl rfl | exact Or.inr rfl) ?_
    exact ⟨by simp [z_b, *], rfl⟩
  · skip
    refine x_iconst (v := 1) (pc2 := 10) dX0_hasAllOf_9 rfl (by decide) ?_
    refine x_goto (pc2 := 14) dX0_hasAllOf_10 rfl ?_
    refine x_zret dX0_hasAllOf_14 rfl (by first | exact z_b01 _ | exact Or.inl rfl | exact Or.inr rfl) ?_
    exact ⟨by simp [z_b, *], rfl⟩
def z_well (kind others food : Int32) : Bool := if kind = 1 then !decide (others = 0) else if kind = 2 then !decide (others = 0) && decide (food = 0) else true
theorem s_isWell (d : Nat) (σ : zS) (k o f : Int32) : z_Fn mX0_isWell d [.int k, .int o, .int f] σ (.int (z_b (z_well k o f))) σ := by
  refine x_enter (by decide) (Nat.le_of_ble_eq_true rfl) ?_
  show z_At _ _ _ [.int k, .int o, .int f] _ _ _
  unfold z_well
  refine x_iload0 (pc2 := 1) dX0_isWell_0 rfl ?_
  refine x_lk2 (k1 := 1) (k2 := 2) (p0 := 52) (p1 := 28) (p2 := 38) dX0_isWell_1 (by decide) (by decide) (by decide) rfl rfl rfl (fun h1 => ?_) (fun h1 => ?_) (fun h1_1 h1_2 => ?_)
  · skip
    refine x_iload1 (pc2 := 29) dX0_isWell_28 rfl ?_
    refine x_if_eq (pc2 := 32) (pc3 := 36) dX0_isWell_29 rfl rfl (fun h29 => ?_) (fun h29 => ?_)
    · skip
      refine x_iconst (v := 0) (pc2 := 37) dX0_isWell_36 rfl (by decide) ?_
      refine x_zret dX0_isWell_37 rfl (by first | exact z_b01 _ | exact Or.inl rfl | exact Or.inr rfl) ?_
      exact ⟨by simp_all [z_b], rfl⟩
    · skip
      refine x_iconst (v := 1) (pc2 := 33) dX0_isWell_32 rfl (by decide) ?_
      refine x_goto (pc2 := 37) dX0_isWell_33 rfl ?_
      refine x_zret dX0_isWell_37 rfl (by first | exact z_b01 _ | exact Or.inl rfl | exact Or.inr rfl) ?_
      exact ⟨by simp_all [z_b], rfl⟩
  · skip
    refine x_iload1 (pc2 := 39) dX0_isWell_38 rfl ?_
    refine x_if_eq (pc2 := 42) (pc3 := 50) dX0_isWell_39 rfl rfl (fun h39 => ?_) (fun h39 => ?_)
    · skip
      refine x_iconst (v := 0) (pc2 := 51) dX0_isWell_50 rfl (by decide) ?_
      refine x_zret dX0_isWell_51 rfl (by first | exact z_b01 _ | exact Or.inl rfl | exact Or.inr rfl) ?_
      exact ⟨by simp_all [z_b], rfl⟩
    · skip
      refine x_iload2 (pc2 := 43) dX0_isWell_42 rfl ?_
      refine x_if_ne (pc2 := 46) (pc3 := 50) dX0_isWell_43 rfl rfl (fun h43 => ?_) (fun h43 => ?_)
      · skip
        refine x_iconst (v := 0) (pc2 := 51) dX0_isWell_50 rfl (by decide) ?_
        refine x_zret dX0_isWell_51 rfl (by first | exact z_b01 _ | exact Or.inl rfl | exact Or.inr rfl) ?_
        exact ⟨by simp_all [z_b], rfl⟩
      · skip
        refine x_iconst (v := 1) (pc2 := 47) dX0_isWell_46 rfl (by decide) ?_
        refine x_goto (pc2 := 51) dX0_isWell_47 rfl ?_
        refine x_zret dX0_isWell_51 rfl (by first | exact z_b01 _ | exact Or.inl rfl | exact Or.inr rfl) ?_
        exact ⟨by simp_all [z_b], rfl⟩
  · skip
    refine x_iconst (v := 1) (pc2 := 53) dX0_isWell_52 rfl (by decide) ?_
    refine x_zret dX0_isWell_53 rfl (by first | exact z_b01 _ | exact Or.inl rfl | exact Or.inr rfl) ?_
    exact ⟨by simp_all [z_b], rfl⟩
def z_rains (from_ minute : Int32) : Bool := !decide (from_ = -9) && !decide (minute < from_)
theorem s_rainsIn (d : Nat) (σ : zS) {r : Nat} (hr : z_isP r) (k : Int32) : z_Fn mX0_rainsIn d [.ref r, .int k] σ (.int (z_b (z_rains (σ.1 r 1) k))) σ := by
  refine x_enter (by decide) (Nat.le_of_ble_eq_true rfl) ?_
  show z_At _ _ _ [.ref r, .int k] _ _ _
  unfold z_rains
  refine x_aload0 (pc2 := 1) dX0_rainsIn_0 rfl ?_
  refine x_getI (pc2 := 4) fX0_9 (sh_P hr) rfl dX0_rainsIn_1 rfl ?_
  refine x_bipush (v := -9) (pc2 := 6) dX0_rainsIn_4 rfl (by decide) ?_
  refine x_icmp_eq (pc2 := 9) (pc3 := 21) dX0_rainsIn_6 rfl rfl (fun h6 => ?_) (fun h6 => ?_)
  · skip
    refine x_iconst (v := 0) (pc2 := 22) dX0_rainsIn_21 rfl (by decide) ?_
    refine x_zret dX0_rainsIn_22 rfl (by first | exact z_b01 _ | exact Or.inl rfl | exact Or.inr rfl) ?_
    exact ⟨by simp [z_b, *], rfl⟩
  · skip
    refine x_iload1 (pc2 := 10) dX0_rainsIn_9 rfl ?_
    refine x_aload0 (pc2 := 11) dX0_rainsIn_10 rfl ?_
    refine x_getI (pc2 := 14) fX0_9 (sh_P hr) rfl dX0_rainsIn_11 rfl ?_
    refine x_icmp_lt (pc2 := 17) (pc3 := 21) dX0_rainsIn_14 rfl rfl (fun h14 => ?_) (fun h14 => ?_)
    · skip
      refine x_iconst (v := 0) (pc2 := 22) dX0_rainsIn_21 rfl (by decide) ?_
      refine x_zret dX0_rainsIn_22 rfl (by first | exact z_b01 _ | exact Or.inl rfl | exact Or.inr rfl) ?_
      exact ⟨by simp [z_b, *], rfl⟩
    · skip
      refine x_iconst (v := 1) (pc2 := 18) dX0_rainsIn_17 rfl (by decide) ?_
      refine x_goto (pc2 := 22) dX0_rainsIn_18 rfl ?_
      refine x_zret dX0_rainsIn_22 rfl (by first | exact z_b01 _ | exact Or.inl rfl | exact Or.inr rfl) ?_
      exact ⟨by simp [z_b, *], rfl⟩
def z_mud (boarded mud wet : Int32) : Int32 := if boarded = 0 then (if wet = 0 then mud else 2 * mud) else 0
theorem s_mudUnder (d : Nat) (σ : zS) {r : Nat} (hr : z_isP r) (k w : Int32) (hin : vp_in k 3) : z_Fn mX0_mudUnder d [.ref r, .int k, .int w] σ (.int (z_mud (σ.1 (r + 3) k.toNatClampNeg) (σ.1 (r + 2) k.toNatClampNeg) w)) σ := by
  refine x_enter (by decide) (Nat.le_of_ble_eq_true rfl) ?_
  show z_At _ _ _ [.ref r, .int k, .int w] _ _ _
  unfold z_mud
  refine x_aload0 (pc2 := 1) dX0_mudUnder_0 rfl ?_
  refine x_getR (pc2 := 4) fX0_22 (sh_P hr) rfl dX0_mudUnder_1 rfl ?_
  refine x_iload1 (pc2 := 5) dX0_mudUnder_4 rfl ?_
  refine x_zald (pc2 := 6) (sh_P3 hr) (by exact hin) dX0_mudUnder_5 rfl ?_
  refine x_if_eq (pc2 := 9) (pc3 := 11) dX0_mudUnder_6 rfl rfl (fun h6 => ?_) (fun h6 => ?_)
  · skip
    refine x_iload2 (pc2 := 12) dX0_mudUnder_11 rfl ?_
    refine x_if_eq (pc2 := 15) (pc3 := 26) dX0_mudUnder_12 rfl rfl (fun h12 => ?_) (fun h12 => ?_)
    · skip
      refine x_aload0 (pc2 := 27) dX0_mudUnder_26 rfl ?_
      refine x_getR (pc2 := 30) fX0_19 (sh_P hr) rfl dX0_mudUnder_27 rfl ?_
      refine x_iload1 (pc2 := 31) dX0_mudUnder_30 rfl ?_
      refine x_iald (pc2 := 32) (sh_P2 hr) (by exact hin) dX0_mudUnder_31 rfl ?_
      refine x_iret dX0_mudUnder_32 rfl ?_
      exact ⟨by simp [z_b, *], rfl⟩
    · skip
      refine x_iconst (v := 2) (pc2 := 16) dX0_mudUnder_15 rfl (by decide) ?_
      refine x_aload0 (pc2 := 17) dX0_mudUnder_16 rfl ?_
      refine x_getR (pc2 := 20) fX0_19 (sh_P hr) rfl dX0_mudUnder_17 rfl ?_
      refine x_iload1 (pc2 := 21) dX0_mudUnder_20 rfl ?_
      refine x_iald (pc2 := 22) (sh_P2 hr) (by exact hin) dX0_mudUnder_21 rfl ?_
      refine x_imul (pc2 := 23) dX0_mudUnder_22 rfl ?_
      refine x_goto (pc2 := 32) dX0_mudUnder_23 rfl ?_
      refine x_iret dX0_mudUnder_32 rfl ?_
      exact ⟨by simp [z_b, *], rfl⟩
  · skip
    refine x_iconst (v := 0) (pc2 := 10) dX0_mudUnder_9 rfl (by decide) ?_
    refine x_iret dX0_mudUnder_10 rfl ?_
    exact ⟨by simp [z_b, *], rfl⟩
theorem s_minutesOver (d : Nat) (σ : zS) {r : Nat} (hr : z_isP r) (k ld w : Int32) (hin : vp_in k 3) : z_Fn mX0_minutesOver (d + 1) [.ref r, .int k, .int ld, .int w] σ (.int (if ld = 0 then σ.1 (r + 1) k.toNatClampNeg else σ.1 (r + 1) k.toNatClampNeg + z_mud (σ.1 (r + 3) k.toNatClampNeg) (σ.1 (r + 2) k.toNatClampNeg) w + ld / 3)) σ := by
  refine x_enter (by decide) (Nat.le_of_ble_eq_true rfl) ?_
  show z_At _ _ _ [.ref r, .int k, .int ld, .int w] _ _ _
  refine x_iload2 (pc2 := 1) dX0_minutesOver_0 rfl ?_
  refine x_if_ne (pc2 := 4) (pc3 := 11) dX0_minutesOver_1 rfl rfl (fun h1 => ?_) (fun h1 => ?_)
  · skip
    refine x_aload0 (pc2 := 12) dX0_minutesOver_11 rfl ?_
    refine x_getR (pc2 := 15) fX0_15 (sh_P hr) rfl dX0_minutesOver_12 rfl ?_
    refine x_iload1 (pc2 := 16) dX0_minutesOver_15 rfl ?_
    refine x_iald (pc2 := 17) (sh_P1 hr) (by exact hin) dX0_minutesOver_16 rfl ?_
    refine x_aload0 (pc2 := 18) dX0_minutesOver_17 rfl ?_
    refine x_iload1 (pc2 := 19) dX0_minutesOver_18 rfl ?_
    refine x_iload3 (pc2 := 20) dX0_minutesOver_19 rfl ?_
    refine x_fV2 (pc2 := 23) eX0_mudUnder kX0_82 (sh_P hr) rfl (Nat.le_of_ble_eq_true rfl) dX0_minutesOver_20 rfl (s_mudUnder _ _ hr _ _ hin) ?_
    refine x_iadd (pc2 := 24) dX0_minutesOver_23 rfl ?_
    refine x_iload2 (pc2 := 25) dX0_minutesOver_24 rfl ?_
    refine x_iconst (v := 3) (pc2 := 26) dX0_minutesOver_25 rfl (by decide) ?_
    refine x_idiv (pc2 := 27) dX0_minutesOver_26 rfl (by decide) ?_
    refine x_iadd (pc2 := 28) dX0_minutesOver_27 rfl ?_
    refine x_iret dX0_minutesOver_28 rfl ?_
    exact ⟨by simp [z_b, *], rfl⟩
  · skip
    refine x_aload0 (pc2 := 5) dX0_minutesOver_4 rfl ?_
    refine x_getR (pc2 := 8) fX0_15 (sh_P hr) rfl dX0_minutesOver_5 rfl ?_
    refine x_iload1 (pc2 := 9) dX0_minutesOver_8 rfl ?_
    refine x_iald (pc2 := 10) (sh_P1 hr) (by exact hin) dX0_minutesOver_9 rfl ?_
    refine x_iret dX0_minutesOver_10 rfl ?_
    exact ⟨by simp [z_b, *], rfl⟩
end
section
/-! PortageTrips$Portage: loops that only read -/
theorem z_in {t n : Nat} (h : t < n) (hn : n < 2 ^ 31 := by decide) : vp_in (nI t) n := nI_in h hn
def z_ld (P : Nat → Int32) (set : Int32) : Nat → Int32
  | 0 => 0
  | n + 1 => if z_bit set (nI n) then z_ld P set n + P n else z_ld P set n
theorem s_load (d : Nat) (σ : zS) {r : Nat} (hr : z_isP r) (set : Int32) {K : Nat} (hK : σ.1 r 6 = nI K) (hK4 : K ≤ 4) : z_Fn mX0_load (d + 1) [.ref r, .int set] σ (.int (z_ld (σ.1 (r + 5)) set K)) σ := by
  refine x_enter (by decide) (Nat.le_of_ble_eq_true rfl) ?_
  show z_At _ _ _ [.ref r, .int set, .null, .null] _ _ _
  refine x_iconst (v := 0) (pc2 := 1) dX0_load_0 rfl (by decide) ?_
  refine x_istore2 (pc2 := 2) dX0_load_1 rfl rfl ?_
  refine x_iconst (v := 0) (pc2 := 3) dX0_load_2 rfl (by decide) ?_
  refine x_istore3 (pc2 := 4) dX0_load_3 rfl rfl ?_
  suffices h : ∀ n t, t + n = K → z_At mX0_load (d + 1) 4 [.ref r, .int set, .int (z_ld (σ.1 (r + 5)) set t), .int (nI t)] [] σ (fun rv σ' => rv = some (.int (z_ld (σ.1 (r + 5)) set K)) ∧ σ' = σ) from h K 0 (by omega)
  intro n
  induction n with
  | zero =>
    intro t ht
    refine x_iload3 (pc2 := 5) dX0_load_4 rfl ?_
    refine x_aload0 (pc2 := 6) dX0_load_5 rfl ?_
    refine x_getI (pc2 := 9) fX0_39 (sh_P hr) rfl dX0_load_6 rfl ?_
    refine x_icmp_ge (pc2 := 12) (pc3 := 35) dX0_load_9 rfl rfl (fun h9 => ?_) (fun h9 => ?_)
    · skip
      refine x_iload2 (pc2 := 36) dX0_load_35 rfl ?_
      refine x_iret dX0_load_36 rfl ?_
      obtain rfl : t = K := by omega
      exact ⟨rfl, rfl⟩
    · exact absurd (by rw [hK, show t = K by omega]; exact Int32.le_refl _) h9
  | succ n ih =>
    intro t ht
    refine x_iload3 (pc2 := 5) dX0_load_4 rfl ?_
    refine x_aload0 (pc2 := 6) dX0_load_5 rfl ?_
    refine x_getI (pc2 := 9) fX0_39 (sh_P hr) rfl dX0_load_6 rfl ?_
    refine x_icmp_ge (pc2 := 12) (pc3 := 35) dX0_load_9 rfl rfl (fun h9 => ?_) (fun h9 => ?_)
    · rw [hK] at h9
      exact absurd h9 (nI_ge (by omega) (by omega))
    · skip
      refine x_iload1 (pc2 := 13) dX0_load_12 rfl ?_
      refine x_iload3 (pc2 := 14) dX0_load_13 rfl ?_
      refine x_fS2 (pc2 := 17) eX0_isIn kX0_74 (Nat.le_of_ble_eq_true rfl) dX0_load_14 rfl (s_isIn _ _ _ _) ?_
      refine x_if_eq (pc2 := 20) (pc3 := 29) dX0_load_17 rfl rfl (fun h17 => ?_) (fun h17 => ?_)
      · rw [z_b0] at h17
        refine x_iinc3 (pc2 := 32) dX0_load_29 rfl (z_inc1 _) rfl ?_
        refine x_goto (pc2 := 4) dX0_load_32 rfl ?_
        rw [← nI_succ]
        have := ih (t + 1) (by omega)
        rw [z_ld, h17] at this
        exact this
      · rw [z_bn0] at h17
        refine x_iload2 (pc2 := 21) dX0_load_20 rfl ?_
        refine x_aload0 (pc2 := 22) dX0_load_21 rfl ?_
        refine x_getR (pc2 := 25) fX0_29 (sh_P hr) rfl dX0_load_22 rfl ?_
        refine x_iload3 (pc2 := 26) dX0_load_25 rfl ?_
        refine x_iald (pc2 := 27) (sh_P5 hr) (by exact z_in (by omega)) dX0_load_26 rfl ?_
        refine x_iadd (pc2 := 28) dX0_load_27 rfl ?_
        refine x_istore2 (pc2 := 29) dX0_load_28 rfl rfl ?_
        refine x_iinc3 (pc2 := 32) dX0_load_29 rfl (z_inc1 _) rfl ?_
        refine x_goto (pc2 := 4) dX0_load_32 rfl ?_
        rw [← nI_succ, nI_clamp (by omega)]
        have := ih (t + 1) (by omega)
        rw [z_ld, h17] at this
        exact this
def z_food (kinds : Nat → Int32) : Nat → Int32
  | 0 => 0
  | n + 1 => if kinds n = 1 then z_food kinds n ||| ((1 : Int32) <<< (nI n &&& 31)) else z_food kinds n
theorem s_foodOnes (d : Nat) (σ : zS) {r : Nat} (hr : z_isP r) {K : Nat} (hK : σ.1 r 6 = nI K) (hK4 : K ≤ 4) : z_Fn mX0_foodOnes d [.ref r] σ (.int (z_food (σ.1 (r + 4)) K)) σ := by
  refine x_enter (by decide) (Nat.le_of_ble_eq_true rfl) ?_
  show z_At _ _ _ [.ref r, .null, .null] _ _ _
  refine x_iconst (v := 0) (pc2 := 1) dX0_foodOnes_0 rfl (by decide) ?_
  refine x_istore1 (pc2 := 2) dX0_foodOnes_1 rfl rfl ?_
  refine x_iconst (v := 0) (pc2 := 3) dX0_foodOnes_2 rfl (by decide) ?_
  refine x_istore2 (pc2 := 4) dX0_foodOnes_3 rfl rfl ?_
  suffices h : ∀ n t, t + n = K → z_At mX0_foodOnes d 4 [.ref r, .int (z_food (σ.1 (r + 4)) t), .int (nI t)] [] σ (fun rv σ' => rv = some (.int (z_food (σ.1 (r + 4)) K)) ∧ σ' = σ) from h K 0 (by omega)
  intro n
  induction n with
  | zero =>
    intro t ht
    refine x_iload2 (pc2 := 5) dX0_foodOnes_4 rfl ?_
    refine x_aload0 (pc2 := 6) dX0_foodOnes_5 rfl ?_
    refine x_getI (pc2 := 9) fX0_39 (sh_P hr) rfl dX0_foodOnes_6 rfl ?_
    refine x_icmp_ge (pc2 := 12) (pc3 := 34) dX0_foodOnes_9 rfl rfl (fun h9 => ?_) (fun h9 => ?_)
    · skip
      refine x_iload1 (pc2 := 35) dX0_foodOnes_34 rfl ?_
      refine x_iret dX0_foodOnes_35 rfl ?_
      obtain rfl : t = K := by omega
      exact ⟨rfl, rfl⟩
    · exact absurd (by rw [hK, show t = K by omega]; exact Int32.le_refl _) h9
  | succ n ih =>
    intro t ht
    refine x_iload2 (pc2 := 5) dX0_foodOnes_4 rfl ?_
    refine x_aload0 (pc2 := 6) dX0_foodOnes_5 rfl ?_
    refine x_getI (pc2 := 9) fX0_39 (sh_P hr) rfl dX0_foodOnes_6 rfl ?_
    refine x_icmp_ge (pc2 := 12) (pc3 := 34) dX0_foodOnes_9 rfl rfl (fun h9 => ?_) (fun h9 => ?_)
    · rw [hK] at h9
      exact absurd h9 (nI_ge (by omega) (by omega))
    · skip
      refine x_aload0 (pc2 := 13) dX0_foodOnes_12 rfl ?_
      refine x_getR (pc2 := 16) fX0_26 (sh_P hr) rfl dX0_foodOnes_13 rfl ?_
      refine x_iload2 (pc2 := 17) dX0_foodOnes_16 rfl ?_
      refine x_iald (pc2 := 18) (sh_P4 hr) (by exact z_in (by omega)) dX0_foodOnes_17 rfl ?_
      refine x_iconst (v := 1) (pc2 := 19) dX0_foodOnes_18 rfl (by decide) ?_
      refine x_icmp_ne (pc2 := 22) (pc3 := 28) dX0_foodOnes_19 rfl rfl (fun h19 => ?_) (fun h19 => ?_)
      · rw [nI_clamp (by omega)] at h19
        refine x_iinc2 (pc2 := 31) dX0_foodOnes_28 rfl (z_inc1 _) rfl ?_
        refine x_goto (pc2 := 4) dX0_foodOnes_31 rfl ?_
        rw [← nI_succ]
        have := ih (t + 1) (by omega)
        rw [z_food, if_neg h19] at this
        exact this
      · rw [nI_clamp (by omega)] at h19
        refine x_iload1 (pc2 := 23) dX0_foodOnes_22 rfl ?_
        refine x_iconst (v := 1) (pc2 := 24) dX0_foodOnes_23 rfl (by decide) ?_
        refine x_iload2 (pc2 := 25) dX0_foodOnes_24 rfl ?_
        refine x_ishl (pc2 := 26) dX0_foodOnes_25 rfl ?_
        refine x_ior (pc2 := 27) dX0_foodOnes_26 rfl ?_
        refine x_istore1 (pc2 := 28) dX0_foodOnes_27 rfl rfl ?_
        refine x_iinc2 (pc2 := 31) dX0_foodOnes_28 rfl (z_inc1 _) rfl ?_
        refine x_goto (pc2 := 4) dX0_foodOnes_31 rfl ?_
        rw [← nI_succ]
        have := ih (t + 1) (by omega)
        rw [z_food, if_pos h19] at this
        exact this
/-- those of a set that are well without him: food, and one thing after the other -/
def z_wo (kinds : Nat → Int32) (set food : Int32) : Nat → Int32
  | 0 => 0
  | n + 1 => if z_bit set (nI n) && z_well (kinds n) (set &&& (((1 : Int32) <<< (nI n &&& 31)) ^^^ (-1))) food then z_wo kinds set food n ||| ((1 : Int32) <<< (nI n &&& 31)) else z_wo kinds set food n
theorem s_wellOnes (d : Nat) (σ : zS) {r : Nat} (hr : z_isP r) (set : Int32) {K : Nat} (hK : σ.1 r 6 = nI K) (hK4 : K ≤ 4) : z_Fn mX0_wellOnes (d + 1) [.ref r, .int set] σ (.int (z_wo (σ.1 (r + 4)) set (set &&& z_food (σ.1 (r + 4)) K) K)) σ := by
  refine x_enter (by decide) (Nat.le_of_ble_eq_true rfl) ?_
  show z_At _ _ _ [.ref r, .int set, .null, .null, .null, .null] _ _ _
  refine x_iload1 (pc2 := 1) dX0_wellOnes_0 rfl ?_
  refine x_aload0 (pc2 := 2) dX0_wellOnes_1 rfl ?_
  refine x_fV0 (pc2 := 5) eX0_foodOnes kX0_70 (sh_P hr) rfl (Nat.le_of_ble_eq_true rfl) dX0_wellOnes_2 rfl (s_foodOnes _ _ hr hK hK4) ?_
  refine x_iand (pc2 := 6) dX0_wellOnes_5 rfl ?_
  refine x_istore2 (pc2 := 7) dX0_wellOnes_6 rfl rfl ?_
  refine x_iconst (v := 0) (pc2 := 8) dX0_wellOnes_7 rfl (by decide) ?_
  refine x_istore3 (pc2 := 9) dX0_wellOnes_8 rfl rfl ?_
  refine x_iconst (v := 0) (pc2 := 10) dX0_wellOnes_9 rfl (by decide) ?_
  refine x_istore4 (pc2 := 12) dX0_wellOnes_10 rfl rfl ?_
  generalize hfd : set &&& z_food (σ.1 (r + 4)) K = food
  suffices h : ∀ n t, t + n = K → ∀ o : Value, z_At mX0_wellOnes (d + 1) 12 [.ref r, .int set, .int food, .int (z_wo (σ.1 (r + 4)) set food t), .int (nI t), o] [] σ (fun rv σ' => rv = some (.int (z_wo (σ.1 (r + 4)) set food K)) ∧ σ' = σ) from h K 0 (by omega) _
  intro n
  induction n with
  | zero =>
    intro t ht o
    refine x_iload4 (pc2 := 14) dX0_wellOnes_12 rfl ?_
    refine x_aload0 (pc2 := 15) dX0_wellOnes_14 rfl ?_
    refine x_getI (pc2 := 18) fX0_39 (sh_P hr) rfl dX0_wellOnes_15 rfl ?_
    refine x_icmp_ge (pc2 := 21) (pc3 := 69) dX0_wellOnes_18 rfl rfl (fun h18 => ?_) (fun h18 => ?_)
    · skip
      refine x_iload3 (pc2 := 70) dX0_wellOnes_69 rfl ?_
      refine x_iret dX0_wellOnes_70 rfl ?_
      obtain rfl : t = K := by omega
      exact ⟨rfl, rfl⟩
    · exact absurd (by rw [hK, show t = K by omega]; exact Int32.le_refl _) h18
  | succ n ih =>
    intro t ht o
    refine x_iload4 (pc2 := 14) dX0_wellOnes_12 rfl ?_
    refine x_aload0 (pc2 := 15) dX0_wellOnes_14 rfl ?_
    refine x_getI (pc2 := 18) fX0_39 (sh_P hr) rfl dX0_wellOnes_15 rfl ?_
    refine x_icmp_ge (pc2 := 21) (pc3 := 69) dX0_wellOnes_18 rfl rfl (fun h18 => ?_) (fun h18 => ?_)
    · rw [hK] at h18
      exact absurd h18 (nI_ge (by omega) (by omega))
    · skip
      refine x_iload1 (pc2 := 22) dX0_wellOnes_21 rfl ?_
      refine x_iconst (v := 1) (pc2 := 23) dX0_wellOnes_22 rfl (by decide) ?_
      refine x_iload4 (pc2 := 25) dX0_wellOnes_23 rfl ?_
      refine x_ishl (pc2 := 26) dX0_wellOnes_25 rfl ?_
      refine x_iconst (v := -1) (pc2 := 27) dX0_wellOnes_26 rfl (by decide) ?_
      refine x_ixor (pc2 := 28) dX0_wellOnes_27 rfl ?_
      refine x_iand (pc2 := 29) dX0_wellOnes_28 rfl ?_
      refine x_istore5 (pc2 := 31) dX0_wellOnes_29 rfl rfl ?_
      refine x_iload1 (pc2 := 32) dX0_wellOnes_31 rfl ?_
      refine x_iload4 (pc2 := 34) dX0_wellOnes_32 rfl ?_
      refine x_fS2 (pc2 := 37) eX0_isIn kX0_74 (Nat.le_of_ble_eq_true rfl) dX0_wellOnes_34 rfl (s_isIn _ _ _ _) ?_
      refine x_if_eq (pc2 := 40) (pc3 := 63) dX0_wellOnes_37 rfl rfl (fun h37 => ?_) (fun h37 => ?_)
      · rw [z_b0] at h37
        refine x_iinc4 (pc2 := 66) dX0_wellOnes_63 rfl (z_inc1 _) rfl ?_
        refine x_goto (pc2 := 12) dX0_wellOnes_66 rfl ?_
        rw [← nI_succ]
        have := ih (t + 1) (by omega)
        rw [z_wo, h37, Bool.false_and, if_neg (by decide)] at this
        exact this _
      · rw [z_bn0] at h37
        refine x_aload0 (pc2 := 41) dX0_wellOnes_40 rfl ?_
        refine x_getR (pc2 := 44) fX0_26 (sh_P hr) rfl dX0_wellOnes_41 rfl ?_
        refine x_iload4 (pc2 := 46) dX0_wellOnes_44 rfl ?_
        refine x_iald (pc2 := 47) (sh_P4 hr) (by exact z_in (by omega)) dX0_wellOnes_46 rfl ?_
        refine x_iload5 (pc2 := 49) dX0_wellOnes_47 rfl ?_
        refine x_iload2 (pc2 := 50) dX0_wellOnes_49 rfl ?_
        refine x_fS3 (pc2 := 53) eX0_isWell kX0_78 (Nat.le_of_ble_eq_true rfl) dX0_wellOnes_50 rfl (s_isWell _ _ _ _ _) ?_
        refine x_if_eq (pc2 := 56) (pc3 := 63) dX0_wellOnes_53 rfl rfl (fun h53 => ?_) (fun h53 => ?_)
        · rw [z_b0, nI_clamp (by omega)] at h53
          refine x_iinc4 (pc2 := 66) dX0_wellOnes_63 rfl (z_inc1 _) rfl ?_
          refine x_goto (pc2 := 12) dX0_wellOnes_66 rfl ?_
          rw [← nI_succ]
          have := ih (t + 1) (by omega)
          rw [z_wo, h53, Bool.and_false, if_neg (by decide)] at this
          exact this _
        · rw [z_bn0, nI_clamp (by omega)] at h53
          refine x_iload3 (pc2 := 57) dX0_wellOnes_56 rfl ?_
          refine x_iconst (v := 1) (pc2 := 58) dX0_wellOnes_57 rfl (by decide) ?_
          refine x_iload4 (pc2 := 60) dX0_wellOnes_58 rfl ?_
          refine x_ishl (pc2 := 61) dX0_wellOnes_60 rfl ?_
          refine x_ior (pc2 := 62) dX0_wellOnes_61 rfl ?_
          refine x_istore3 (pc2 := 63) dX0_wellOnes_62 rfl rfl ?_
          refine x_iinc4 (pc2 := 66) dX0_wellOnes_63 rfl (z_inc1 _) rfl ?_
          refine x_goto (pc2 := 12) dX0_wellOnes_66 rfl ?_
          rw [← nI_succ]
          have := ih (t + 1) (by omega)
          rw [z_wo, h53, h37, Bool.and_self, if_pos rfl] at this
          exact this _
end
section
/-! Arrays.fill, PortageTrips$Sheet -/
def z_fill (σ : zS) (a n : Nat) (v : Int32) : zS := (z_up σ.1 a (fun j => if j < n then v else σ.1 a j), σ.2)
theorem z_fill_0 (σ : zS) (a : Nat) (v : Int32) : z_fill σ a 0 v = σ := by
  unfold z_fill z_up
  refine Prod.ext ?_ rfl
  funext q
  by_cases h : q = a
  · subst h; simp
  · simp [h]
theorem z_fill_s (σ : zS) (a n : Nat) (v : Int32) : z_st (z_fill σ a n v) a n v = z_fill σ a (n + 1) v := by
  unfold z_fill z_st z_up upd
  refine Prod.ext ?_ rfl
  funext q
  by_cases h : q = a
  · subst h
    simp only [if_true]
    funext j
    by_cases hj : j = n
    · simp [hj]
    · by_cases h2 : j < n
      · simp [hj, h2, Nat.lt_succ_of_lt h2]
      · have : ¬ j < n + 1 := by omega
        simp [hj, h2, this]
  · simp [h]
theorem s_fill (d : Nat) (σ : zS) {a n : Nat} {ks : List (Nat × Nat)} (hs : z_shp a = (1, n, ks)) (hn : n < 2 ^ 31) (v : Int32) : z_Pr mJ7_fill_53178 d [.ref a, .int v] σ (z_fill σ a n v) := by
  refine x_enter (by decide) (Nat.le_of_ble_eq_true rfl) ?_
  show z_At _ _ _ [.ref a, .int v, .null, .null] _ _ _
  refine x_iconst (v := 0) (pc2 := 1) dJ7_fill_53178_0 rfl (by decide) ?_
  refine x_istore2 (pc2 := 2) dJ7_fill_53178_1 rfl rfl ?_
  refine x_aload0 (pc2 := 3) dJ7_fill_53178_2 rfl ?_
  refine x_alen (pc2 := 4) hs dJ7_fill_53178_3 rfl ?_
  refine x_istore3 (pc2 := 5) dJ7_fill_53178_4 rfl rfl ?_
  suffices h : ∀ k t, t + k = n → z_At mJ7_fill_53178 d 5 [.ref a, .int v, .int (nI t), .int (nI n)] [] (z_fill σ a t v) (fun rv σ' => rv = none ∧ σ' = z_fill σ a n v) by
    have := h n 0 (by omega)
    rw [z_fill_0] at this
    exact this
  intro k
  induction k with
  | zero =>
    intro t ht
    refine x_iload2 (pc2 := 6) dJ7_fill_53178_5 rfl ?_
    refine x_iload3 (pc2 := 7) dJ7_fill_53178_6 rfl ?_
    refine x_icmp_ge (pc2 := 10) (pc3 := 20) dJ7_fill_53178_7 rfl rfl (fun h7 => ?_) (fun h7 => ?_)
    · skip
      refine x_vret dJ7_fill_53178_20 rfl ?_
      obtain rfl : t = n := by omega
      exact ⟨rfl, rfl⟩
    · exact absurd (by rw [show t = n by omega]; exact Int32.le_refl _) h7
  | succ k ih =>
    intro t ht
    refine x_iload2 (pc2 := 6) dJ7_fill_53178_5 rfl ?_
    refine x_iload3 (pc2 := 7) dJ7_fill_53178_6 rfl ?_
    refine x_icmp_ge (pc2 := 10) (pc3 := 20) dJ7_fill_53178_7 rfl rfl (fun h7 => ?_) (fun h7 => ?_)
    · exact absurd h7 (nI_ge (by omega) hn)
    · skip
      refine x_aload0 (pc2 := 11) dJ7_fill_53178_10 rfl ?_
      refine x_iload2 (pc2 := 12) dJ7_fill_53178_11 rfl ?_
      refine x_iload1 (pc2 := 13) dJ7_fill_53178_12 rfl ?_
      refine x_iast (pc2 := 14) hs (by exact z_in (by omega) hn) dJ7_fill_53178_13 rfl ?_
      refine x_iinc2 (pc2 := 17) dJ7_fill_53178_14 rfl (z_inc1 _) rfl ?_
      refine x_goto (pc2 := 5) dJ7_fill_53178_17 rfl ?_
      rw [← nI_succ, nI_clamp (by omega), z_fill_s]
      exact ih (t + 1) (by omega)
theorem s_isNothing (d : Nat) (σ : zS) {r : Nat} (hr : z_isS r) : z_Fn mX3_isNothing d [.ref r] σ (.int (z_b (decide (σ.1 r 0 = -9)))) σ := by
  refine x_enter (by decide) (Nat.le_of_ble_eq_true rfl) ?_
  show z_At _ _ _ [.ref r] _ _ _
  refine x_aload0 (pc2 := 1) dX3_isNothing_0 rfl ?_
  refine x_getI (pc2 := 4) fX3_9 (sh_S hr) rfl dX3_isNothing_1 rfl ?_
  refine x_bipush (v := -9) (pc2 := 6) dX3_isNothing_4 rfl (by decide) ?_
  refine x_icmp_ne (pc2 := 9) (pc3 := 13) dX3_isNothing_6 rfl rfl (fun h6 => ?_) (fun h6 => ?_)
  · skip
    refine x_iconst (v := 0) (pc2 := 14) dX3_isNothing_13 rfl (by decide) ?_
    refine x_zret dX3_isNothing_14 rfl (by first | exact z_b01 _ | exact Or.inl rfl | exact Or.inr rfl) ?_
    exact ⟨by first | (simp_all [z_b]; done) | (simp only [z_b0, z_bn0] at *; simp [*]; done) | (simp [z_b, *]; done), rfl⟩
  · skip
    refine x_iconst (v := 1) (pc2 := 10) dX3_isNothing_9 rfl (by decide) ?_
    refine x_goto (pc2 := 14) dX3_isNothing_10 rfl ?_
    refine x_zret dX3_isNothing_14 rfl (by first | exact z_b01 _ | exact Or.inl rfl | exact Or.inr rfl) ?_
    exact ⟨by first | (simp_all [z_b]; done) | (simp only [z_b0, z_bn0] at *; simp [*]; done) | (simp [z_b, *]; done), rfl⟩
def z_fa (lane want : Int32) : Int32 := if lane = -9 then 1 else if lane = want then 0 else 2
theorem s_faultAs (d : Nat) (σ : zS) {r : Nat} (hr : z_isS r) (w : Int32) : z_Fn mX3_faultAs (d + 1) [.ref r, .int w] σ (.int (z_fa (σ.1 r 0) w)) σ := by
  refine x_enter (by decide) (Nat.le_of_ble_eq_true rfl) ?_
  show z_At _ _ _ [.ref r, .int w] _ _ _
  unfold z_fa
  refine x_aload0 (pc2 := 1) dX3_faultAs_0 rfl ?_
  refine x_fV0 (pc2 := 4) eX3_isNothing kX3_28 (sh_S hr) rfl (Nat.le_of_ble_eq_true rfl) dX3_faultAs_1 rfl (s_isNothing _ _ hr) ?_
  refine x_if_eq (pc2 := 7) (pc3 := 9) dX3_faultAs_4 rfl rfl (fun h4 => ?_) (fun h4 => ?_)
  · skip
    refine x_aload0 (pc2 := 10) dX3_faultAs_9 rfl ?_
    refine x_getI (pc2 := 13) fX3_9 (sh_S hr) rfl dX3_faultAs_10 rfl ?_
    refine x_iload1 (pc2 := 14) dX3_faultAs_13 rfl ?_
    refine x_icmp_ne (pc2 := 17) (pc3 := 21) dX3_faultAs_14 rfl rfl (fun h14 => ?_) (fun h14 => ?_)
    · skip
      refine x_iconst (v := 2) (pc2 := 22) dX3_faultAs_21 rfl (by decide) ?_
      refine x_iret dX3_faultAs_22 rfl ?_
      exact ⟨by first | (simp_all [z_b]; done) | (simp only [z_b0, z_bn0] at *; simp [*]; done) | (simp [z_b, *]; done), rfl⟩
    · skip
      refine x_iconst (v := 0) (pc2 := 18) dX3_faultAs_17 rfl (by decide) ?_
      refine x_goto (pc2 := 22) dX3_faultAs_18 rfl ?_
      refine x_iret dX3_faultAs_22 rfl ?_
      exact ⟨by first | (simp_all [z_b]; done) | (simp only [z_b0, z_bn0] at *; simp [*]; done) | (simp [z_b, *]; done), rfl⟩
  · skip
    refine x_iconst (v := 1) (pc2 := 8) dX3_faultAs_7 rfl (by decide) ?_
    refine x_iret dX3_faultAs_8 rfl ?_
    exact ⟨by first | (simp_all [z_b]; done) | (simp only [z_b0, z_bn0] at *; simp [*]; done) | (simp [z_b, *]; done), rfl⟩
theorem s_hasCell (d : Nat) (σ : zS) {r : Nat} (hr : z_isS r) (k : Int32) : z_Fn mX3_hasCell d [.ref r, .int k] σ (.int (z_b (z_rng k (σ.1 r 1)))) σ := by
  refine x_enter (by decide) (Nat.le_of_ble_eq_true rfl) ?_
  show z_At _ _ _ [.ref r, .int k] _ _ _
  unfold z_rng
  refine x_iload1 (pc2 := 1) dX3_hasCell_0 rfl ?_
  refine x_if_lt (pc2 := 4) (pc3 := 16) dX3_hasCell_1 rfl rfl (fun h1 => ?_) (fun h1 => ?_)
  · skip
    refine x_iconst (v := 0) (pc2 := 17) dX3_hasCell_16 rfl (by decide) ?_
    refine x_zret dX3_hasCell_17 rfl (by first | exact z_b01 _ | exact Or.inl rfl | exact Or.inr rfl) ?_
    exact ⟨by first | (simp_all [z_b]; done) | (simp only [z_b0, z_bn0] at *; simp [*]; done) | (simp [z_b, *]; done), rfl⟩
  · skip
    refine x_iload1 (pc2 := 5) dX3_hasCell_4 rfl ?_
    refine x_aload0 (pc2 := 6) dX3_hasCell_5 rfl ?_
    refine x_getI (pc2 := 9) fX3_19 (sh_S hr) rfl dX3_hasCell_6 rfl ?_
    refine x_icmp_ge (pc2 := 12) (pc3 := 16) dX3_hasCell_9 rfl rfl (fun h9 => ?_) (fun h9 => ?_)
    · skip
      refine x_iconst (v := 0) (pc2 := 17) dX3_hasCell_16 rfl (by decide) ?_
      refine x_zret dX3_hasCell_17 rfl (by first | exact z_b01 _ | exact Or.inl rfl | exact Or.inr rfl) ?_
      exact ⟨by first | (simp_all [z_b]; done) | (simp only [z_b0, z_bn0] at *; simp [*]; done) | (simp [z_b, *]; done), rfl⟩
    · skip
      refine x_iconst (v := 1) (pc2 := 13) dX3_hasCell_12 rfl (by decide) ?_
      refine x_goto (pc2 := 17) dX3_hasCell_13 rfl ?_
      refine x_zret dX3_hasCell_17 rfl (by first | exact z_b01 _ | exact Or.inl rfl | exact Or.inr rfl) ?_
      exact ⟨by first | (simp_all [z_b]; done) | (simp only [z_b0, z_bn0] at *; simp [*]; done) | (simp [z_b, *]; done), rfl⟩
def z_hc (i n size : Int32) : Bool := !decide (n < 0) && (!decide (i < 0) && (!decide (size < i) && !decide (size - i < n)))
theorem s_hasCells (d : Nat) (σ : zS) {r : Nat} (hr : z_isS r) (i n : Int32) : z_Fn mX3_hasCells d [.ref r, .int i, .int n] σ (.int (z_b (z_hc i n (σ.1 r 1)))) σ := by
  refine x_enter (by decide) (Nat.le_of_ble_eq_true rfl) ?_
  show z_At _ _ _ [.ref r, .int i, .int n] _ _ _
  unfold z_hc
  refine x_iload2 (pc2 := 1) dX3_hasCells_0 rfl ?_
  refine x_if_lt (pc2 := 4) (pc3 := 30) dX3_hasCells_1 rfl rfl (fun h1 => ?_) (fun h1 => ?_)
  · skip
    refine x_iconst (v := 0) (pc2 := 31) dX3_hasCells_30 rfl (by decide) ?_
    refine x_zret dX3_hasCells_31 rfl (by first | exact z_b01 _ | exact Or.inl rfl | exact Or.inr rfl) ?_
    exact ⟨by first | (simp_all [z_b]; done) | (simp only [z_b0, z_bn0] at *; simp [*]; done) | (simp [z_b, *]; done), rfl⟩
  · skip
    refine x_iload1 (pc2 := 5) dX3_hasCells_4 rfl ?_
    refine x_if_lt (pc2 := 8) (pc3 := 30) dX3_hasCells_5 rfl rfl (fun h5 => ?_) (fun h5 => ?_)
    · skip
      refine x_iconst (v := 0) (pc2 := 31) dX3_hasCells_30 rfl (by decide) ?_
      refine x_zret dX3_hasCells_31 rfl (by first | exact z_b01 _ | exact Or.inl rfl | exact Or.inr rfl) ?_
      exact ⟨by first | (simp_all [z_b]; done) | (simp only [z_b0, z_bn0] at *; simp [*]; done) | (simp [z_b, *]; done), rfl⟩
    · skip
      refine x_iload1 (pc2 := 9) dX3_hasCells_8 rfl ?_
      refine x_aload0 (pc2 := 10) dX3_hasCells_9 rfl ?_
      refine x_getI (pc2 := 13) fX3_19 (sh_S hr) rfl dX3_hasCells_10 rfl ?_
      refine x_icmp_gt (pc2 := 16) (pc3 := 30) dX3_hasCells_13 rfl rfl (fun h13 => ?_) (fun h13 => ?_)
      · skip
        refine x_iconst (v := 0) (pc2 := 31) dX3_hasCells_30 rfl (by decide) ?_
        refine x_zret dX3_hasCells_31 rfl (by first | exact z_b01 _ | exact Or.inl rfl | exact Or.inr rfl) ?_
        exact ⟨by first | (simp_all [z_b]; done) | (simp only [z_b0, z_bn0] at *; simp [*]; done) | (simp [z_b, *]; done), rfl⟩
      · skip
        refine x_iload2 (pc2 := 17) dX3_hasCells_16 rfl ?_
        refine x_aload0 (pc2 := 18) dX3_hasCells_17 rfl ?_
        refine x_getI (pc2 := 21) fX3_19 (sh_S hr) rfl dX3_hasCells_18 rfl ?_
        refine x_iload1 (pc2 := 22) dX3_hasCells_21 rfl ?_
        refine x_isub (pc2 := 23) dX3_hasCells_22 rfl ?_
        refine x_icmp_gt (pc2 := 26) (pc3 := 30) dX3_hasCells_23 rfl rfl (fun h23 => ?_) (fun h23 => ?_)
        · skip
          refine x_iconst (v := 0) (pc2 := 31) dX3_hasCells_30 rfl (by decide) ?_
          refine x_zret dX3_hasCells_31 rfl (by first | exact z_b01 _ | exact Or.inl rfl | exact Or.inr rfl) ?_
          exact ⟨by first | (simp_all [z_b]; done) | (simp only [z_b0, z_bn0] at *; simp [*]; done) | (simp [z_b, *]; done), rfl⟩
        · skip
          refine x_iconst (v := 1) (pc2 := 27) dX3_hasCells_26 rfl (by decide) ?_
          refine x_goto (pc2 := 31) dX3_hasCells_27 rfl ?_
          refine x_zret dX3_hasCells_31 rfl (by first | exact z_b01 _ | exact Or.inl rfl | exact Or.inr rfl) ?_
          exact ⟨by first | (simp_all [z_b]; done) | (simp only [z_b0, z_bn0] at *; simp [*]; done) | (simp [z_b, *]; done), rfl⟩
theorem s_renew (d : Nat) (σ : zS) {r : Nat} (hr : z_isS r) (l n : Int32) : z_Pr mX3_renew (d + 1) [.ref r, .int l, .int n] σ (z_fill (z_st (z_st σ r 0 l) r 1 n) (r + 4) 60 0) := by
  refine x_enter (by decide) (Nat.le_of_ble_eq_true rfl) ?_
  show z_At _ _ _ [.ref r, .int l, .int n] _ _ _
  refine x_aload0 (pc2 := 1) dX3_renew_0 rfl ?_
  refine x_iload1 (pc2 := 2) dX3_renew_1 rfl ?_
  refine x_putI (pc2 := 5) pX3_9 (sh_S hr) rfl dX3_renew_2 rfl ?_
  refine x_aload0 (pc2 := 6) dX3_renew_5 rfl ?_
  refine x_iload2 (pc2 := 7) dX3_renew_6 rfl ?_
  refine x_putI (pc2 := 10) pX3_19 (sh_S hr) rfl dX3_renew_7 rfl ?_
  refine x_aload0 (pc2 := 11) dX3_renew_10 rfl ?_
  refine x_getR (pc2 := 14) fX3_15 (sh_S hr) rfl dX3_renew_11 rfl ?_
  refine x_iconst (v := 0) (pc2 := 15) dX3_renew_14 rfl (by decide) ?_
  refine x_pS2 (pc2 := 18) eJ7_fill_53178 kX3_22 (Nat.le_of_ble_eq_true rfl) dX3_renew_15 rfl (s_fill _ _ (sh_S1 hr) (by decide) _) ?_
  refine x_vret dX3_renew_18 rfl ?_
  exact ⟨rfl, rfl⟩
def z_cut (lane v : Int32) : Int32 := if lane = 0 then v.toInt8.toInt32 else if lane = 1 then v.toInt16.toInt32 else v
theorem s_write (d : Nat) (σ : zS) {r : Nat} (hr : z_isS r) (i v : Int32) (hin : vp_in i 60) : z_Pr mX3_write d [.ref r, .int i, .int v] σ (z_st σ (r + 4) i.toNatClampNeg (z_cut (σ.1 r 0) v)) := by
  refine x_enter (by decide) (Nat.le_of_ble_eq_true rfl) ?_
  show z_At _ _ _ [.ref r, .int i, .int v] _ _ _
  unfold z_cut
  refine x_aload0 (pc2 := 1) dX3_write_0 rfl ?_
  refine x_getI (pc2 := 4) fX3_9 (sh_S hr) rfl dX3_write_1 rfl ?_
  refine x_if_ne (pc2 := 7) (pc3 := 18) dX3_write_4 rfl rfl (fun h4 => ?_) (fun h4 => ?_)
  · skip
    refine x_aload0 (pc2 := 19) dX3_write_18 rfl ?_
    refine x_getI (pc2 := 22) fX3_9 (sh_S hr) rfl dX3_write_19 rfl ?_
    refine x_iconst (v := 1) (pc2 := 23) dX3_write_22 rfl (by decide) ?_
    refine x_icmp_ne (pc2 := 26) (pc3 := 37) dX3_write_23 rfl rfl (fun h23 => ?_) (fun h23 => ?_)
    · skip
      refine x_aload0 (pc2 := 38) dX3_write_37 rfl ?_
      refine x_getR (pc2 := 41) fX3_15 (sh_S hr) rfl dX3_write_38 rfl ?_
      refine x_iload1 (pc2 := 42) dX3_write_41 rfl ?_
      refine x_iload2 (pc2 := 43) dX3_write_42 rfl ?_
      refine x_iast (pc2 := 44) (sh_S1 hr) (by exact hin) dX3_write_43 rfl ?_
      refine x_vret dX3_write_44 rfl ?_
      exact ⟨rfl, by simp [*]⟩
    · skip
      refine x_aload0 (pc2 := 27) dX3_write_26 rfl ?_
      refine x_getR (pc2 := 30) fX3_15 (sh_S hr) rfl dX3_write_27 rfl ?_
      refine x_iload1 (pc2 := 31) dX3_write_30 rfl ?_
      refine x_iload2 (pc2 := 32) dX3_write_31 rfl ?_
      refine x_i2s (pc2 := 33) dX3_write_32 rfl ?_
      refine x_iast (pc2 := 34) (sh_S1 hr) (by exact hin) dX3_write_33 rfl ?_
      refine x_goto (pc2 := 44) dX3_write_34 rfl ?_
      refine x_vret dX3_write_44 rfl ?_
      exact ⟨rfl, by simp [*]⟩
  · skip
    refine x_aload0 (pc2 := 8) dX3_write_7 rfl ?_
    refine x_getR (pc2 := 11) fX3_15 (sh_S hr) rfl dX3_write_8 rfl ?_
    refine x_iload1 (pc2 := 12) dX3_write_11 rfl ?_
    refine x_iload2 (pc2 := 13) dX3_write_12 rfl ?_
    refine x_i2b (pc2 := 14) dX3_write_13 rfl ?_
    refine x_iast (pc2 := 15) (sh_S1 hr) (by exact hin) dX3_write_14 rfl ?_
    refine x_goto (pc2 := 44) dX3_write_15 rfl ?_
    refine x_vret dX3_write_44 rfl ?_
    exact ⟨rfl, by simp [*]⟩
end
