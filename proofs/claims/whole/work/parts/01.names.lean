-- ===== PART A: goes FIRST, ahead of the names: the tables' words, and 'selects' of the private methods out of them =====
/-- a private method of a class that the tables say can be made, by its rows of tables_1 -/
def lw_okq (q : MethodName × Nat) : Prop := (q.1.cls ≠ "java/lang/invoke/MethodHandle" ∧ q.1.cls ≠ "java/lang/invoke/VarHandle") ∧ Cond.instantiable q.1.cls q.2 ∈ tables_1 ∧ Cond.privateMethod q.1 ∈ tables_1 ∧ Cond.instanceMethod q.1 ∈ tables_1
theorem lw_p0 : lw_okq (⟨"NearSeats", "refusalOfRow", "(IIII)I"⟩, 17) := ⟨⟨by decide +kernel, by decide +kernel⟩, List.mem_of_getElem? (i := 13) (by decide +kernel), List.mem_of_getElem? (i := 323) (by decide +kernel), List.mem_of_getElem? (i := 324) (by decide +kernel)⟩
theorem lw_p1 : lw_okq (⟨"NearSeats", "faulty", "(I)I"⟩, 17) := ⟨⟨by decide +kernel, by decide +kernel⟩, List.mem_of_getElem? (i := 13) (by decide +kernel), List.mem_of_getElem? (i := 333) (by decide +kernel), List.mem_of_getElem? (i := 334) (by decide +kernel)⟩
theorem lw_p2 : lw_okq (⟨"NearSeats$LandText", "begin", "([III)V"⟩, 11) := ⟨⟨by decide +kernel, by decide +kernel⟩, List.mem_of_getElem? (i := 90) (by decide +kernel), List.mem_of_getElem? (i := 345) (by decide +kernel), List.mem_of_getElem? (i := 346) (by decide +kernel)⟩
theorem lw_p3 : lw_okq (⟨"NearSeats$LandText", "readItem", "(I)V"⟩, 11) := ⟨⟨by decide +kernel, by decide +kernel⟩, List.mem_of_getElem? (i := 90) (by decide +kernel), List.mem_of_getElem? (i := 352) (by decide +kernel), List.mem_of_getElem? (i := 353) (by decide +kernel)⟩
theorem lw_p4 : lw_okq (⟨"NearSeats$LandText", "readKind", "(I)V"⟩, 11) := ⟨⟨by decide +kernel, by decide +kernel⟩, List.mem_of_getElem? (i := 90) (by decide +kernel), List.mem_of_getElem? (i := 356) (by decide +kernel), List.mem_of_getElem? (i := 357) (by decide +kernel)⟩
theorem lw_p5 : lw_okq (⟨"NearSeats$LandText", "codeHere", "()I"⟩, 11) := ⟨⟨by decide +kernel, by decide +kernel⟩, List.mem_of_getElem? (i := 90) (by decide +kernel), List.mem_of_getElem? (i := 360) (by decide +kernel), List.mem_of_getElem? (i := 361) (by decide +kernel)⟩
theorem lw_p6 : lw_okq (⟨"NearSeats$LandText", "failAt", "(I)V"⟩, 11) := ⟨⟨by decide +kernel, by decide +kernel⟩, List.mem_of_getElem? (i := 90) (by decide +kernel), List.mem_of_getElem? (i := 367) (by decide +kernel), List.mem_of_getElem? (i := 368) (by decide +kernel)⟩
theorem lw_p7 : lw_okq (⟨"NearSeats$LandText", "readNumber", "(II)I"⟩, 11) := ⟨⟨by decide +kernel, by decide +kernel⟩, List.mem_of_getElem? (i := 90) (by decide +kernel), List.mem_of_getElem? (i := 371) (by decide +kernel), List.mem_of_getElem? (i := 372) (by decide +kernel)⟩
theorem lw_p8 : lw_okq (⟨"NearSeats$LandText", "takeCode", "(I)V"⟩, 11) := ⟨⟨by decide +kernel, by decide +kernel⟩, List.mem_of_getElem? (i := 90) (by decide +kernel), List.mem_of_getElem? (i := 379) (by decide +kernel), List.mem_of_getElem? (i := 380) (by decide +kernel)⟩
theorem lw_p9 : lw_okq (⟨"NearSeats", "leastMiles", "()I"⟩, 17) := ⟨⟨by decide +kernel, by decide +kernel⟩, List.mem_of_getElem? (i := 13) (by decide +kernel), List.mem_of_getElem? (i := 456) (by decide +kernel), List.mem_of_getElem? (i := 457) (by decide +kernel)⟩
theorem lw_p10 : lw_okq (⟨"NearSeats$Sender", "seatHome", "(I)Z"⟩, 12) := ⟨⟨by decide +kernel, by decide +kernel⟩, List.mem_of_getElem? (i := 131) (by decide +kernel), List.mem_of_getElem? (i := 475) (by decide +kernel), List.mem_of_getElem? (i := 476) (by decide +kernel)⟩
theorem lw_p11 : lw_okq (⟨"NearSeats$Sender", "findSteps", "()V"⟩, 12) := ⟨⟨by decide +kernel, by decide +kernel⟩, List.mem_of_getElem? (i := 131) (by decide +kernel), List.mem_of_getElem? (i := 479) (by decide +kernel), List.mem_of_getElem? (i := 480) (by decide +kernel)⟩
theorem lw_p12 : lw_okq (⟨"NearSeats$Sender", "findStepsOf", "(II)V"⟩, 12) := ⟨⟨by decide +kernel, by decide +kernel⟩, List.mem_of_getElem? (i := 131) (by decide +kernel), List.mem_of_getElem? (i := 483) (by decide +kernel), List.mem_of_getElem? (i := 484) (by decide +kernel)⟩
theorem lw_p13 : lw_okq (⟨"NearSeats$Sender", "startAt", "(I)V"⟩, 12) := ⟨⟨by decide +kernel, by decide +kernel⟩, List.mem_of_getElem? (i := 131) (by decide +kernel), List.mem_of_getElem? (i := 487) (by decide +kernel), List.mem_of_getElem? (i := 488) (by decide +kernel)⟩
theorem lw_p14 : lw_okq (⟨"NearSeats$Sender", "spread", "()V"⟩, 12) := ⟨⟨by decide +kernel, by decide +kernel⟩, List.mem_of_getElem? (i := 131) (by decide +kernel), List.mem_of_getElem? (i := 491) (by decide +kernel), List.mem_of_getElem? (i := 492) (by decide +kernel)⟩
theorem lw_p15 : lw_okq (⟨"NearSeats$Sender", "spreadFrom", "(I)Z"⟩, 12) := ⟨⟨by decide +kernel, by decide +kernel⟩, List.mem_of_getElem? (i := 131) (by decide +kernel), List.mem_of_getElem? (i := 495) (by decide +kernel), List.mem_of_getElem? (i := 496) (by decide +kernel)⟩
def lw_privs_1 : List (MethodName × Nat) := [(⟨"NearSeats", "refusalOfRow", "(IIII)I"⟩, 17), (⟨"NearSeats", "faulty", "(I)I"⟩, 17), (⟨"NearSeats$LandText", "begin", "([III)V"⟩, 11), (⟨"NearSeats$LandText", "readItem", "(I)V"⟩, 11), (⟨"NearSeats$LandText", "readKind", "(I)V"⟩, 11), (⟨"NearSeats$LandText", "codeHere", "()I"⟩, 11), (⟨"NearSeats$LandText", "failAt", "(I)V"⟩, 11), (⟨"NearSeats$LandText", "readNumber", "(II)I"⟩, 11), (⟨"NearSeats$LandText", "takeCode", "(I)V"⟩, 11), (⟨"NearSeats", "leastMiles", "()I"⟩, 17), (⟨"NearSeats$Sender", "seatHome", "(I)Z"⟩, 12), (⟨"NearSeats$Sender", "findSteps", "()V"⟩, 12), (⟨"NearSeats$Sender", "findStepsOf", "(II)V"⟩, 12), (⟨"NearSeats$Sender", "startAt", "(I)V"⟩, 12), (⟨"NearSeats$Sender", "spread", "()V"⟩, 12), (⟨"NearSeats$Sender", "spreadFrom", "(I)Z"⟩, 12)]
theorem lw_r1 : ∀ q ∈ lw_privs_1, lw_okq q := List.forall_mem_cons.mpr ⟨lw_p0, List.forall_mem_cons.mpr ⟨lw_p1, List.forall_mem_cons.mpr ⟨lw_p2, List.forall_mem_cons.mpr ⟨lw_p3, List.forall_mem_cons.mpr ⟨lw_p4, List.forall_mem_cons.mpr ⟨lw_p5, List.forall_mem_cons.mpr ⟨lw_p6, List.forall_mem_cons.mpr ⟨lw_p7, List.forall_mem_cons.mpr ⟨lw_p8, List.forall_mem_cons.mpr ⟨lw_p9, List.forall_mem_cons.mpr ⟨lw_p10, List.forall_mem_cons.mpr ⟨lw_p11, List.forall_mem_cons.mpr ⟨lw_p12, List.forall_mem_cons.mpr ⟨lw_p13, List.forall_mem_cons.mpr ⟨lw_p14, List.forall_mem_cons.mpr ⟨lw_p15, fun _ h => absurd h List.not_mem_nil⟩⟩⟩⟩⟩⟩⟩⟩⟩⟩⟩⟩⟩⟩⟩⟩
theorem lw_p16 : lw_okq (⟨"NearSeats$Sender", "cheapestWithRoom", "()I"⟩, 12) := ⟨⟨by decide +kernel, by decide +kernel⟩, List.mem_of_getElem? (i := 131) (by decide +kernel), List.mem_of_getElem? (i := 499) (by decide +kernel), List.mem_of_getElem? (i := 500) (by decide +kernel)⟩
theorem lw_p17 : lw_okq (⟨"NearSeats$Sender", "seatAlong", "(III)I"⟩, 12) := ⟨⟨by decide +kernel, by decide +kernel⟩, List.mem_of_getElem? (i := 131) (by decide +kernel), List.mem_of_getElem? (i := 503) (by decide +kernel), List.mem_of_getElem? (i := 504) (by decide +kernel)⟩
theorem lw_p18 : lw_okq (⟨"NearSeats$Sender", "moverTo", "(I)I"⟩, 12) := ⟨⟨by decide +kernel, by decide +kernel⟩, List.mem_of_getElem? (i := 131) (by decide +kernel), List.mem_of_getElem? (i := 510) (by decide +kernel), List.mem_of_getElem? (i := 511) (by decide +kernel)⟩
theorem lw_p19 : lw_okq (⟨"NearSeats$Sender", "sumOfMiles", "()I"⟩, 12) := ⟨⟨by decide +kernel, by decide +kernel⟩, List.mem_of_getElem? (i := 131) (by decide +kernel), List.mem_of_getElem? (i := 514) (by decide +kernel), List.mem_of_getElem? (i := 515) (by decide +kernel)⟩
theorem lw_p20 : lw_okq (⟨"NearSeats$Land", "allOfHomeGo", "(I[II)Z"⟩, 12) := ⟨⟨by decide +kernel, by decide +kernel⟩, List.mem_of_getElem? (i := 21) (by decide +kernel), List.mem_of_getElem? (i := 553) (by decide +kernel), List.mem_of_getElem? (i := 554) (by decide +kernel)⟩
theorem lw_p21 : lw_okq (⟨"NearSeats$Land", "numberFits", "(I[III)Z"⟩, 12) := ⟨⟨by decide +kernel, by decide +kernel⟩, List.mem_of_getElem? (i := 21) (by decide +kernel), List.mem_of_getElem? (i := 558) (by decide +kernel), List.mem_of_getElem? (i := 559) (by decide +kernel)⟩
theorem lw_p22 : lw_okq (⟨"NearSeats$Land", "goesToLeast", "(I[III)Z"⟩, 12) := ⟨⟨by decide +kernel, by decide +kernel⟩, List.mem_of_getElem? (i := 21) (by decide +kernel), List.mem_of_getElem? (i := 563) (by decide +kernel), List.mem_of_getElem? (i := 564) (by decide +kernel)⟩
theorem lw_p23 : lw_okq (⟨"NearSeats", "seekFamilies", "()V"⟩, 17) := ⟨⟨by decide +kernel, by decide +kernel⟩, List.mem_of_getElem? (i := 13) (by decide +kernel), List.mem_of_getElem? (i := 575) (by decide +kernel), List.mem_of_getElem? (i := 576) (by decide +kernel)⟩
theorem lw_p24 : lw_okq (⟨"NearSeats$Families", "loadHome", "(LNearSeats$Land;I)I"⟩, 9) := ⟨⟨by decide +kernel, by decide +kernel⟩, List.mem_of_getElem? (i := 175) (by decide +kernel), List.mem_of_getElem? (i := 585) (by decide +kernel), List.mem_of_getElem? (i := 586) (by decide +kernel)⟩
theorem lw_p25 : lw_okq (⟨"NearSeats$Families", "tryHome", "(II)V"⟩, 9) := ⟨⟨by decide +kernel, by decide +kernel⟩, List.mem_of_getElem? (i := 175) (by decide +kernel), List.mem_of_getElem? (i := 591) (by decide +kernel), List.mem_of_getElem? (i := 592) (by decide +kernel)⟩
theorem lw_p26 : lw_okq (⟨"NearSeats$Families", "keep", "(I)V"⟩, 9) := ⟨⟨by decide +kernel, by decide +kernel⟩, List.mem_of_getElem? (i := 175) (by decide +kernel), List.mem_of_getElem? (i := 595) (by decide +kernel), List.mem_of_getElem? (i := 596) (by decide +kernel)⟩
theorem lw_p27 : lw_okq (⟨"NearSeats", "seekEven", "()V"⟩, 17) := ⟨⟨by decide +kernel, by decide +kernel⟩, List.mem_of_getElem? (i := 13) (by decide +kernel), List.mem_of_getElem? (i := 604) (by decide +kernel), List.mem_of_getElem? (i := 605) (by decide +kernel)⟩
theorem lw_p28 : lw_okq (⟨"NearSeats", "shortenLongest", "()V"⟩, 17) := ⟨⟨by decide +kernel, by decide +kernel⟩, List.mem_of_getElem? (i := 13) (by decide +kernel), List.mem_of_getElem? (i := 612) (by decide +kernel), List.mem_of_getElem? (i := 613) (by decide +kernel)⟩
theorem lw_p29 : lw_okq (⟨"NearSeats", "partOfBorder", "(III)J"⟩, 17) := ⟨⟨by decide +kernel, by decide +kernel⟩, List.mem_of_getElem? (i := 13) (by decide +kernel), List.mem_of_getElem? (i := 629) (by decide +kernel), List.mem_of_getElem? (i := 630) (by decide +kernel)⟩
theorem lw_p30 : lw_okq (⟨"NearSeats", "sideOfBorder", "(I)I"⟩, 17) := ⟨⟨by decide +kernel, by decide +kernel⟩, List.mem_of_getElem? (i := 13) (by decide +kernel), List.mem_of_getElem? (i := 633) (by decide +kernel), List.mem_of_getElem? (i := 634) (by decide +kernel)⟩
theorem lw_p31 : lw_okq (⟨"NearSeats", "leastChurch", "(II)I"⟩, 17) := ⟨⟨by decide +kernel, by decide +kernel⟩, List.mem_of_getElem? (i := 13) (by decide +kernel), List.mem_of_getElem? (i := 645) (by decide +kernel), List.mem_of_getElem? (i := 646) (by decide +kernel)⟩
def lw_privs_2 : List (MethodName × Nat) := [(⟨"NearSeats$Sender", "cheapestWithRoom", "()I"⟩, 12), (⟨"NearSeats$Sender", "seatAlong", "(III)I"⟩, 12), (⟨"NearSeats$Sender", "moverTo", "(I)I"⟩, 12), (⟨"NearSeats$Sender", "sumOfMiles", "()I"⟩, 12), (⟨"NearSeats$Land", "allOfHomeGo", "(I[II)Z"⟩, 12), (⟨"NearSeats$Land", "numberFits", "(I[III)Z"⟩, 12), (⟨"NearSeats$Land", "goesToLeast", "(I[III)Z"⟩, 12), (⟨"NearSeats", "seekFamilies", "()V"⟩, 17), (⟨"NearSeats$Families", "loadHome", "(LNearSeats$Land;I)I"⟩, 9), (⟨"NearSeats$Families", "tryHome", "(II)V"⟩, 9), (⟨"NearSeats$Families", "keep", "(I)V"⟩, 9), (⟨"NearSeats", "seekEven", "()V"⟩, 17), (⟨"NearSeats", "shortenLongest", "()V"⟩, 17), (⟨"NearSeats", "partOfBorder", "(III)J"⟩, 17), (⟨"NearSeats", "sideOfBorder", "(I)I"⟩, 17), (⟨"NearSeats", "leastChurch", "(II)I"⟩, 17)]
theorem lw_r2 : ∀ q ∈ lw_privs_2, lw_okq q := List.forall_mem_cons.mpr ⟨lw_p16, List.forall_mem_cons.mpr ⟨lw_p17, List.forall_mem_cons.mpr ⟨lw_p18, List.forall_mem_cons.mpr ⟨lw_p19, List.forall_mem_cons.mpr ⟨lw_p20, List.forall_mem_cons.mpr ⟨lw_p21, List.forall_mem_cons.mpr ⟨lw_p22, List.forall_mem_cons.mpr ⟨lw_p23, List.forall_mem_cons.mpr ⟨lw_p24, List.forall_mem_cons.mpr ⟨lw_p25, List.forall_mem_cons.mpr ⟨lw_p26, List.forall_mem_cons.mpr ⟨lw_p27, List.forall_mem_cons.mpr ⟨lw_p28, List.forall_mem_cons.mpr ⟨lw_p29, List.forall_mem_cons.mpr ⟨lw_p30, List.forall_mem_cons.mpr ⟨lw_p31, fun _ h => absurd h List.not_mem_nil⟩⟩⟩⟩⟩⟩⟩⟩⟩⟩⟩⟩⟩⟩⟩⟩
theorem lw_p32 : lw_okq (⟨"NearSeats", "bestPlace", "(I)I"⟩, 17) := ⟨⟨by decide +kernel, by decide +kernel⟩, List.mem_of_getElem? (i := 13) (by decide +kernel), List.mem_of_getElem? (i := 657) (by decide +kernel), List.mem_of_getElem? (i := 658) (by decide +kernel)⟩
theorem lw_p33 : lw_okq (⟨"NearSeats", "milesOfSet", "(I)I"⟩, 17) := ⟨⟨by decide +kernel, by decide +kernel⟩, List.mem_of_getElem? (i := 13) (by decide +kernel), List.mem_of_getElem? (i := 670) (by decide +kernel), List.mem_of_getElem? (i := 671) (by decide +kernel)⟩
theorem lw_p34 : lw_okq (⟨"NearSeats$Teller", "squareTells", "(I)I"⟩, 1) := ⟨⟨by decide +kernel, by decide +kernel⟩, List.mem_of_getElem? (i := 211) (by decide +kernel), List.mem_of_getElem? (i := 729) (by decide +kernel), List.mem_of_getElem? (i := 730) (by decide +kernel)⟩
theorem lw_p35 : lw_okq (⟨"NearSeats$Teller", "leave", "(I)V"⟩, 1) := ⟨⟨by decide +kernel, by decide +kernel⟩, List.mem_of_getElem? (i := 211) (by decide +kernel), List.mem_of_getElem? (i := 733) (by decide +kernel), List.mem_of_getElem? (i := 734) (by decide +kernel)⟩
theorem lw_p36 : lw_okq (⟨"NearSeats$Teller", "stepsTells", "(I)I"⟩, 1) := ⟨⟨by decide +kernel, by decide +kernel⟩, List.mem_of_getElem? (i := 211) (by decide +kernel), List.mem_of_getElem? (i := 737) (by decide +kernel), List.mem_of_getElem? (i := 738) (by decide +kernel)⟩
theorem lw_p37 : lw_okq (⟨"NearSeats$Teller", "ferryTells", "(I)I"⟩, 1) := ⟨⟨by decide +kernel, by decide +kernel⟩, List.mem_of_getElem? (i := 211) (by decide +kernel), List.mem_of_getElem? (i := 741) (by decide +kernel), List.mem_of_getElem? (i := 742) (by decide +kernel)⟩
theorem lw_p38 : lw_okq (⟨"NearSeatsModel", "addHome", "(III)V"⟩, 31) := ⟨⟨by decide +kernel, by decide +kernel⟩, List.mem_of_getElem? (i := 772) (by decide +kernel), List.mem_of_getElem? (i := 885) (by decide +kernel), List.mem_of_getElem? (i := 886) (by decide +kernel)⟩
theorem lw_p39 : lw_okq (⟨"NearSeatsModel", "addChurch", "(IIII)V"⟩, 31) := ⟨⟨by decide +kernel, by decide +kernel⟩, List.mem_of_getElem? (i := 772) (by decide +kernel), List.mem_of_getElem? (i := 895) (by decide +kernel), List.mem_of_getElem? (i := 896) (by decide +kernel)⟩
theorem lw_p40 : lw_okq (⟨"NearSeatsModel", "refused", "(I)I"⟩, 31) := ⟨⟨by decide +kernel, by decide +kernel⟩, List.mem_of_getElem? (i := 772) (by decide +kernel), List.mem_of_getElem? (i := 907) (by decide +kernel), List.mem_of_getElem? (i := 908) (by decide +kernel)⟩
theorem lw_p41 : lw_okq (⟨"NearSeatsModel", "refusal", "(IIIJ)I"⟩, 31) := ⟨⟨by decide +kernel, by decide +kernel⟩, List.mem_of_getElem? (i := 772) (by decide +kernel), List.mem_of_getElem? (i := 911) (by decide +kernel), List.mem_of_getElem? (i := 912) (by decide +kernel)⟩
theorem lw_p42 : lw_okq (⟨"NearSeatsModel", "failed", "(I)I"⟩, 31) := ⟨⟨by decide +kernel, by decide +kernel⟩, List.mem_of_getElem? (i := 772) (by decide +kernel), List.mem_of_getElem? (i := 915) (by decide +kernel), List.mem_of_getElem? (i := 916) (by decide +kernel)⟩
theorem lw_p43 : lw_okq (⟨"NearSeatsModel", "read", "(II)I"⟩, 31) := ⟨⟨by decide +kernel, by decide +kernel⟩, List.mem_of_getElem? (i := 772) (by decide +kernel), List.mem_of_getElem? (i := 922) (by decide +kernel), List.mem_of_getElem? (i := 923) (by decide +kernel)⟩
theorem lw_p44 : lw_okq (⟨"NearSeatsModel", "readsItem", "(II)Z"⟩, 31) := ⟨⟨by decide +kernel, by decide +kernel⟩, List.mem_of_getElem? (i := 772) (by decide +kernel), List.mem_of_getElem? (i := 926) (by decide +kernel), List.mem_of_getElem? (i := 927) (by decide +kernel)⟩
theorem lw_p45 : lw_okq (⟨"NearSeatsModel", "readsNumber", "(IIIII)Z"⟩, 31) := ⟨⟨by decide +kernel, by decide +kernel⟩, List.mem_of_getElem? (i := 772) (by decide +kernel), List.mem_of_getElem? (i := 933) (by decide +kernel), List.mem_of_getElem? (i := 934) (by decide +kernel)⟩
theorem lw_p46 : lw_okq (⟨"NearSeatsModel", "readsSign", "(III)Z"⟩, 31) := ⟨⟨by decide +kernel, by decide +kernel⟩, List.mem_of_getElem? (i := 772) (by decide +kernel), List.mem_of_getElem? (i := 939) (by decide +kernel), List.mem_of_getElem? (i := 940) (by decide +kernel)⟩
theorem lw_p47 : lw_okq (⟨"NearSeatsModel", "noHome", "(I)Z"⟩, 31) := ⟨⟨by decide +kernel, by decide +kernel⟩, List.mem_of_getElem? (i := 772) (by decide +kernel), List.mem_of_getElem? (i := 947) (by decide +kernel), List.mem_of_getElem? (i := 948) (by decide +kernel)⟩
def lw_privs_3 : List (MethodName × Nat) := [(⟨"NearSeats", "bestPlace", "(I)I"⟩, 17), (⟨"NearSeats", "milesOfSet", "(I)I"⟩, 17), (⟨"NearSeats$Teller", "squareTells", "(I)I"⟩, 1), (⟨"NearSeats$Teller", "leave", "(I)V"⟩, 1), (⟨"NearSeats$Teller", "stepsTells", "(I)I"⟩, 1), (⟨"NearSeats$Teller", "ferryTells", "(I)I"⟩, 1), (⟨"NearSeatsModel", "addHome", "(III)V"⟩, 31), (⟨"NearSeatsModel", "addChurch", "(IIII)V"⟩, 31), (⟨"NearSeatsModel", "refused", "(I)I"⟩, 31), (⟨"NearSeatsModel", "refusal", "(IIIJ)I"⟩, 31), (⟨"NearSeatsModel", "failed", "(I)I"⟩, 31), (⟨"NearSeatsModel", "read", "(II)I"⟩, 31), (⟨"NearSeatsModel", "readsItem", "(II)Z"⟩, 31), (⟨"NearSeatsModel", "readsNumber", "(IIIII)Z"⟩, 31), (⟨"NearSeatsModel", "readsSign", "(III)Z"⟩, 31), (⟨"NearSeatsModel", "noHome", "(I)Z"⟩, 31)]
theorem lw_r3 : ∀ q ∈ lw_privs_3, lw_okq q := List.forall_mem_cons.mpr ⟨lw_p32, List.forall_mem_cons.mpr ⟨lw_p33, List.forall_mem_cons.mpr ⟨lw_p34, List.forall_mem_cons.mpr ⟨lw_p35, List.forall_mem_cons.mpr ⟨lw_p36, List.forall_mem_cons.mpr ⟨lw_p37, List.forall_mem_cons.mpr ⟨lw_p38, List.forall_mem_cons.mpr ⟨lw_p39, List.forall_mem_cons.mpr ⟨lw_p40, List.forall_mem_cons.mpr ⟨lw_p41, List.forall_mem_cons.mpr ⟨lw_p42, List.forall_mem_cons.mpr ⟨lw_p43, List.forall_mem_cons.mpr ⟨lw_p44, List.forall_mem_cons.mpr ⟨lw_p45, List.forall_mem_cons.mpr ⟨lw_p46, List.forall_mem_cons.mpr ⟨lw_p47, fun _ h => absurd h List.not_mem_nil⟩⟩⟩⟩⟩⟩⟩⟩⟩⟩⟩⟩⟩⟩⟩⟩
theorem lw_p48 : lw_okq (⟨"NearSeatsModel", "noChurch", "(I)Z"⟩, 31) := ⟨⟨by decide +kernel, by decide +kernel⟩, List.mem_of_getElem? (i := 772) (by decide +kernel), List.mem_of_getElem? (i := 955) (by decide +kernel), List.mem_of_getElem? (i := 956) (by decide +kernel)⟩
theorem lw_p49 : lw_okq (⟨"NearSeatsModel", "farOf", "(III)I"⟩, 31) := ⟨⟨by decide +kernel, by decide +kernel⟩, List.mem_of_getElem? (i := 772) (by decide +kernel), List.mem_of_getElem? (i := 976) (by decide +kernel), List.mem_of_getElem? (i := 977) (by decide +kernel)⟩
theorem lw_p50 : lw_okq (⟨"NearSeatsModel", "milesNow", "()I"⟩, 31) := ⟨⟨by decide +kernel, by decide +kernel⟩, List.mem_of_getElem? (i := 772) (by decide +kernel), List.mem_of_getElem? (i := 987) (by decide +kernel), List.mem_of_getElem? (i := 988) (by decide +kernel)⟩
theorem lw_p51 : lw_okq (⟨"NearSeatsModel", "layCosts", "(I)V"⟩, 31) := ⟨⟨by decide +kernel, by decide +kernel⟩, List.mem_of_getElem? (i := 772) (by decide +kernel), List.mem_of_getElem? (i := 992) (by decide +kernel), List.mem_of_getElem? (i := 993) (by decide +kernel)⟩
theorem lw_p52 : lw_okq (⟨"NearSeatsModel", "leastMiles", "()I"⟩, 31) := ⟨⟨by decide +kernel, by decide +kernel⟩, List.mem_of_getElem? (i := 772) (by decide +kernel), List.mem_of_getElem? (i := 997) (by decide +kernel), List.mem_of_getElem? (i := 998) (by decide +kernel)⟩
theorem lw_p53 : lw_okq (⟨"NearSeatsModel", "seatOne", "(I)I"⟩, 31) := ⟨⟨by decide +kernel, by decide +kernel⟩, List.mem_of_getElem? (i := 772) (by decide +kernel), List.mem_of_getElem? (i := 1001) (by decide +kernel), List.mem_of_getElem? (i := 1002) (by decide +kernel)⟩
theorem lw_p54 : lw_okq (⟨"NearSeatsModel", "layDear", "(I)V"⟩, 31) := ⟨⟨by decide +kernel, by decide +kernel⟩, List.mem_of_getElem? (i := 772) (by decide +kernel), List.mem_of_getElem? (i := 1005) (by decide +kernel), List.mem_of_getElem? (i := 1006) (by decide +kernel)⟩
theorem lw_p55 : lw_okq (⟨"NearSeatsModel", "moverOf", "(II)I"⟩, 31) := ⟨⟨by decide +kernel, by decide +kernel⟩, List.mem_of_getElem? (i := 772) (by decide +kernel), List.mem_of_getElem? (i := 1009) (by decide +kernel), List.mem_of_getElem? (i := 1010) (by decide +kernel)⟩
theorem lw_p56 : lw_okq (⟨"NearSeatsModel", "takenIn", "(I)I"⟩, 31) := ⟨⟨by decide +kernel, by decide +kernel⟩, List.mem_of_getElem? (i := 772) (by decide +kernel), List.mem_of_getElem? (i := 1013) (by decide +kernel), List.mem_of_getElem? (i := 1014) (by decide +kernel)⟩
theorem lw_p57 : lw_okq (⟨"NearSeatsModel", "layWeights", "()Z"⟩, 31) := ⟨⟨by decide +kernel, by decide +kernel⟩, List.mem_of_getElem? (i := 772) (by decide +kernel), List.mem_of_getElem? (i := 1028) (by decide +kernel), List.mem_of_getElem? (i := 1029) (by decide +kernel)⟩
theorem lw_p58 : lw_okq (⟨"NearSeatsModel", "holdsIn", "(III)Z"⟩, 31) := ⟨⟨by decide +kernel, by decide +kernel⟩, List.mem_of_getElem? (i := 772) (by decide +kernel), List.mem_of_getElem? (i := 1040) (by decide +kernel), List.mem_of_getElem? (i := 1041) (by decide +kernel)⟩
theorem lw_p59 : lw_okq (⟨"NearSeatsModel", "holdsFor", "(III)Z"⟩, 31) := ⟨⟨by decide +kernel, by decide +kernel⟩, List.mem_of_getElem? (i := 772) (by decide +kernel), List.mem_of_getElem? (i := 1045) (by decide +kernel), List.mem_of_getElem? (i := 1046) (by decide +kernel)⟩
theorem lw_p60 : lw_okq (⟨"NearSeatsModel", "rowMiles", "(I)I"⟩, 31) := ⟨⟨by decide +kernel, by decide +kernel⟩, List.mem_of_getElem? (i := 772) (by decide +kernel), List.mem_of_getElem? (i := 1055) (by decide +kernel), List.mem_of_getElem? (i := 1056) (by decide +kernel)⟩
theorem lw_p61 : lw_okq (⟨"NearSeatsModel", "churchIn", "(II)I"⟩, 31) := ⟨⟨by decide +kernel, by decide +kernel⟩, List.mem_of_getElem? (i := 772) (by decide +kernel), List.mem_of_getElem? (i := 1059) (by decide +kernel), List.mem_of_getElem? (i := 1060) (by decide +kernel)⟩
theorem lw_p62 : lw_okq (⟨"NearSeatsModel", "openMiles", "(I)I"⟩, 31) := ⟨⟨by decide +kernel, by decide +kernel⟩, List.mem_of_getElem? (i := 772) (by decide +kernel), List.mem_of_getElem? (i := 1094) (by decide +kernel), List.mem_of_getElem? (i := 1095) (by decide +kernel)⟩
theorem lw_p63 : lw_okq (⟨"NearSeatsModel", "noCell", "(II)I"⟩, 31) := ⟨⟨by decide +kernel, by decide +kernel⟩, List.mem_of_getElem? (i := 772) (by decide +kernel), List.mem_of_getElem? (i := 1117) (by decide +kernel), List.mem_of_getElem? (i := 1118) (by decide +kernel)⟩
def lw_privs_4 : List (MethodName × Nat) := [(⟨"NearSeatsModel", "noChurch", "(I)Z"⟩, 31), (⟨"NearSeatsModel", "farOf", "(III)I"⟩, 31), (⟨"NearSeatsModel", "milesNow", "()I"⟩, 31), (⟨"NearSeatsModel", "layCosts", "(I)V"⟩, 31), (⟨"NearSeatsModel", "leastMiles", "()I"⟩, 31), (⟨"NearSeatsModel", "seatOne", "(I)I"⟩, 31), (⟨"NearSeatsModel", "layDear", "(I)V"⟩, 31), (⟨"NearSeatsModel", "moverOf", "(II)I"⟩, 31), (⟨"NearSeatsModel", "takenIn", "(I)I"⟩, 31), (⟨"NearSeatsModel", "layWeights", "()Z"⟩, 31), (⟨"NearSeatsModel", "holdsIn", "(III)Z"⟩, 31), (⟨"NearSeatsModel", "holdsFor", "(III)Z"⟩, 31), (⟨"NearSeatsModel", "rowMiles", "(I)I"⟩, 31), (⟨"NearSeatsModel", "churchIn", "(II)I"⟩, 31), (⟨"NearSeatsModel", "openMiles", "(I)I"⟩, 31), (⟨"NearSeatsModel", "noCell", "(II)I"⟩, 31)]
theorem lw_r4 : ∀ q ∈ lw_privs_4, lw_okq q := List.forall_mem_cons.mpr ⟨lw_p48, List.forall_mem_cons.mpr ⟨lw_p49, List.forall_mem_cons.mpr ⟨lw_p50, List.forall_mem_cons.mpr ⟨lw_p51, List.forall_mem_cons.mpr ⟨lw_p52, List.forall_mem_cons.mpr ⟨lw_p53, List.forall_mem_cons.mpr ⟨lw_p54, List.forall_mem_cons.mpr ⟨lw_p55, List.forall_mem_cons.mpr ⟨lw_p56, List.forall_mem_cons.mpr ⟨lw_p57, List.forall_mem_cons.mpr ⟨lw_p58, List.forall_mem_cons.mpr ⟨lw_p59, List.forall_mem_cons.mpr ⟨lw_p60, List.forall_mem_cons.mpr ⟨lw_p61, List.forall_mem_cons.mpr ⟨lw_p62, List.forall_mem_cons.mpr ⟨lw_p63, fun _ h => absurd h List.not_mem_nil⟩⟩⟩⟩⟩⟩⟩⟩⟩⟩⟩⟩⟩⟩⟩⟩
theorem lw_p64 : lw_okq (⟨"NearSeatsModel", "failedLong", "(I)J"⟩, 31) := ⟨⟨by decide +kernel, by decide +kernel⟩, List.mem_of_getElem? (i := 772) (by decide +kernel), List.mem_of_getElem? (i := 1125) (by decide +kernel), List.mem_of_getElem? (i := 1126) (by decide +kernel)⟩
theorem lw_p65 : lw_okq (⟨"NearSeatsModel", "traced", "(I)V"⟩, 31) := ⟨⟨by decide +kernel, by decide +kernel⟩, List.mem_of_getElem? (i := 772) (by decide +kernel), List.mem_of_getElem? (i := 1137) (by decide +kernel), List.mem_of_getElem? (i := 1138) (by decide +kernel)⟩
def lw_privs_5 : List (MethodName × Nat) := [(⟨"NearSeatsModel", "failedLong", "(I)J"⟩, 31), (⟨"NearSeatsModel", "traced", "(I)V"⟩, 31)]
theorem lw_r5 : ∀ q ∈ lw_privs_5, lw_okq q := List.forall_mem_cons.mpr ⟨lw_p64, List.forall_mem_cons.mpr ⟨lw_p65, fun _ h => absurd h List.not_mem_nil⟩⟩
def lw_privs : List (MethodName × Nat) := lw_privs_1 ++ (lw_privs_2 ++ (lw_privs_3 ++ (lw_privs_4 ++ (lw_privs_5))))
def lw_tbl : List Cond := k2_sels lw_privs ++ tables_1
theorem lw_privs_ok : ∀ q ∈ lw_privs, lw_okq q := by
  show ∀ q ∈ lw_privs_1 ++ (lw_privs_2 ++ (lw_privs_3 ++ (lw_privs_4 ++ (lw_privs_5)))), lw_okq q
  exact List.forall_mem_append.mpr ⟨lw_r1, List.forall_mem_append.mpr ⟨lw_r2, List.forall_mem_append.mpr ⟨lw_r3, List.forall_mem_append.mpr ⟨lw_r4, lw_r5⟩⟩⟩⟩
def RX0 : String := "NearSeats$Families"
def TX0 : u_T := fun k => match k with
  | 0 => ("NearSeats$Families", "cost", "[I", true)
  | 1 => ("NearSeats$Families", "heads", "[I", true)
  | 2 => ("NearSeats$Families", "left", "[I", true)
  | 3 => ("NearSeats$Families", "atLeast", "[I", true)
  | 4 => ("NearSeats$Families", "tried", "[I", true)
  | 5 => ("NearSeats$Families", "chosen", "[I", true)
  | 6 => ("NearSeats$Families", "homes", "I", false)
  | 7 => ("NearSeats$Families", "churches", "I", false)
  | _ => ("NearSeats$Families", "least", "I", false)
def tyX0 : Nat → FieldType := fun k => match k with
  | 0 => .array .int
  | 1 => .array .int
  | 2 => .array .int
  | 3 => .array .int
  | 4 => .array .int
  | 5 => .array .int
  | 6 => .int
  | 7 => .int
  | _ => .int
abbrev wsX00 : List Cond := u_ws RX0 TX0 9
theorem nmX0 : ∀ a, a < 9 → ∀ b, b < 9 → a ≠ b → (TX0 a).2.1 ≠ (TX0 b).2.1 := by decide +kernel
theorem tyX0_ok : ∀ k, k < 9 → parseFieldDescriptor (TX0 k).2.2.1 = some (tyX0 k) := by decide +kernel
abbrev cX0_init : ByteArray := prog_2_method_1_code
def yX0_init : MethodName := ⟨RX0, "<init>", "()V"⟩
abbrev cX0_seek : ByteArray := prog_2_method_2_code
def yX0_seek : MethodName := ⟨RX0, "seek", "(LNearSeats$Land;)V"⟩
abbrev cX0_loadHome : ByteArray := prog_2_method_3_code
def yX0_loadHome : MethodName := ⟨RX0, "loadHome", "(LNearSeats$Land;I)I"⟩
abbrev cX0_tryHome : ByteArray := prog_2_method_4_code
def yX0_tryHome : MethodName := ⟨RX0, "tryHome", "(II)V"⟩
abbrev cX0_keep : ByteArray := prog_2_method_5_code
def yX0_keep : MethodName := ⟨RX0, "keep", "(I)V"⟩
def RX1 : String := "NearSeats$Land"
def TX1 : u_T := fun k => match k with
  | 0 => ("NearSeats$Land", "homeX", "[I", true)
  | 1 => ("NearSeats$Land", "homeY", "[I", true)
  | 2 => ("NearSeats$Land", "heads", "[I", true)
  | 3 => ("NearSeats$Land", "barred", "[I", true)
  | 4 => ("NearSeats$Land", "kind", "[I", true)
  | 5 => ("NearSeats$Land", "churchX", "[I", true)
  | 6 => ("NearSeats$Land", "churchY", "[I", true)
  | 7 => ("NearSeats$Land", "seats", "[I", true)
  | 8 => ("NearSeats$Land", "homes", "I", false)
  | 9 => ("NearSeats$Land", "churches", "I", false)
  | 10 => ("NearSeats$Land", "ferryToll", "I", false)
  | _ => ("NearSeats$Land", "changes", "I", false)
def tyX1 : Nat → FieldType := fun k => match k with
  | 0 => .array .int
  | 1 => .array .int
  | 2 => .array .int
  | 3 => .array .int
  | 4 => .array .int
  | 5 => .array .int
  | 6 => .array .int
  | 7 => .array .int
  | 8 => .int
  | 9 => .int
  | 10 => .int
  | _ => .int
abbrev wsX10 : List Cond := u_ws RX1 TX1 12
theorem nmX1 : ∀ a, a < 12 → ∀ b, b < 12 → a ≠ b → (TX1 a).2.1 ≠ (TX1 b).2.1 := by decide +kernel
theorem tyX1_ok : ∀ k, k < 12 → parseFieldDescriptor (TX1 k).2.2.1 = some (tyX1 k) := by decide +kernel
abbrev cX1_init : ByteArray := prog_3_method_1_code
def yX1_init : MethodName := ⟨RX1, "<init>", "()V"⟩
abbrev cX1_hasHome : ByteArray := prog_3_method_2_code
def yX1_hasHome : MethodName := ⟨RX1, "hasHome", "(I)Z"⟩
abbrev cX1_hasChurch : ByteArray := prog_3_method_3_code
def yX1_hasChurch : MethodName := ⟨RX1, "hasChurch", "(I)Z"⟩
abbrev cX1_empty : ByteArray := prog_3_method_4_code
def yX1_empty : MethodName := ⟨RX1, "empty", "()V"⟩
abbrev cX1_addHome : ByteArray := prog_3_method_5_code
def yX1_addHome : MethodName := ⟨RX1, "addHome", "(III)I"⟩
abbrev cX1_addChurch : ByteArray := prog_3_method_6_code
def yX1_addChurch : MethodName := ⟨RX1, "addChurch", "(IIII)I"⟩
abbrev cX1_isBarred : ByteArray := prog_3_method_7_code
def yX1_isBarred : MethodName := ⟨RX1, "isBarred", "(II)Z"⟩
abbrev cX1_turnBar : ByteArray := prog_3_method_8_code
def yX1_turnBar : MethodName := ⟨RX1, "turnBar", "(II)V"⟩
abbrev cX1_changeSeats : ByteArray := prog_3_method_9_code
def yX1_changeSeats : MethodName := ⟨RX1, "changeSeats", "(II)I"⟩
abbrev cX1_changeToll : ByteArray := prog_3_method_10_code
def yX1_changeToll : MethodName := ⟨RX1, "changeToll", "(I)I"⟩
abbrev cX1_moveChurch : ByteArray := prog_3_method_11_code
def yX1_moveChurch : MethodName := ⟨RX1, "moveChurch", "(III)V"⟩
abbrev cX1_atOneSpot : ByteArray := prog_3_method_12_code
def yX1_atOneSpot : MethodName := ⟨RX1, "atOneSpot", "(II)Z"⟩
abbrev cX1_farTo : ByteArray := prog_3_method_13_code
def yX1_farTo : MethodName := ⟨RX1, "farTo", "(III)I"⟩
abbrev cX1_farBetween : ByteArray := prog_3_method_14_code
def yX1_farBetween : MethodName := ⟨RX1, "farBetween", "(IIIII)I"⟩
abbrev cX1_cannotSit : ByteArray := prog_3_method_15_code
def yX1_cannotSit : MethodName := ⟨RX1, "cannotSit", "(I)Z"⟩
abbrev cX1_proofHolds : ByteArray := prog_3_method_16_code
def yX1_proofHolds : MethodName := ⟨RX1, "proofHolds", "([II)Z"⟩
abbrev cX1_allOfHomeGo : ByteArray := prog_3_method_17_code
def yX1_allOfHomeGo : MethodName := ⟨RX1, "allOfHomeGo", "(I[II)Z"⟩
abbrev cX1_numberFits : ByteArray := prog_3_method_18_code
def yX1_numberFits : MethodName := ⟨RX1, "numberFits", "(I[III)Z"⟩
abbrev cX1_goesToLeast : ByteArray := prog_3_method_19_code
def yX1_goesToLeast : MethodName := ⟨RX1, "goesToLeast", "(I[III)Z"⟩
def RX2 : String := "NearSeats$LandText"
def TX2 : u_T := fun k => match k with
  | 0 => ("NearSeats$LandText", "kinds", "[I", true)
  | 1 => ("NearSeats$LandText", "xs", "[I", true)
  | 2 => ("NearSeats$LandText", "ys", "[I", true)
  | 3 => ("NearSeats$LandText", "numbers", "[I", true)
  | 4 => ("NearSeats$LandText", "codes", "[I", true)
  | 5 => ("NearSeats$LandText", "length", "I", false)
  | 6 => ("NearSeats$LandText", "at", "I", false)
  | 7 => ("NearSeats$LandText", "homes", "I", false)
  | 8 => ("NearSeats$LandText", "churches", "I", false)
  | 9 => ("NearSeats$LandText", "ok", "Z", false)
  | _ => ("NearSeats$LandText", "firstFault", "I", false)
def tyX2 : Nat → FieldType := fun k => match k with
  | 0 => .array .int
  | 1 => .array .int
  | 2 => .array .int
  | 3 => .array .int
  | 4 => .array .int
  | 5 => .int
  | 6 => .int
  | 7 => .int
  | 8 => .int
  | 9 => .boolean
  | _ => .int
abbrev wsX20 : List Cond := u_ws RX2 TX2 11
theorem nmX2 : ∀ a, a < 11 → ∀ b, b < 11 → a ≠ b → (TX2 a).2.1 ≠ (TX2 b).2.1 := by decide +kernel
theorem tyX2_ok : ∀ k, k < 11 → parseFieldDescriptor (TX2 k).2.2.1 = some (tyX2 k) := by decide +kernel
abbrev cX2_init : ByteArray := prog_4_method_1_code
def yX2_init : MethodName := ⟨RX2, "<init>", "()V"⟩
abbrev cX2_readItems : ByteArray := prog_4_method_2_code
def yX2_readItems : MethodName := ⟨RX2, "readItems", "([III)I"⟩
abbrev cX2_begin : ByteArray := prog_4_method_3_code
def yX2_begin : MethodName := ⟨RX2, "begin", "([III)V"⟩
abbrev cX2_layOut : ByteArray := prog_4_method_4_code
def yX2_layOut : MethodName := ⟨RX2, "layOut", "(LNearSeats$Land;I)V"⟩
abbrev cX2_readItem : ByteArray := prog_4_method_5_code
def yX2_readItem : MethodName := ⟨RX2, "readItem", "(I)V"⟩
abbrev cX2_readKind : ByteArray := prog_4_method_6_code
def yX2_readKind : MethodName := ⟨RX2, "readKind", "(I)V"⟩
abbrev cX2_kindOf : ByteArray := prog_4_method_7_code
def yX2_kindOf : MethodName := ⟨RX2, "kindOf", "(I)I"⟩
abbrev cX2_readNumber : ByteArray := prog_4_method_8_code
def yX2_readNumber : MethodName := ⟨RX2, "readNumber", "(II)I"⟩
abbrev cX2_takeCode : ByteArray := prog_4_method_9_code
def yX2_takeCode : MethodName := ⟨RX2, "takeCode", "(I)V"⟩
abbrev cX2_isDigit : ByteArray := prog_4_method_10_code
def yX2_isDigit : MethodName := ⟨RX2, "isDigit", "(I)Z"⟩
abbrev cX2_codeHere : ByteArray := prog_4_method_11_code
def yX2_codeHere : MethodName := ⟨RX2, "codeHere", "()I"⟩
abbrev cX2_failAt : ByteArray := prog_4_method_12_code
def yX2_failAt : MethodName := ⟨RX2, "failAt", "(I)V"⟩
def RX3 : String := "NearSeats$Sender"
def TX3 : u_T := fun k => match k with
  | 0 => ("NearSeats$Sender", "far", "[I", true)
  | 1 => ("NearSeats$Sender", "sent", "[I", true)
  | 2 => ("NearSeats$Sender", "heads", "[I", true)
  | 3 => ("NearSeats$Sender", "room", "[I", true)
  | 4 => ("NearSeats$Sender", "taken", "[I", true)
  | 5 => ("NearSeats$Sender", "step", "[I", true)
  | 6 => ("NearSeats$Sender", "stepHome", "[I", true)
  | 7 => ("NearSeats$Sender", "cost", "[I", true)
  | 8 => ("NearSeats$Sender", "before", "[I", true)
  | 9 => ("NearSeats$Sender", "weights", "[I", true)
  | 10 => ("NearSeats$Sender", "homes", "I", false)
  | _ => ("NearSeats$Sender", "churches", "I", false)
def tyX3 : Nat → FieldType := fun k => match k with
  | 0 => .array .int
  | 1 => .array .int
  | 2 => .array .int
  | 3 => .array .int
  | 4 => .array .int
  | 5 => .array .int
  | 6 => .array .int
  | 7 => .array .int
  | 8 => .array .int
  | 9 => .array .int
  | 10 => .int
  | _ => .int
abbrev wsX30 : List Cond := u_ws RX3 TX3 12
theorem nmX3 : ∀ a, a < 12 → ∀ b, b < 12 → a ≠ b → (TX3 a).2.1 ≠ (TX3 b).2.1 := by decide +kernel
theorem tyX3_ok : ∀ k, k < 12 → parseFieldDescriptor (TX3 k).2.2.1 = some (tyX3 k) := by decide +kernel
abbrev cX3_init : ByteArray := prog_5_method_1_code
def yX3_init : MethodName := ⟨RX3, "<init>", "()V"⟩
abbrev cX3_load : ByteArray := prog_5_method_2_code
def yX3_load : MethodName := ⟨RX3, "load", "(LNearSeats$Land;)V"⟩
abbrev cX3_putChurch : ByteArray := prog_5_method_3_code
def yX3_putChurch : MethodName := ⟨RX3, "putChurch", "(LNearSeats$Land;III)V"⟩
abbrev cX3_shutAllBut : ByteArray := prog_5_method_4_code
def yX3_shutAllBut : MethodName := ⟨RX3, "shutAllBut", "(I)V"⟩
abbrev cX3_forbidBeyond : ByteArray := prog_5_method_5_code
def yX3_forbidBeyond : MethodName := ⟨RX3, "forbidBeyond", "(I)V"⟩
abbrev cX3_send : ByteArray := prog_5_method_6_code
def yX3_send : MethodName := ⟨RX3, "send", "()I"⟩
abbrev cX3_sumOfMiles : ByteArray := prog_5_method_7_code
def yX3_sumOfMiles : MethodName := ⟨RX3, "sumOfMiles", "()I"⟩
abbrev cX3_seatHome : ByteArray := prog_5_method_8_code
def yX3_seatHome : MethodName := ⟨RX3, "seatHome", "(I)Z"⟩
abbrev cX3_findSteps : ByteArray := prog_5_method_9_code
def yX3_findSteps : MethodName := ⟨RX3, "findSteps", "()V"⟩
abbrev cX3_findStepsOf : ByteArray := prog_5_method_10_code
def yX3_findStepsOf : MethodName := ⟨RX3, "findStepsOf", "(II)V"⟩
abbrev cX3_startAt : ByteArray := prog_5_method_11_code
def yX3_startAt : MethodName := ⟨RX3, "startAt", "(I)V"⟩
abbrev cX3_spread : ByteArray := prog_5_method_12_code
def yX3_spread : MethodName := ⟨RX3, "spread", "()V"⟩
abbrev cX3_spreadFrom : ByteArray := prog_5_method_13_code
def yX3_spreadFrom : MethodName := ⟨RX3, "spreadFrom", "(I)Z"⟩
abbrev cX3_cheapestWithRoom : ByteArray := prog_5_method_14_code
def yX3_cheapestWithRoom : MethodName := ⟨RX3, "cheapestWithRoom", "()I"⟩
abbrev cX3_seatAlong : ByteArray := prog_5_method_15_code
def yX3_seatAlong : MethodName := ⟨RX3, "seatAlong", "(III)I"⟩
abbrev cX3_moverTo : ByteArray := prog_5_method_16_code
def yX3_moverTo : MethodName := ⟨RX3, "moverTo", "(I)I"⟩
abbrev cX3_weigh : ByteArray := prog_5_method_17_code
def yX3_weigh : MethodName := ⟨RX3, "weigh", "()V"⟩
abbrev cX3_lineOf : ByteArray := prog_5_method_18_code
def yX3_lineOf : MethodName := ⟨RX3, "lineOf", "(I)I"⟩
abbrev cX3_longest : ByteArray := prog_5_method_19_code
def yX3_longest : MethodName := ⟨RX3, "longest", "()I"⟩
def RX4 : String := "NearSeats$Sheet"
def TX4 : u_T := fun k => match k with
  | 0 => ("NearSeats$Sheet", "cells", "[I", true)
  | 1 => ("NearSeats$Sheet", "hasRow", "Z", false)
  | 2 => ("NearSeats$Sheet", "lane", "I", false)
  | _ => ("NearSeats$Sheet", "size", "I", false)
def tyX4 : Nat → FieldType := fun k => match k with
  | 0 => .array .int
  | 1 => .boolean
  | 2 => .int
  | _ => .int
abbrev wsX40 : List Cond := u_ws RX4 TX4 4
theorem nmX4 : ∀ a, a < 4 → ∀ b, b < 4 → a ≠ b → (TX4 a).2.1 ≠ (TX4 b).2.1 := by decide +kernel
theorem tyX4_ok : ∀ k, k < 4 → parseFieldDescriptor (TX4 k).2.2.1 = some (tyX4 k) := by decide +kernel
abbrev cX4_init : ByteArray := prog_6_method_1_code
def yX4_init : MethodName := ⟨RX4, "<init>", "()V"⟩
abbrev cX4_renew : ByteArray := prog_6_method_2_code
def yX4_renew : MethodName := ⟨RX4, "renew", "(II)V"⟩
abbrev cX4_hasCell : ByteArray := prog_6_method_3_code
def yX4_hasCell : MethodName := ⟨RX4, "hasCell", "(I)Z"⟩
abbrev cX4_hasCells : ByteArray := prog_6_method_4_code
def yX4_hasCells : MethodName := ⟨RX4, "hasCells", "(II)Z"⟩
abbrev cX4_setCell : ByteArray := prog_6_method_5_code
def yX4_setCell : MethodName := ⟨RX4, "setCell", "(II)V"⟩
def RX5 : String := "NearSeats$Teller"
def TX5 : u_T := fun k => match k with
  | _ => ("NearSeats$Teller", "left", "I", false)
def tyX5 : Nat → FieldType := fun k => match k with
  | _ => .int
abbrev wsX50 : List Cond := u_ws RX5 TX5 1
theorem nmX5 : ∀ a, a < 1 → ∀ b, b < 1 → a ≠ b → (TX5 a).2.1 ≠ (TX5 b).2.1 := by decide +kernel
theorem tyX5_ok : ∀ k, k < 1 → parseFieldDescriptor (TX5 k).2.2.1 = some (tyX5 k) := by decide +kernel
abbrev cX5_init : ByteArray := prog_7_method_1_code
def yX5_init : MethodName := ⟨RX5, "<init>", "()V"⟩
abbrev cX5_tellOf : ByteArray := prog_7_method_2_code
def yX5_tellOf : MethodName := ⟨RX5, "tellOf", "(II)I"⟩
abbrev cX5_ringOf : ByteArray := prog_7_method_3_code
def yX5_ringOf : MethodName := ⟨RX5, "ringOf", "(II)I"⟩
abbrev cX5_squareTells : ByteArray := prog_7_method_4_code
def yX5_squareTells : MethodName := ⟨RX5, "squareTells", "(I)I"⟩
abbrev cX5_stepsTells : ByteArray := prog_7_method_5_code
def yX5_stepsTells : MethodName := ⟨RX5, "stepsTells", "(I)I"⟩
abbrev cX5_ferryTells : ByteArray := prog_7_method_6_code
def yX5_ferryTells : MethodName := ⟨RX5, "ferryTells", "(I)I"⟩
abbrev cX5_leave : ByteArray := prog_7_method_7_code
def yX5_leave : MethodName := ⟨RX5, "leave", "(I)V"⟩
def RX6 : String := "NearSeats"
def TX6 : u_T := fun k => match k with
  | 0 => ("NearSeats", "land", "LNearSeats$Land;", true)
  | 1 => ("NearSeats", "text", "LNearSeats$LandText;", true)
  | 2 => ("NearSeats", "now", "LNearSeats$Sender;", true)
  | 3 => ("NearSeats", "trial", "LNearSeats$Sender;", true)
  | 4 => ("NearSeats", "families", "LNearSeats$Families;", true)
  | 5 => ("NearSeats", "teller", "LNearSeats$Teller;", true)
  | 6 => ("NearSeats", "sheets", "[LNearSeats$Sheet;", true)
  | 7 => ("NearSeats", "placeX", "[I", true)
  | 8 => ("NearSeats", "placeY", "[I", true)
  | 9 => ("NearSeats", "places", "I", false)
  | 10 => ("NearSeats", "fault", "I", false)
  | 11 => ("NearSeats", "sentAt", "I", false)
  | 12 => ("NearSeats", "evenAt", "I", false)
  | 13 => ("NearSeats", "familiesAt", "I", false)
  | 14 => ("NearSeats", "nowMiles", "I", false)
  | 15 => ("NearSeats", "evenLongest", "I", false)
  | _ => ("NearSeats", "evenMiles", "I", false)
def tyX6 : Nat → FieldType := fun k => match k with
  | 0 => .object "NearSeats$Land"
  | 1 => .object "NearSeats$LandText"
  | 2 => .object "NearSeats$Sender"
  | 3 => .object "NearSeats$Sender"
  | 4 => .object "NearSeats$Families"
  | 5 => .object "NearSeats$Teller"
  | 6 => .array (.object "NearSeats$Sheet")
  | 7 => .array .int
  | 8 => .array .int
  | 9 => .int
  | 10 => .int
  | 11 => .int
  | 12 => .int
  | 13 => .int
  | 14 => .int
  | 15 => .int
  | _ => .int
abbrev wsX60 : List Cond := u_ws RX6 TX6 17
theorem nmX6 : ∀ a, a < 17 → ∀ b, b < 17 → a ≠ b → (TX6 a).2.1 ≠ (TX6 b).2.1 := by decide +kernel
theorem tyX6_ok : ∀ k, k < 17 → parseFieldDescriptor (TX6 k).2.2.1 = some (tyX6 k) := by decide +kernel
abbrev cX6_init : ByteArray := prog_1_method_1_code
def yX6_init : MethodName := ⟨RX6, "<init>", "()V"⟩
abbrev cX6_home : ByteArray := prog_1_method_2_code
def yX6_home : MethodName := ⟨RX6, "home", "(III)I"⟩
abbrev cX6_church : ByteArray := prog_1_method_3_code
def yX6_church : MethodName := ⟨RX6, "church", "(IIII)I"⟩
abbrev cX6_land : ByteArray := prog_1_method_4_code
def yX6_land : MethodName := ⟨RX6, "land", "(IIII)I"⟩
abbrev cX6_ofHome : ByteArray := prog_1_method_5_code
def yX6_ofHome : MethodName := ⟨RX6, "ofHome", "(II)I"⟩
abbrev cX6_ofChurch : ByteArray := prog_1_method_6_code
def yX6_ofChurch : MethodName := ⟨RX6, "ofChurch", "(II)I"⟩
abbrev cX6_bar : ByteArray := prog_1_method_7_code
def yX6_bar : MethodName := ⟨RX6, "bar", "(IIZ)I"⟩
abbrev cX6_seats : ByteArray := prog_1_method_8_code
def yX6_seats : MethodName := ⟨RX6, "seats", "(II)I"⟩
abbrev cX6_toll : ByteArray := prog_1_method_9_code
def yX6_toll : MethodName := ⟨RX6, "toll", "(I)I"⟩
abbrev cX6_far : ByteArray := prog_1_method_10_code
def yX6_far : MethodName := ⟨RX6, "far", "(III)I"⟩
abbrev cX6_miles : ByteArray := prog_1_method_11_code
def yX6_miles : MethodName := ⟨RX6, "miles", "()I"⟩
abbrev cX6_few : ByteArray := prog_1_method_12_code
def yX6_few : MethodName := ⟨RX6, "few", "()I"⟩
abbrev cX6_weight : ByteArray := prog_1_method_13_code
def yX6_weight : MethodName := ⟨RX6, "weight", "(I)I"⟩
abbrev cX6_line : ByteArray := prog_1_method_14_code
def yX6_line : MethodName := ⟨RX6, "line", "(I)I"⟩
abbrev cX6_check : ByteArray := prog_1_method_15_code
def yX6_check : MethodName := ⟨RX6, "check", "(IIII)I"⟩
abbrev cX6_family : ByteArray := prog_1_method_16_code
def yX6_family : MethodName := ⟨RX6, "family", "(I)I"⟩
abbrev cX6_even : ByteArray := prog_1_method_17_code
def yX6_even : MethodName := ⟨RX6, "even", "(I)I"⟩
abbrev cX6_border : ByteArray := prog_1_method_18_code
def yX6_border : MethodName := ⟨RX6, "border", "(III)J"⟩
abbrev cX6_who : ByteArray := prog_1_method_19_code
def yX6_who : MethodName := ⟨RX6, "who", "(II)I"⟩
abbrev cX6_place : ByteArray := prog_1_method_20_code
def yX6_place : MethodName := ⟨RX6, "place", "(II)I"⟩
abbrev cX6_move : ByteArray := prog_1_method_21_code
def yX6_move : MethodName := ⟨RX6, "move", "(I)I"⟩
abbrev cX6_open : ByteArray := prog_1_method_22_code
def yX6_open : MethodName := ⟨RX6, "open", "(I)I"⟩
abbrev cX6_best : ByteArray := prog_1_method_23_code
def yX6_best : MethodName := ⟨RX6, "best", "(I)I"⟩
abbrev cX6_sheet : ByteArray := prog_1_method_24_code
def yX6_sheet : MethodName := ⟨RX6, "sheet", "(III)I"⟩
abbrev cX6_lose : ByteArray := prog_1_method_25_code
def yX6_lose : MethodName := ⟨RX6, "lose", "(I)I"⟩
abbrev cX6_put : ByteArray := prog_1_method_26_code
def yX6_put : MethodName := ⟨RX6, "put", "(III)I"⟩
abbrev cX6_cell : ByteArray := prog_1_method_27_code
def yX6_cell : MethodName := ⟨RX6, "cell", "(III)J"⟩
abbrev cX6_copy : ByteArray := prog_1_method_28_code
def yX6_copy : MethodName := ⟨RX6, "copy", "(IIIII)I"⟩
abbrev cX6_tell : ByteArray := prog_1_method_29_code
def yX6_tell : MethodName := ⟨RX6, "tell", "(I)I"⟩
abbrev cX6_ring : ByteArray := prog_1_method_30_code
def yX6_ring : MethodName := ⟨RX6, "ring", "(I)I"⟩
abbrev cX6_as : ByteArray := prog_1_method_31_code
def yX6_as : MethodName := ⟨RX6, "as", "(II)I"⟩
abbrev cX6_trace : ByteArray := prog_1_method_32_code
def yX6_trace : MethodName := ⟨RX6, "trace", "()I"⟩
abbrev cX6_fault : ByteArray := prog_1_method_33_code
def yX6_fault : MethodName := ⟨RX6, "fault", "()I"⟩
abbrev cX6_many : ByteArray := prog_1_method_34_code
def yX6_many : MethodName := ⟨RX6, "many", "(I)I"⟩
abbrev cX6_isWithin : ByteArray := prog_1_method_35_code
def yX6_isWithin : MethodName := ⟨RX6, "isWithin", "(III)Z"⟩
abbrev cX6_isSpot : ByteArray := prog_1_method_36_code
def yX6_isSpot : MethodName := ⟨RX6, "isSpot", "(II)Z"⟩
abbrev cX6_isSheet : ByteArray := prog_1_method_37_code
def yX6_isSheet : MethodName := ⟨RX6, "isSheet", "(I)Z"⟩
abbrev cX6_isLane : ByteArray := prog_1_method_38_code
def yX6_isLane : MethodName := ⟨RX6, "isLane", "(I)Z"⟩
abbrev cX6_sumOf : ByteArray := prog_1_method_39_code
def yX6_sumOf : MethodName := ⟨RX6, "sumOf", "([II)I"⟩
abbrev cX6_faulty : ByteArray := prog_1_method_40_code
def yX6_faulty : MethodName := ⟨RX6, "faulty", "(I)I"⟩
abbrev cX6_refusalOfRow : ByteArray := prog_1_method_41_code
def yX6_refusalOfRow : MethodName := ⟨RX6, "refusalOfRow", "(IIII)I"⟩
abbrev cX6_leastMiles : ByteArray := prog_1_method_42_code
def yX6_leastMiles : MethodName := ⟨RX6, "leastMiles", "()I"⟩
abbrev cX6_seekFamilies : ByteArray := prog_1_method_43_code
def yX6_seekFamilies : MethodName := ⟨RX6, "seekFamilies", "()V"⟩
abbrev cX6_seekEven : ByteArray := prog_1_method_44_code
def yX6_seekEven : MethodName := ⟨RX6, "seekEven", "()V"⟩
abbrev cX6_shortenLongest : ByteArray := prog_1_method_45_code
def yX6_shortenLongest : MethodName := ⟨RX6, "shortenLongest", "()V"⟩
abbrev cX6_milesOfSet : ByteArray := prog_1_method_46_code
def yX6_milesOfSet : MethodName := ⟨RX6, "milesOfSet", "(I)I"⟩
abbrev cX6_bestPlace : ByteArray := prog_1_method_47_code
def yX6_bestPlace : MethodName := ⟨RX6, "bestPlace", "(I)I"⟩
abbrev cX6_leastChurch : ByteArray := prog_1_method_48_code
def yX6_leastChurch : MethodName := ⟨RX6, "leastChurch", "(II)I"⟩
abbrev cX6_partOfBorder : ByteArray := prog_1_method_49_code
def yX6_partOfBorder : MethodName := ⟨RX6, "partOfBorder", "(III)J"⟩
abbrev cX6_sideOfBorder : ByteArray := prog_1_method_50_code
def yX6_sideOfBorder : MethodName := ⟨RX6, "sideOfBorder", "(I)I"⟩
abbrev cX6_commonDivisor : ByteArray := prog_1_method_51_code
def yX6_commonDivisor : MethodName := ⟨RX6, "commonDivisor", "(II)I"⟩
def RX7 : String := "NearSeatsModel"
def TX7 : u_T := fun k => match k with
  | 0 => ("NearSeatsModel", "fault", "I", false)
  | 1 => ("NearSeatsModel", "homes", "I", false)
  | 2 => ("NearSeatsModel", "homeX", "[I", true)
  | 3 => ("NearSeatsModel", "homeY", "[I", true)
  | 4 => ("NearSeatsModel", "headsOf", "[I", true)
  | 5 => ("NearSeatsModel", "churches", "I", false)
  | 6 => ("NearSeatsModel", "kindOf", "[I", true)
  | 7 => ("NearSeatsModel", "churchX", "[I", true)
  | 8 => ("NearSeatsModel", "churchY", "[I", true)
  | 9 => ("NearSeatsModel", "seatsOf", "[I", true)
  | 10 => ("NearSeatsModel", "isBarred", "[Z", true)
  | 11 => ("NearSeatsModel", "toll", "I", false)
  | 12 => ("NearSeatsModel", "readMany", "I", false)
  | 13 => ("NearSeatsModel", "readKind", "[I", true)
  | 14 => ("NearSeatsModel", "readNumber", "[I", true)
  | 15 => ("NearSeatsModel", "readAt", "I", false)
  | 16 => ("NearSeatsModel", "room", "[I", true)
  | 17 => ("NearSeatsModel", "cost", "[I", true)
  | 18 => ("NearSeatsModel", "sits", "[I", true)
  | 19 => ("NearSeatsModel", "dear", "[I", true)
  | 20 => ("NearSeatsModel", "cameFrom", "[I", true)
  | 21 => ("NearSeatsModel", "whoMoves", "[I", true)
  | 22 => ("NearSeatsModel", "weights", "[I", true)
  | 23 => ("NearSeatsModel", "places", "I", false)
  | 24 => ("NearSeatsModel", "placeX", "[I", true)
  | 25 => ("NearSeatsModel", "placeY", "[I", true)
  | 26 => ("NearSeatsModel", "sheetSize", "[I", true)
  | 27 => ("NearSeatsModel", "sheetLane", "[I", true)
  | 28 => ("NearSeatsModel", "sheet", "[I", true)
  | 29 => ("NearSeatsModel", "hands", "[I", true)
  | _ => ("NearSeatsModel", "traceNow", "I", false)
def tyX7 : Nat → FieldType := fun k => match k with
  | 0 => .int
  | 1 => .int
  | 2 => .array .int
  | 3 => .array .int
  | 4 => .array .int
  | 5 => .int
  | 6 => .array .int
  | 7 => .array .int
  | 8 => .array .int
  | 9 => .array .int
  | 10 => .array .boolean
  | 11 => .int
  | 12 => .int
  | 13 => .array .int
  | 14 => .array .int
  | 15 => .int
  | 16 => .array .int
  | 17 => .array .int
  | 18 => .array .int
  | 19 => .array .int
  | 20 => .array .int
  | 21 => .array .int
  | 22 => .array .int
  | 23 => .int
  | 24 => .array .int
  | 25 => .array .int
  | 26 => .array .int
  | 27 => .array .int
  | 28 => .array .int
  | 29 => .array .int
  | _ => .int
abbrev wsX70 : List Cond := u_ws RX7 TX7 31
theorem nmX7 : ∀ a, a < 31 → ∀ b, b < 31 → a ≠ b → (TX7 a).2.1 ≠ (TX7 b).2.1 := by decide +kernel
theorem tyX7_ok : ∀ k, k < 31 → parseFieldDescriptor (TX7 k).2.2.1 = some (tyX7 k) := by decide +kernel
abbrev cX7_init : ByteArray := prog_9_method_1_code
def yX7_init : MethodName := ⟨RX7, "<init>", "()V"⟩
abbrev cX7_in : ByteArray := prog_9_method_2_code
def yX7_in : MethodName := ⟨RX7, "in", "(JJJ)Z"⟩
abbrev cX7_lost : ByteArray := prog_9_method_3_code
def yX7_lost : MethodName := ⟨RX7, "lost", "()J"⟩
abbrev cX7_hasBit : ByteArray := prog_9_method_4_code
def yX7_hasBit : MethodName := ⟨RX7, "hasBit", "(II)Z"⟩
abbrev cX7_bits : ByteArray := prog_9_method_5_code
def yX7_bits : MethodName := ⟨RX7, "bits", "(I)I"⟩
abbrev cX7_sizeOf : ByteArray := prog_9_method_6_code
def yX7_sizeOf : MethodName := ⟨RX7, "sizeOf", "(I)I"⟩
abbrev cX7_isSpot : ByteArray := prog_9_method_7_code
def yX7_isSpot : MethodName := ⟨RX7, "isSpot", "(II)Z"⟩
abbrev cX7_refused : ByteArray := prog_9_method_8_code
def yX7_refused : MethodName := ⟨RX7, "refused", "(I)I"⟩
abbrev cX7_failed : ByteArray := prog_9_method_9_code
def yX7_failed : MethodName := ⟨RX7, "failed", "(I)I"⟩
abbrev cX7_failedLong : ByteArray := prog_9_method_10_code
def yX7_failedLong : MethodName := ⟨RX7, "failedLong", "(I)J"⟩
abbrev cX7_refusal : ByteArray := prog_9_method_11_code
def yX7_refusal : MethodName := ⟨RX7, "refusal", "(IIIJ)I"⟩
abbrev cX7_noHome : ByteArray := prog_9_method_12_code
def yX7_noHome : MethodName := ⟨RX7, "noHome", "(I)Z"⟩
abbrev cX7_noChurch : ByteArray := prog_9_method_13_code
def yX7_noChurch : MethodName := ⟨RX7, "noChurch", "(I)Z"⟩
abbrev cX7_addHome : ByteArray := prog_9_method_14_code
def yX7_addHome : MethodName := ⟨RX7, "addHome", "(III)V"⟩
abbrev cX7_addChurch : ByteArray := prog_9_method_15_code
def yX7_addChurch : MethodName := ⟨RX7, "addChurch", "(IIII)V"⟩
abbrev cX7_home : ByteArray := prog_9_method_16_code
def yX7_home : MethodName := ⟨RX7, "home", "(III)I"⟩
abbrev cX7_church : ByteArray := prog_9_method_17_code
def yX7_church : MethodName := ⟨RX7, "church", "(IIII)I"⟩
abbrev cX7_kindBy : ByteArray := prog_9_method_18_code
def yX7_kindBy : MethodName := ⟨RX7, "kindBy", "(I)I"⟩
abbrev cX7_readsNumber : ByteArray := prog_9_method_19_code
def yX7_readsNumber : MethodName := ⟨RX7, "readsNumber", "(IIIII)Z"⟩
abbrev cX7_readsSign : ByteArray := prog_9_method_20_code
def yX7_readsSign : MethodName := ⟨RX7, "readsSign", "(III)Z"⟩
abbrev cX7_readsItem : ByteArray := prog_9_method_21_code
def yX7_readsItem : MethodName := ⟨RX7, "readsItem", "(II)Z"⟩
abbrev cX7_read : ByteArray := prog_9_method_22_code
def yX7_read : MethodName := ⟨RX7, "read", "(II)I"⟩
abbrev cX7_land : ByteArray := prog_9_method_23_code
def yX7_land : MethodName := ⟨RX7, "land", "(IIII)I"⟩
abbrev cX7_ofHome : ByteArray := prog_9_method_24_code
def yX7_ofHome : MethodName := ⟨RX7, "ofHome", "(II)I"⟩
abbrev cX7_ofChurch : ByteArray := prog_9_method_25_code
def yX7_ofChurch : MethodName := ⟨RX7, "ofChurch", "(II)I"⟩
abbrev cX7_bar : ByteArray := prog_9_method_26_code
def yX7_bar : MethodName := ⟨RX7, "bar", "(IIZ)I"⟩
abbrev cX7_seats : ByteArray := prog_9_method_27_code
def yX7_seats : MethodName := ⟨RX7, "seats", "(II)I"⟩
abbrev cX7_toll : ByteArray := prog_9_method_28_code
def yX7_toll : MethodName := ⟨RX7, "toll", "(I)I"⟩
abbrev cX7_farOf : ByteArray := prog_9_method_29_code
def yX7_farOf : MethodName := ⟨RX7, "farOf", "(III)I"⟩
abbrev cX7_far : ByteArray := prog_9_method_30_code
def yX7_far : MethodName := ⟨RX7, "far", "(III)I"⟩
abbrev cX7_layCosts : ByteArray := prog_9_method_31_code
def yX7_layCosts : MethodName := ⟨RX7, "layCosts", "(I)V"⟩
abbrev cX7_takenIn : ByteArray := prog_9_method_32_code
def yX7_takenIn : MethodName := ⟨RX7, "takenIn", "(I)I"⟩
abbrev cX7_moverOf : ByteArray := prog_9_method_33_code
def yX7_moverOf : MethodName := ⟨RX7, "moverOf", "(II)I"⟩
abbrev cX7_layDear : ByteArray := prog_9_method_34_code
def yX7_layDear : MethodName := ⟨RX7, "layDear", "(I)V"⟩
abbrev cX7_seatOne : ByteArray := prog_9_method_35_code
def yX7_seatOne : MethodName := ⟨RX7, "seatOne", "(I)I"⟩
abbrev cX7_leastMiles : ByteArray := prog_9_method_36_code
def yX7_leastMiles : MethodName := ⟨RX7, "leastMiles", "()I"⟩
abbrev cX7_milesNow : ByteArray := prog_9_method_37_code
def yX7_milesNow : MethodName := ⟨RX7, "milesNow", "()I"⟩
abbrev cX7_miles : ByteArray := prog_9_method_38_code
def yX7_miles : MethodName := ⟨RX7, "miles", "()I"⟩
abbrev cX7_few : ByteArray := prog_9_method_39_code
def yX7_few : MethodName := ⟨RX7, "few", "()I"⟩
abbrev cX7_layWeights : ByteArray := prog_9_method_40_code
def yX7_layWeights : MethodName := ⟨RX7, "layWeights", "()Z"⟩
abbrev cX7_weight : ByteArray := prog_9_method_41_code
def yX7_weight : MethodName := ⟨RX7, "weight", "(I)I"⟩
abbrev cX7_line : ByteArray := prog_9_method_42_code
def yX7_line : MethodName := ⟨RX7, "line", "(I)I"⟩
abbrev cX7_holdsFor : ByteArray := prog_9_method_43_code
def yX7_holdsFor : MethodName := ⟨RX7, "holdsFor", "(III)Z"⟩
abbrev cX7_holdsIn : ByteArray := prog_9_method_44_code
def yX7_holdsIn : MethodName := ⟨RX7, "holdsIn", "(III)Z"⟩
abbrev cX7_check : ByteArray := prog_9_method_45_code
def yX7_check : MethodName := ⟨RX7, "check", "(IIII)I"⟩
abbrev cX7_churchIn : ByteArray := prog_9_method_46_code
def yX7_churchIn : MethodName := ⟨RX7, "churchIn", "(II)I"⟩
abbrev cX7_rowMiles : ByteArray := prog_9_method_47_code
def yX7_rowMiles : MethodName := ⟨RX7, "rowMiles", "(I)I"⟩
abbrev cX7_family : ByteArray := prog_9_method_48_code
def yX7_family : MethodName := ⟨RX7, "family", "(I)I"⟩
abbrev cX7_even : ByteArray := prog_9_method_49_code
def yX7_even : MethodName := ⟨RX7, "even", "(I)I"⟩
abbrev cX7_common : ByteArray := prog_9_method_50_code
def yX7_common : MethodName := ⟨RX7, "common", "(JJ)J"⟩
abbrev cX7_border : ByteArray := prog_9_method_51_code
def yX7_border : MethodName := ⟨RX7, "border", "(III)J"⟩
abbrev cX7_who : ByteArray := prog_9_method_52_code
def yX7_who : MethodName := ⟨RX7, "who", "(II)I"⟩
abbrev cX7_place : ByteArray := prog_9_method_53_code
def yX7_place : MethodName := ⟨RX7, "place", "(II)I"⟩
abbrev cX7_move : ByteArray := prog_9_method_54_code
def yX7_move : MethodName := ⟨RX7, "move", "(I)I"⟩
abbrev cX7_openMiles : ByteArray := prog_9_method_55_code
def yX7_openMiles : MethodName := ⟨RX7, "openMiles", "(I)I"⟩
abbrev cX7_open : ByteArray := prog_9_method_56_code
def yX7_open : MethodName := ⟨RX7, "open", "(I)I"⟩
abbrev cX7_best : ByteArray := prog_9_method_57_code
def yX7_best : MethodName := ⟨RX7, "best", "(I)I"⟩
abbrev cX7_noSheet : ByteArray := prog_9_method_58_code
def yX7_noSheet : MethodName := ⟨RX7, "noSheet", "(I)Z"⟩
abbrev cX7_sheet : ByteArray := prog_9_method_59_code
def yX7_sheet : MethodName := ⟨RX7, "sheet", "(III)I"⟩
abbrev cX7_lose : ByteArray := prog_9_method_60_code
def yX7_lose : MethodName := ⟨RX7, "lose", "(I)I"⟩
abbrev cX7_noCell : ByteArray := prog_9_method_61_code
def yX7_noCell : MethodName := ⟨RX7, "noCell", "(II)I"⟩
abbrev cX7_put : ByteArray := prog_9_method_62_code
def yX7_put : MethodName := ⟨RX7, "put", "(III)I"⟩
abbrev cX7_cell : ByteArray := prog_9_method_63_code
def yX7_cell : MethodName := ⟨RX7, "cell", "(III)J"⟩
abbrev cX7_isBeyond : ByteArray := prog_9_method_64_code
def yX7_isBeyond : MethodName := ⟨RX7, "isBeyond", "(IJI)Z"⟩
abbrev cX7_copy : ByteArray := prog_9_method_65_code
def yX7_copy : MethodName := ⟨RX7, "copy", "(IIIII)I"⟩
abbrev cX7_traced : ByteArray := prog_9_method_66_code
def yX7_traced : MethodName := ⟨RX7, "traced", "(I)V"⟩
abbrev cX7_tell : ByteArray := prog_9_method_67_code
def yX7_tell : MethodName := ⟨RX7, "tell", "(I)I"⟩
abbrev cX7_ring : ByteArray := prog_9_method_68_code
def yX7_ring : MethodName := ⟨RX7, "ring", "(I)I"⟩
abbrev cX7_as : ByteArray := prog_9_method_69_code
def yX7_as : MethodName := ⟨RX7, "as", "(II)I"⟩
abbrev cX7_trace : ByteArray := prog_9_method_70_code
def yX7_trace : MethodName := ⟨RX7, "trace", "()I"⟩
abbrev cX7_fault : ByteArray := prog_9_method_71_code
def yX7_fault : MethodName := ⟨RX7, "fault", "()I"⟩
abbrev cX7_many : ByteArray := prog_9_method_72_code
def yX7_many : MethodName := ⟨RX7, "many", "(I)I"⟩
def RJ6 : String := "java/lang/Integer"
def TJ6 : u_T := fun k => match k with
  | _ => ("", "", "", false)
def tyJ6 : Nat → FieldType := fun k => match k with
  | _ => .int
abbrev wsJ60 : List Cond := u_ws RJ6 TJ6 0
theorem nmJ6 : ∀ a, a < 0 → ∀ b, b < 0 → a ≠ b → (TJ6 a).2.1 ≠ (TJ6 b).2.1 := by decide +kernel
theorem tyJ6_ok : ∀ k, k < 0 → parseFieldDescriptor (TJ6 k).2.2.1 = some (tyJ6 k) := by decide +kernel
abbrev cJ6_bitCount_0f7a4 : ByteArray := prog_10_method_49_code
def yJ6_bitCount_0f7a4 : MethodName := ⟨RJ6, "bitCount", "(I)I"⟩
def RJ9 : String := "java/lang/Math"
def TJ9 : u_T := fun k => match k with
  | _ => ("", "", "", false)
def tyJ9 : Nat → FieldType := fun k => match k with
  | _ => .int
abbrev wsJ90 : List Cond := u_ws RJ9 TJ9 0
theorem nmJ9 : ∀ a, a < 0 → ∀ b, b < 0 → a ≠ b → (TJ9 a).2.1 ≠ (TJ9 b).2.1 := by decide +kernel
theorem tyJ9_ok : ∀ k, k < 0 → parseFieldDescriptor (TJ9 k).2.2.1 = some (tyJ9 k) := by decide +kernel
abbrev cJ9_abs_0f7a4 : ByteArray := prog_11_method_59_code
def yJ9_abs_0f7a4 : MethodName := ⟨RJ9, "abs", "(I)I"⟩
abbrev cJ9_max_7cf53 : ByteArray := prog_11_method_65_code
def yJ9_max_7cf53 : MethodName := ⟨RJ9, "max", "(II)I"⟩
abbrev cJ9_min_7cf53 : ByteArray := prog_11_method_69_code
def yJ9_min_7cf53 : MethodName := ⟨RJ9, "min", "(II)I"⟩
def RJ10 : String := "java/lang/System"
def TJ10 : u_T := fun k => match k with
  | _ => ("", "", "", false)
def tyJ10 : Nat → FieldType := fun k => match k with
  | _ => .int
abbrev wsJ100 : List Cond := u_ws RJ10 TJ10 0
theorem nmJ10 : ∀ a, a < 0 → ∀ b, b < 0 → a ≠ b → (TJ10 a).2.1 ≠ (TJ10 b).2.1 := by decide +kernel
theorem tyJ10_ok : ∀ k, k < 0 → parseFieldDescriptor (TJ10 k).2.2.1 = some (tyJ10 k) := by decide +kernel
def RL : String := "NearSeatsLaw"
abbrev cL_law : ByteArray := code
def yL_law : MethodName := ⟨RL, "law", "([I)Z"⟩
abbrev vwCl : List vw_C := [(RX0, TX0, 9), (RX1, TX1, 12), (RX2, TX2, 11), (RX3, TX3, 12), (RX4, TX4, 4), (RX5, TX5, 1), (RX6, TX6, 17), (RX7, TX7, 31)]
