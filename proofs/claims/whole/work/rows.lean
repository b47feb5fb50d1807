section
-- ===== PART A: goes FIRST, ahead of the names: the tables' words, and 'selects' of the private methods out of them =====
/-- a private method of a class that the tables say can be made, by its rows of tables_1 -/
def lw_okq (q : MethodName × Nat) : Prop := (q.1.cls ≠ "java/lang/invoke/MethodHandle" ∧ q.1.cls ≠ "java/lang/invoke/VarHandle") ∧ Cond.instantiable q.1.cls q.2 ∈ tables_1 ∧ Cond.privateMethod q.1 ∈ tables_1 ∧ Cond.instanceMethod q.1 ∈ tables_1
theorem lw_p0 : lw_okq (⟨"NearSeats", "refusalOfRow", "(IIII)I"⟩, 17) := ⟨⟨by decide +kernel, by decide +kernel⟩, List.mem_of_getElem? (i := 13) (by decide +kernel), List.mem_of_getElem? (i := 323) (by decide +kernel), List.mem_of_getElem? (i := 324) (by decide +kernel)⟩
theorem lw_p1 : lw_okq (⟨"NearSeats", "faulty", "(I)I"⟩, 17) := ⟨⟨by decide +kernel, by decide +kernel⟩, List.mem_of_getElem? (i := 13) (by decide +kernel), List.mem_of_getElem? (i := 333) (by decide +kernel), List.mem_of_getElem? (i := 334) (by decide +kernel)⟩
theorem lw_p2 : lw_okq (⟨"NearSeats$LandText", "begin", "([III)V"⟩, 11) := ⟨⟨by decide +kernel, by decide +kernel⟩, List.mem_of_getElem? (i := 90) (by decide +kernel), List.mem_of_getElem? (i := 345) (by decide +kernel), List.mem_of_getElem? (i := 346) (by decide +kernel)⟩
theorem lw_p3 : lw_okq (⟨"NearSeats$LandText", "readItem", "(I)V"⟩, 11) := ⟨⟨by decide +kernel, by decide +kernel⟩, List.mem_of_getElem? (i := 90) (by decide +kernel), List.mem_of_getElem? (i := 352) (by decide +kernel), List.mem_of_getElem? (i := 353) (by decide +kernel)⟩
theorem lw_p4 : lw_okq (⟨"NearSeats$LandText", "readKind", "(I)V"⟩, 11) := ⟨⟨by decide +kernel, by decide +kernel⟩, List.mem_of_getElem? (i := 90) (by decide +kernel), List.mem_of_getElem? (i := 356) (by decide +kernel), List.mem_of_getElem? (i := 357) (by decide +kernel)⟩
theorem lw_p5 : lw_okq (⟨"NearSeats$LandText", "codeHere", "()I"⟩, 11) := ⟨⟨by decide +kernel, by decide +kernel⟩, List.mem_of_getElem? (i := 90) (by decide +kernel), List.mem_of_getElem? (i := 360) (by decide +kernel), List.mem_of_getElem? (i := 361) (by decide +kernel)⟩
theorem lw_p6 : lw_okq (⟨"NearSeats$LandText", "failAt", "(I)V"⟩, 11) := ⟨⟨by decide +kernel, by decide +kernel⟩, List.mem_of_getElem? (i := 90) (by decide +kernel), List.mem_of_getElem? (i := 367) (by decide +kernel), List.mem_of_getElem? (i := 368) (by decide +kernel)⟩
theorem lw_p7 : lw_okq (⟨"NearSeats$LandText", "readNumber", "(II)I"⟩, 11) := ⟨⟨by decide +kernel, by decide +kernel⟩, List.mem_of_getElem? (i := 90) (by decide +kernel), List.mem_of_getElem? (i := 371) (by decide +kernel), List.mem_of_getElem? (i := 372) (by decide +kernel)⟩
theorem lw_p8 : lw_okq (⟨"NearSeats$LandText", "takeCode", "(I)V"⟩, 11) := ⟨⟨by decide +kernel, by decide +kernel⟩, List.mem_of_getElem? (i := 90) (by decide +kernel), List.mem_of_getElem? (i := 379) (by decide +kernel), List.mem_of_getElem? (i := 380) (by decide +kernel)⟩
theorem lw_p9 : lw_okq (⟨"NearSeats", "leastMiles", "()I"⟩, 17) := ⟨⟨by decide +kernel, by decide +kernel⟩, List.mem_of_getElem? (i := 13) (by decide +kernel), List.mem_of_getElem? (i := 456) (by decide +kernel), List.mem_of_getElem? (i := 457) (by decide +kernel)⟩
theorem lw_p10 : lw_okq (⟨"NearSeats$Sender", "seatHome", "(I)Z"⟩, 12) := ⟨⟨by decide +kernel, by decide +kernel⟩, List.mem_of_getElem? (i := 131) (by decide +kernel), List.mem_of_getElem? (i := 475) (by decide +kernel), List.mem_of_getElem? (i := 476) (by decide +kernel)⟩
theorem lw_p11 : lw_okq (⟨"NearSeats$Sender", "findSteps", "()V"⟩, 12) := ⟨⟨by decide +kernel, by decide +kernel⟩, List.mem_of_getElem? (i := 131) (by decide +kernel), List.mem_of_getElem? (i := 479) (by decide +kernel), List.mem_of_getElem? (i := 480) (by decide +kernel)⟩
theorem lw_p12 : lw_okq (⟨"NearSeats$Sender", "findStepsOf", "(II)V"⟩, 12) := ⟨⟨by decide +kernel, by decide +kernel⟩, List.mem_of_getElem? (i := 131) (by decide +kernel), List.mem_of_getElem? (i := 483) (by decide +kernel), List.mem_of_getElem? (i := 484) (by decide +kernel)⟩
theorem lw_p13 : lw_okq (⟨"NearSeats$Sender", "startAt", "(I)V"⟩, 12) := ⟨⟨by decide +kernel, by decide +kernel⟩, List.mem_of_getElem? (i := 131) (by decide +kernel), List.mem_of_getElem? (i := 487) (by decide +kernel), List.mem_of_getElem? (i := 488) (by decide +kernel)⟩
theorem lw_p14 : lw_okq (⟨"NearSeats$Sender", "spread", "()V"⟩, 12) := ⟨⟨by decide +kernel, by decide +kernel⟩, List.mem_of_getElem? (i := 131) (by decide +kernel), List.mem_of_getElem? (i := 491) (by decide +kernel), List.mem_of_getElem? (i := 492) (by decide +kernel)⟩
theorem lw_p15 : lw_okq (⟨"NearSeats$Sender", "spreadFrom", "(I)Z"⟩, 12) := ⟨⟨by decide +kernel, by decide +kernel⟩, List.mem_of_getElem? (i := 131) (by decide +kernel), List.mem_of_getElem? (i := 495) (by decide +kernel), List.mem_of_getElem? (i := 496) (by decide +kernel)⟩
def lw_privs_1 : List (MethodName × Nat) := [(⟨"NearSeats", "refusalOfRow", "(IIII)I"⟩, 17), (⟨"NearSeats", "faulty", "(I)I"⟩, 17), (⟨"NearSeats$LandText", "begin", "([III)V"⟩, 11), (⟨"NearSeats$LandText", "readItem", "(I)V"⟩, 11), (⟨"NearSeats$LandText", "readKind", "(I)V"⟩, 11), (⟨"NearSeats$LandText", "codeHere", "()I"⟩, 11), (⟨"NearSeats$LandText", "failAt", "(I)V"⟩, 11), (⟨"NearSeats$LandText", "readNumber", "(II)I"⟩, 11), (⟨"NearSeats$LandText", "takeCode", "(I)V"⟩, 11), (⟨"NearSeats", "leastMiles", "()I"⟩, 17), (⟨"NearSeats$Sender", "seatHome", "(I)Z"⟩, 12), (⟨"NearSeats$Sender", "findSteps", "()V"⟩, 12), (⟨"NearSeats$Sender", "findStepsOf", "(II)V"⟩, 12), (⟨"NearSeats$Sender", "startAt", "(I)V"⟩, 12), (⟨"NearSeats$Sender", "spread", "()V"⟩, 12), (⟨"NearSeats$Sender", "spreadFrom", "(I)Z"⟩, 12)]
theorem lw_r1 : ∀ q ∈ lw_privs_1, lw_okq q := List.forall_mem_cons.mpr ⟨lw_p0, List.forall_mem_cons.mpr ⟨lw_p1, List.forall_mem_cons.mpr ⟨lw_p2, List.forall_mem_cons.mpr ⟨lw_p3, List.forall_mem_cons.mpr ⟨lw_p4, List.forall_mem_cons.mpr ⟨lw_p5, List.forall_mem_cons.mpr ⟨lw_p6, List.forall_mem_cons.mpr ⟨lw_p7, List.forall_mem_cons.mpr ⟨lw_p8, List.forall_mem_cons.mpr ⟨lw_p9, List.forall_mem_cons.mpr ⟨lw_p10, List.forall_mem_cons.mpr ⟨lw_p11, List.forall_mem_cons.mpr ⟨lw_p12, List.forall_mem_cons.mpr ⟨lw_p13, List.forall_mem_cons.mpr ⟨lw_p14, List.forall_mem_cons.mpr ⟨lw_p15, fun _ h => absurd h List.not_mem_nil⟩⟩⟩⟩⟩⟩⟩⟩⟩⟩⟩⟩⟩⟩⟩⟩
theorem lw_p16 : lw_okq (⟨"NearSeats$Sender", "cheapestWithRoom", "()I"⟩, 12) := ⟨⟨by decide +kernel, by decide +kernel⟩, List.mem_of_getElem? (i := 131) (by decide +kernel), List.mem_of_getElem? (i := 499) (by decide +kernel), List.mem_of_getElem? (i := 500) (by decide +kernel)⟩
theorem lw_p17 : lw_okq (⟨"NearSeats$Sender", "seatAlong", "(III)I"⟩, 12) := ⟨⟨by decide +kernel, by decide +kernel⟩, List.mem_of_getElem? (i := 131) (by decide +kernel), List.mem_of_getElem? (i := 503) (by decide +kernel), List.mem_of_getElem? (i := 504) (by decide +kernel)⟩
theorem lw_p18 : lw_okq (⟨"NearSeats$Sender", "moverTo", "(I)I"⟩, 12) := ⟨⟨by decide +kernel, by decide +kernel⟩, List.mem_of_getElem? (i := 131) (by decide +kernel), List.mem_of_getElem? (i := 510) (by decide +kernel), List.mem_of_getElem? (i := 511) (by decide +kernel)⟩
theorem lw_p19 : lw_okq (⟨"NearSeats$Sender", "sumOfMiles", "()I"⟩, 12) := ⟨⟨by decide +kernel, by decide +kernel⟩, List.mem_of_getElem? (i := 131) (by decide +kernel), List.mem_of_getElem? (i := 514) (by decide +kernel), List.mem_of_getElem? (i := 515) (by decide +kernel)⟩
theorem lw_p20 : lw_okq (⟨"NearSeats$Land", "allOfHomeGo", "(I[II)Z"⟩, 12) := ⟨⟨by decide +kernel, by decide +kernel⟩, List.mem_of_getElem? (i := 21) (by decide +kernel), List.mem_of_getElem? (i := 553) (by decide +kernel), List.mem_of_getElem? (i := 554) (by decide +kernel)⟩
theorem lw_p21 : lw_okq (⟨"NearSeats$Land", "numberFits", "(I[III)Z"⟩, 12) := ⟨⟨by decide +kernel, by decide +kernel⟩, List.mem_of_getElem? (i := 21) (by decide +kernel), List.mem_of_getElem? (i := 558) (by decide +kernel), List.mem_of_getElem? (i := 559) (by decide +kernel)⟩
theorem lw_p22 : lw_okq (⟨"NearSeats$Land", "goesToLeast", "(I[III)Z"⟩, 12) := ⟨⟨by decide +kernel, by decide +kernel⟩, List.mem_of_getElem? (i := 21) (by decide +kernel), List.mem_of_getElem? (i := 563) (by decide +kernel), List.mem_of_getElem? (i := 564) (by decide +kernel)⟩
theorem lw_p23 : lw_okq (⟨"NearSeats", "seekFamilies", "()V"⟩, 17) := ⟨⟨by decide +kernel, by decide +kernel⟩, List.mem_of_getElem? (i := 13) (by decide +kernel), List.mem_of_getElem? (i := 575) (by decide +kernel), List.mem_of_getElem? (i := 576) (by decide +kernel)⟩
theorem lw_p24 : lw_okq (⟨"NearSeats$Families", "loadHome", "(LNearSeats$Land;I)I"⟩, 9) := ⟨⟨by decide +kernel, by decide +kernel⟩, List.mem_of_getElem? (i := 175) (by decide +kernel), List.mem_of_getElem? (i := 585) (by decide +kernel), List.mem_of_getElem? (i := 586) (by decide +kernel)⟩
theorem lw_p25 : lw_okq (⟨"NearSeats$Families", "tryHome", "(II)V"⟩, 9) := ⟨⟨by decide +kernel, by decide +kernel⟩, List.mem_of_getElem? (i := 175) (by decide +kernel), List.mem_of_getElem? (i := 591) (by decide +kernel), List.mem_of_getElem? (i := 592) (by decide +kernel)⟩
theorem lw_p26 : lw_okq (⟨"NearSeats$Families", "keep", "(I)V"⟩, 9) := ⟨⟨by decide +kernel, by decide +kernel⟩, List.mem_of_getElem? (i := 175) (by decide +kernel), List.mem_of_getElem? (i := 595) (by decide +kernel), List.mem_of_getElem? (i := 596) (by decide +kernel)⟩
theorem lw_p27 : lw_okq (⟨"NearSeats", "seekEven", "()V"⟩, 17) := ⟨⟨by decide +kernel, by decide +kernel⟩, List.mem_of_getElem? (i := 13) (by decide +kernel), List.mem_of_getElem? (i := 604) (by decide +kernel), List.mem_of_getElem? (i := 605) (by decide +kernel)⟩
theorem lw_p28 : lw_okq (⟨"NearSeats", "shortenLongest", "()V"⟩, 17) := ⟨⟨by decide +kernel, by decide +kernel⟩, List.mem_of_getElem? (i := 13) (by decide +kernel), List.mem_of_getElem? (i := 612) (by decide +kernel), List.mem_of_getElem? (i := 613) (by decide +kernel)⟩
theorem lw_p29 : lw_okq (⟨"NearSeats", "partOfBorder", "(III)J"⟩, 17) := ⟨⟨by decide +kernel, by decide +kernel⟩, List.mem_of_getElem? (i := 13) (by decide +kernel), List.mem_of_getElem? (i := 629) (by decide +kernel), List.mem_of_getElem? (i := 630) (by decide +kernel)⟩
theorem lw_p30 : lw_okq (⟨"NearSeats", "sideOfBorder", "(I)I"⟩, 17) := ⟨⟨by decide +kernel, by decide +kernel⟩, List.mem_of_getElem? (i := 13) (by decide +kernel), List.mem_of_getElem? (i := 633) (by decide +kernel), List.mem_of_getElem? (i := 634) (by decide +kernel)⟩
theorem lw_p31 : lw_okq (⟨"NearSeats", "leastChurch", "(II)I"⟩, 17) := ⟨⟨by decide +kernel, by decide +kernel⟩, List.mem_of_getElem? (i := 13) (by decide +kernel), List.mem_of_getElem? (i := 645) (by decide +kernel), List.mem_of_getElem? (i := 646) (by decide +kernel)⟩
def lw_privs_2 : List (MethodName × Nat) := [(⟨"NearSeats$Sender", "cheapestWithRoom", "()I"⟩, 12), (⟨"NearSeats$Sender", "seatAlong", "(III)I"⟩, 12), (⟨"NearSeats$Sender", "moverTo", "(I)I"⟩, 12), (⟨"NearSeats$Sender", "sumOfMiles", "()I"⟩, 12), (⟨"NearSeats$Land", "allOfHomeGo", "(I[II)Z"⟩, 12), (⟨"NearSeats$Land", "numberFits", "(I[III)Z"⟩, 12), (⟨"NearSeats$Land", "goesToLeast", "(I[III)Z"⟩, 12), (⟨"NearSeats", "seekFamilies", "()V"⟩, 17), (⟨"NearSeats$Families", "loadHome", "(LNearSeats$Land;I)I"⟩, 9), (⟨"NearSeats$Families", "tryHome", "(II)V"⟩, 9), (⟨"NearSeats$Families", "keep", "(I)V"⟩, 9), (⟨"NearSeats", "seekEven", "()V"⟩, 17), (⟨"NearSeats", "shortenLongest", "()V"⟩, 17), (⟨"NearSeats", "partOfBorder", "(III)J"⟩, 17), (⟨"NearSeats", "sideOfBorder", "(I)I"⟩, 17), (⟨"NearSeats", "leastChurch", "(II)I"⟩, 17)]
theorem lw_r2 : ∀ q ∈ lw_privs_2, lw_okq q := List.forall_mem_cons.mpr ⟨lw_p16, List.forall_mem_cons.mpr ⟨lw_p17, List.forall_mem_cons.mpr ⟨lw_p18, List.forall_mem_cons.mpr ⟨lw_p19, List.forall_mem_cons.mpr ⟨lw_p20, List.forall_mem_cons.mpr ⟨lw_p21, List.forall_mem_cons.mpr ⟨lw_p22, List.forall_mem_cons.mpr ⟨lw_p23, List.forall_mem_cons.mpr ⟨lw_p24, List.forall_mem_cons.mpr ⟨lw_p25, List.forall_mem_cons.mpr ⟨lw_p26, List.forall_mem_cons.mpr ⟨lw_p27, List.forall_mem_cons.mpr ⟨lw_p28, List.forall_mem_cons.mpr ⟨lw_p29, List.forall_mem_cons.mpr ⟨lw_p30, List.forall_mem_cons.mpr ⟨lw_p31, fun _ h => absurd h List.not_mem_nil⟩⟩⟩⟩⟩⟩⟩⟩⟩⟩⟩⟩⟩⟩⟩⟩
theorem lw_p32 : lw_okq (⟨"NearSeats", "bestPlace", "(I)I"⟩, 17) := ⟨⟨by decide +kernel, by decide +kernel⟩, List.mem_of_getElem? (i := 13) (by decide +kernel), List.mem_of_getElem? (i := 657) (by decide +kernel), List.mem_of_getElem? (i := 658) (by decide +kernel)⟩
theorem lw_p33 : lw_okq (⟨"NearSeats", "milesOfSet", "(I)I"⟩, 17) := ⟨⟨by decide +kernel, by decide +kernel⟩, List.mem_of_getElem? (i := 13) (by decide +kernel), List.mem_of_getElem? (i := 670) (by decide +kernel), List.mem_of_getElem? (i := 671) (by decide +kernel)⟩
theorem lw_p34 : lw_okq (⟨"NearSeats$Teller", "squareTells", "(I)I"⟩, 1) := ⟨⟨by decide +kernel, by decide +kernel⟩, List.mem_of_getElem? (i := 211) (by decide +kernel), List.mem_of_getElem? (i := 729) (by decide +kernel), List.mem_of_getElem? (i := 730) (by decide +kernel)⟩
theorem lw_p35 : lw_okq (⟨"NearSeats$Teller", "leave", "(I)V"⟩, 1) := ⟨⟨by decide +kernel, by decide +kernel⟩, List.mem_of_getElem? (i := 211) (by decide +kernel), List.mem_of_getElem? (i := 733) (by decide +kernel), List.mem_of_getElem? (i := 734) (by decide +kernel)⟩
theorem lw_p36 : lw_okq (⟨"NearSeats$Teller", "stepsTells", "(I)I"⟩, 1) := ⟨⟨by decide +kernel, by decide +kernel⟩, List.mem_of_getElem? (i := 211) (by decide +kernel), List.mem_of_getElem? (i := 737) (by decide +kernel), List.mem_of_getElem? (i := 738) (by decide +kernel)⟩
theorem lw_p37 : lw_okq (⟨"NearSeats$Teller", "ferryTells", "(I)I"⟩, 1) := ⟨⟨by decide +kernel, by decide +kernel⟩, List.mem_of_getElem? (i := 211) (by decide +kernel), List.mem_of_getElem? (i := 741) (by decide +kernel), List.mem_of_getElem? (i := 742) (by decide +kernel)⟩
theorem lw_p38 : lw_okq (⟨"NearSeatsModel", "addHome", "(III)V"⟩, 31) := ⟨⟨by decide +kernel, by decide +kernel⟩, List.mem_of_getElem? (i := 772) (by decide +kernel), List.mem_of_getElem? (i := 885) (by decide +kernel), List.mem_of_getElem? (i := 886) (by decide +kernel)⟩
theorem lw_p39 : lw_okq (⟨"NearSeatsModel", "addChurch", "(IIII)V"⟩, 31) := ⟨⟨by decide +kernel, by decide +kernel⟩, List.mem_of_getElem? (i := 772) (by decide +kernel), List.mem_of_getElem? (i := 895) (by decide +kernel), List.mem_of_getElem? (i := 896) (by decide +kernel)⟩
theorem lw_p40 : lw_okq (⟨"NearSeatsModel", "refused", "(I)I"⟩, 31) := ⟨⟨by decide +kernel, by decide +kernel⟩, List.mem_of_getElem? (i := 772) (by decide +kernel), List.mem_of_getElem? (i := 907) (by decide +kernel), List.mem_of_getElem? (i := 908) (by decide +kernel)⟩
theorem lw_p41 : lw_okq (⟨"NearSeatsModel", "refusal", "(IIIJ)I"⟩, 31) := ⟨⟨by decide +kernel, by decide +kernel⟩, List.mem_of_getElem? (i := 772) (by decide +kernel), List.mem_of_getElem? (i := 911) (by decide +kernel), List.mem_of_getElem? (i := 912) (by decide +kernel)⟩
theorem lw_p42 : lw_okq (⟨"NearSeatsModel", "failed", "(I)I"⟩, 31) := ⟨⟨by decide +kernel, by decide +kernel⟩, List.mem_of_getElem? (i := 772) (by decide +kernel), List.mem_of_getElem? (i := 915) (by decide +kernel), List.mem_of_getElem? (i := 916) (by decide +kernel)⟩
theorem lw_p43 : lw_okq (⟨"NearSeatsModel", "read", "(II)I"⟩, 31) := ⟨⟨by decide +kernel, by decide +kernel⟩, List.mem_of_getElem? (i := 772) (by decide +kernel), List.mem_of_getElem? (i := 922) (by decide +kernel), List.mem_of_getElem? (i := 923) (by decide +kernel)⟩
theorem lw_p44 : lw_okq (⟨"NearSeatsModel", "readsItem", "(II)Z"⟩, 31) := ⟨⟨by decide +kernel, by decide +kernel⟩, List.mem_of_getElem? (i := 772) (by decide +kernel), List.mem_of_getElem? (i := 926) (by decide +kernel), List.mem_of_getElem? (i := 927) (by decide +kernel)⟩
theorem lw_p45 : lw_okq (⟨"NearSeatsModel", "readsNumber", "(IIIII)Z"⟩, 31) := ⟨⟨by decide +kernel, by decide +kernel⟩, List.mem_of_getElem? (i := 772) (by decide +kernel), List.mem_of_getElem? (i := 933) (by decide +kernel), List.mem_of_getElem? (i := 934) (by decide +kernel)⟩
theorem lw_p46 : lw_okq (⟨"NearSeatsModel", "readsSign", "(III)Z"⟩, 31) := ⟨⟨by decide +kernel, by decide +kernel⟩, List.mem_of_getElem? (i := 772) (by decide +kernel), List.mem_of_getElem? (i := 939) (by decide +kernel), List.mem_of_getElem? (i := 940) (by decide +kernel)⟩
theorem lw_p47 : lw_okq (⟨"NearSeatsModel", "noHome", "(I)Z"⟩, 31) := ⟨⟨by decide +kernel, by decide +kernel⟩, List.mem_of_getElem? (i := 772) (by decide +kernel), List.mem_of_getElem? (i := 947) (by decide +kernel), List.mem_of_getElem? (i := 948) (by decide +kernel)⟩
def lw_privs_3 : List (MethodName × Nat) := [(⟨"NearSeats", "bestPlace", "(I)I"⟩, 17), (⟨"NearSeats", "milesOfSet", "(I)I"⟩, 17), (⟨"NearSeats$Teller", "squareTells", "(I)I"⟩, 1), (⟨"NearSeats$Teller", "leave", "(I)V"⟩, 1), (⟨"NearSeats$Teller", "stepsTells", "(I)I"⟩, 1), (⟨"NearSeats$Teller", "ferryTells", "(I)I"⟩, 1), (⟨"NearSeatsModel", "addHome", "(III)V"⟩, 31), (⟨"NearSeatsModel", "addChurch", "(IIII)V"⟩, 31), (⟨"NearSeatsModel", "refused", "(I)I"⟩, 31), (⟨"NearSeatsModel", "refusal", "(IIIJ)I"⟩, 31), (⟨"NearSeatsModel", "failed", "(I)I"⟩, 31), (⟨"NearSeatsModel", "read", "(II)I"⟩, 31), (⟨"NearSeatsModel", "readsItem", "(II)Z"⟩, 31), (⟨"NearSeatsModel", "readsNumber", "(IIIII)Z"⟩, 31), (⟨"NearSeatsModel", "readsSign", "(III)Z"⟩, 31), (⟨"NearSeatsModel", "noHome", "(I)Z"⟩, 31)]
theorem lw_r3 : ∀ q ∈ lw_privs_3, lw_okq q := List.forall_mem_cons.mpr ⟨lw_p32, List.forall_mem_cons.mpr ⟨lw_p33, List.forall_mem_cons.mpr ⟨lw_p34, List.forall_mem_cons.mpr ⟨lw_p35, List.forall_mem_cons.mpr ⟨lw_p36, List.forall_mem_cons.mpr ⟨lw_p37, List.forall_mem_cons.mpr ⟨lw_p38, List.forall_mem_cons.mpr ⟨lw_p39, List.forall_mem_cons.mpr ⟨lw_p40, List.forall_mem_cons.mpr ⟨lw_p41, List.forall_mem_cons.mpr ⟨lw_p42, List.forall_mem_cons.mpr ⟨lw_p43, List.forall_mem_cons.mpr ⟨lw_p44, List.forall_mem_cons.mpr ⟨lw_p45, List.forall_mem_cons.mpr ⟨lw_p46, List.forall_mem_cons.mpr ⟨lw_p47, fun _ h => absurd h List.not_mem_nil⟩⟩⟩⟩⟩⟩⟩⟩⟩⟩⟩⟩⟩⟩⟩⟩
theorem lw_p48 : lw_okq (⟨"NearSeatsModel", "noChurch", "(I)Z"⟩, 31) := ⟨⟨by decide +kernel, by decide +kernel⟩, List.mem_of_getElem? (i := 772) (by decide +kernel), List.mem_of_getElem? (i := 955) (by decide +kernel), List.mem_of_getElem? (i := 956) (by decide +kernel)⟩
theorem lw_p49 : lw_okq (⟨"NearSeatsModel", "farOf", "(III)I"⟩, 31) := ⟨⟨by decide +kernel, by decide +kernel⟩, List.mem_of_getElem? (i := 772) (by decide +kernel), List.mem_of_getElem? (i := 976) (by decide +kernel), List.mem_of_getElem? (i := 977) (by decide +kernel)⟩
theorem lw_p50 : lw_okq (⟨"NearSeatsModel", "milesNow", "()I"⟩, 31) := ⟨⟨by decide +kernel, by decide +kernel⟩, List.mem_of_getElem? (i := 772) (by decide +kernel), List.mem_of_getElem? (i := 987) (by decide +kernel), List.mem_of_getElem? (i := 988) (by decide +kernel)⟩
theorem lw_p51 : lw_okq (⟨"NearSeatsModel", "layCosts", "(I)V"⟩, 31) := ⟨⟨by decide +kernel, by decide +kernel⟩, List.mem_of_getElem? (i := 772) (by decide +kernel), List.mem_of_getElem? (i := 992) (by decide +kernel), List.mem_of_getElem? (i := 993) (by decide +kernel)⟩
theorem lw_p52 : lw_okq (⟨"NearSeatsModel", "leastMiles", "()I"⟩, 31) := ⟨⟨by decide +kernel, by decide +kernel⟩, List.mem_of_getElem? (i := 772) (by decide +kernel), List.mem_of_getElem? (i := 997) (by decide +kernel), List.mem_of_getElem? (i := 998) (by decide +kernel)⟩
theorem lw_p53 : lw_okq (⟨"NearSeatsModel", "seatOne", "(I)I"⟩, 31) := ⟨⟨by decide +kernel, by decide +kernel⟩, List.mem_of_getElem? (i := 772) (by decide +kernel), List.mem_of_getElem? (i := 1001) (by decide +kernel), List.mem_of_getElem? (i := 1002) (by decide +kernel)⟩
theorem lw_p54 : lw_okq (⟨"NearSeatsModel", "layDear", "(I)V"⟩, 31) := ⟨⟨by decide +kernel, by decide +kernel⟩, List.mem_of_getElem? (i := 772) (by decide +kernel), List.mem_of_getElem? (i := 1005) (by decide +kernel), List.mem_of_getElem? (i := 1006) (by decide +kernel)⟩
theorem lw_p55 : lw_okq (⟨"NearSeatsModel", "moverOf", "(II)I"⟩, 31) := ⟨⟨by decide +kernel, by decide +kernel⟩, List.mem_of_getElem? (i := 772) (by decide +kernel), List.mem_of_getElem? (i := 1009) (by decide +kernel), List.mem_of_getElem? (i := 1010) (by decide +kernel)⟩
theorem lw_p56 : lw_okq (⟨"NearSeatsModel", "takenIn", "(I)I"⟩, 31) := ⟨⟨by decide +kernel, by decide +kernel⟩, List.mem_of_getElem? (i := 772) (by decide +kernel), List.mem_of_getElem? (i := 1013) (by decide +kernel), List.mem_of_getElem? (i := 1014) (by decide +kernel)⟩
theorem lw_p57 : lw_okq (⟨"NearSeatsModel", "layWeights", "()Z"⟩, 31) := ⟨⟨by decide +kernel, by decide +kernel⟩, List.mem_of_getElem? (i := 772) (by decide +kernel), List.mem_of_getElem? (i := 1028) (by decide +kernel), List.mem_of_getElem? (i := 1029) (by decide +kernel)⟩
theorem lw_p58 : lw_okq (⟨"NearSeatsModel", "holdsIn", "(III)Z"⟩, 31) := ⟨⟨by decide +kernel, by decide +kernel⟩, List.mem_of_getElem? (i := 772) (by decide +kernel), List.mem_of_getElem? (i := 1040) (by decide +kernel), List.mem_of_getElem? (i := 1041) (by decide +kernel)⟩
theorem lw_p59 : lw_okq (⟨"NearSeatsModel", "holdsFor", "(III)Z"⟩, 31) := ⟨⟨by decide +kernel, by decide +kernel⟩, List.mem_of_getElem? (i := 772) (by decide +kernel), List.mem_of_getElem? (i := 1045) (by decide +kernel), List.mem_of_getElem? (i := 1046) (by decide +kernel)⟩
theorem lw_p60 : lw_okq (⟨"NearSeatsModel", "rowMiles", "(I)I"⟩, 31) := ⟨⟨by decide +kernel, by decide +kernel⟩, List.mem_of_getElem? (i := 772) (by decide +kernel), List.mem_of_getElem? (i := 1055) (by decide +kernel), List.mem_of_getElem? (i := 1056) (by decide +kernel)⟩
theorem lw_p61 : lw_okq (⟨"NearSeatsModel", "churchIn", "(II)I"⟩, 31) := ⟨⟨by decide +kernel, by decide +kernel⟩, List.mem_of_getElem? (i := 772) (by decide +kernel), List.mem_of_getElem? (i := 1059) (by decide +kernel), List.mem_of_getElem? (i := 1060) (by decide +kernel)⟩
theorem lw_p62 : lw_okq (⟨"NearSeatsModel", "openMiles", "(I)I"⟩, 31) := ⟨⟨by decide +kernel, by decide +kernel⟩, List.mem_of_getElem? (i := 772) (by decide +kernel), List.mem_of_getElem? (i := 1094) (by decide +kernel), List.mem_of_getElem? (i := 1095) (by decide +kernel)⟩
theorem lw_p63 : lw_okq (⟨"NearSeatsModel", "noCell", "(II)I"⟩, 31) := ⟨⟨by decide +kernel, by decide +kernel⟩, List.mem_of_getElem? (i := 772) (by decide +kernel), List.mem_of_getElem? (i := 1117) (by decide +kernel), List.mem_of_getElem? (i := 1118) (by decide +kernel)⟩
def lw_privs_4 : List (MethodName × Nat) := [(⟨"NearSeatsModel", "noChurch", "(I)Z"⟩, 31), (⟨"NearSeatsModel", "farOf", "(III)I"⟩, 31), (⟨"NearSeatsModel", "milesNow", "()I"⟩, 31), (⟨"NearSeatsModel", "layCosts", "(I)V"⟩, 31), (⟨"NearSeatsModel", "leastMiles", "()I"⟩, 31), (⟨"NearSeatsModel", "seatOne", "(I)I"⟩, 31), (⟨"NearSeatsModel", "layDear", "(I)V"⟩, 31), (⟨"NearSeatsModel", "moverOf", "(II)I"⟩, 31), (⟨"NearSeatsModel", "takenIn", "(I)I"⟩, 31), (⟨"NearSeatsModel", "layWeights", "()Z"⟩, 31), (⟨"NearSeatsModel", "holdsIn", "(III)Z"⟩, 31), (⟨"NearSeatsModel", "holdsFor", "(III)Z"⟩, 31), (⟨"NearSeatsModel", "rowMiles", "(I)I"⟩, 31), (⟨"NearSeatsModel", "churchIn", "(II)I"⟩, 31), (⟨"NearSeatsModel", "openMiles", "(I)I"⟩, 31), (⟨"NearSeatsModel", "noCell", "(II)I"⟩, 31)]
theorem lw_r4 : ∀ q ∈ lw_privs_4, lw_okq q := List.forall_mem_cons.mpr ⟨lw_p48, List.forall_mem_cons.mpr ⟨lw_p49, List.forall_mem_cons.mpr ⟨lw_p50, List.forall_mem_cons.mpr ⟨lw_p51, List.forall_mem_cons.mpr ⟨lw_p52, List.forall_mem_cons.mpr ⟨lw_p53, List.forall_mem_cons.mpr ⟨lw_p54, List.forall_mem_cons.mpr ⟨lw_p55, List.forall_mem_cons.mpr ⟨lw_p56, List.forall_mem_cons.mpr ⟨lw_p57, List.forall_mem_cons.mpr ⟨lw_p58, List.forall_mem_cons.mpr ⟨lw_p59, List.forall_mem_cons.mpr ⟨lw_p60, List.forall_mem_cons.mpr ⟨lw_p61, List.forall_mem_cons.mpr ⟨lw_p62, List.forall_mem_cons.mpr ⟨lw_p63, fun _ h => absurd h List.not_mem_nil⟩⟩⟩⟩⟩⟩⟩⟩⟩⟩⟩⟩⟩⟩⟩⟩
theorem lw_p64 : lw_okq (⟨"NearSeatsModel", "failedLong", "(I)J"⟩, 31) := ⟨⟨by decide +kernel, by decide +kernel⟩, List.mem_of_getElem? (i := 772) (by decide +kernel), List.mem_of_getElem? (i := 1125) (by decide +kernel), List.mem_of_getElem? (i := 1126) (by decide +kernel)⟩
theorem lw_p65 : lw_okq (⟨"NearSeatsModel", "traced", "(I)V"⟩, 31) := ⟨⟨by decide +kernel, by decide +kernel⟩, List.mem_of_getElem? (i := 772) (by decide +kernel), List.mem_of_getElem? (i := 1137) (by decide +kernel), List.mem_of_getElem? (i := 1138) (by decide +kernel)⟩
def lw_privs_5 : List (MethodName × Nat) := [(⟨"NearSeatsModel", "failedLong", "(I)J"⟩, 31), (⟨"NearSeatsModel", "traced", "(I)V"⟩, 31)]
theorem lw_r5 : ∀ q ∈ lw_privs_5, lw_okq q := List.forall_mem_cons.mpr ⟨lw_p64, List.forall_mem_cons.mpr ⟨lw_p65, fun _ h => absurd h List.not_mem_nil⟩⟩
def lw_privs : List (MethodName × Nat) := lw_privs_1 ++ (lw_privs_2 ++ (lw_privs_3 ++ (lw_privs_4 ++ (lw_privs_5))))
def lw_tbl : List Cond := k2_sels lw_privs ++ tables_1
theorem lw_privs_ok : ∀ q ∈ lw_privs, lw_okq q := by
  show ∀ q ∈ lw_privs_1 ++ (lw_privs_2 ++ (lw_privs_3 ++ (lw_privs_4 ++ (lw_privs_5)))), lw_okq q
  exact List.forall_mem_append.mpr ⟨lw_r1, List.forall_mem_append.mpr ⟨lw_r2, List.forall_mem_append.mpr ⟨lw_r3, List.forall_mem_append.mpr ⟨lw_r4, lw_r5⟩⟩⟩⟩
def RX0 : String := "NearSeats$Families"
def TX0 : u_T := fun k => match k with
  | 0 => ("NearSeats$Families", "cost", "[I", true)
  | 1 => ("NearSeats$Families", "heads", "[I", true)
  | 2 => ("NearSeats$Families", "left", "[I", true)
  | 3 => ("NearSeats$Families", "atLeast", "[I", true)
  | 4 => ("NearSeats$Families", "tried", "[I", true)
  | 5 => ("NearSeats$Families", "chosen", "[I", true)
  | 6 => ("NearSeats$Families", "homes", "I", false)
  | 7 => ("NearSeats$Families", "churches", "I", false)
  | _ => ("NearSeats$Families", "least", "I", false)
def tyX0 : Nat → FieldType := fun k => match k with
  | 0 => .array .int
  | 1 => .array .int
  | 2 => .array .int
  | 3 => .array .int
  | 4 => .array .int
  | 5 => .array .int
  | 6 => .int
  | 7 => .int
  | _ => .int
abbrev wsX00 : List Cond := u_ws RX0 TX0 9
theorem nmX0 : ∀ a, a < 9 → ∀ b, b < 9 → a ≠ b → (TX0 a).2.1 ≠ (TX0 b).2.1 := by decide +kernel
theorem tyX0_ok : ∀ k, k < 9 → parseFieldDescriptor (TX0 k).2.2.1 = some (tyX0 k) := by decide +kernel
abbrev cX0_init : ByteArray := prog_2_method_1_code
def yX0_init : MethodName := ⟨RX0, "<init>", "()V"⟩
abbrev cX0_seek : ByteArray := prog_2_method_2_code
def yX0_seek : MethodName := ⟨RX0, "seek", "(LNearSeats$Land;)V"⟩
abbrev cX0_loadHome : ByteArray := prog_2_method_3_code
def yX0_loadHome : MethodName := ⟨RX0, "loadHome", "(LNearSeats$Land;I)I"⟩
abbrev cX0_tryHome : ByteArray := prog_2_method_4_code
def yX0_tryHome : MethodName := ⟨RX0, "tryHome", "(II)V"⟩
abbrev cX0_keep : ByteArray := prog_2_method_5_code
def yX0_keep : MethodName := ⟨RX0, "keep", "(I)V"⟩
def RX1 : String := "NearSeats$Land"
def TX1 : u_T := fun k => match k with
  | 0 => ("NearSeats$Land", "homeX", "[I", true)
  | 1 => ("NearSeats$Land", "homeY", "[I", true)
  | 2 => ("NearSeats$Land", "heads", "[I", true)
  | 3 => ("NearSeats$Land", "barred", "[I", true)
  | 4 => ("NearSeats$Land", "kind", "[I", true)
  | 5 => ("NearSeats$Land", "churchX", "[I", true)
  | 6 => ("NearSeats$Land", "churchY", "[I", true)
  | 7 => ("NearSeats$Land", "seats", "[I", true)
  | 8 => ("NearSeats$Land", "homes", "I", false)
  | 9 => ("NearSeats$Land", "churches", "I", false)
  | 10 => ("NearSeats$Land", "ferryToll", "I", false)
  | _ => ("NearSeats$Land", "changes", "I", false)
def tyX1 : Nat → FieldType := fun k => match k with
  | 0 => .array .int
  | 1 => .array .int
  | 2 => .array .int
  | 3 => .array .int
  | 4 => .array .int
  | 5 => .array .int
  | 6 => .array .int
  | 7 => .array .int
  | 8 => .int
  | 9 => .int
  | 10 => .int
  | _ => .int
abbrev wsX10 : List Cond := u_ws RX1 TX1 12
theorem nmX1 : ∀ a, a < 12 → ∀ b, b < 12 → a ≠ b → (TX1 a).2.1 ≠ (TX1 b).2.1 := by decide +kernel
theorem tyX1_ok : ∀ k, k < 12 → parseFieldDescriptor (TX1 k).2.2.1 = some (tyX1 k) := by decide +kernel
abbrev cX1_init : ByteArray := prog_3_method_1_code
def yX1_init : MethodName := ⟨RX1, "<init>", "()V"⟩
abbrev cX1_hasHome : ByteArray := prog_3_method_2_code
def yX1_hasHome : MethodName := ⟨RX1, "hasHome", "(I)Z"⟩
abbrev cX1_hasChurch : ByteArray := prog_3_method_3_code
def yX1_hasChurch : MethodName := ⟨RX1, "hasChurch", "(I)Z"⟩
abbrev cX1_empty : ByteArray := prog_3_method_4_code
def yX1_empty : MethodName := ⟨RX1, "empty", "()V"⟩
abbrev cX1_addHome : ByteArray := prog_3_method_5_code
def yX1_addHome : MethodName := ⟨RX1, "addHome", "(III)I"⟩
abbrev cX1_addChurch : ByteArray := prog_3_method_6_code
def yX1_addChurch : MethodName := ⟨RX1, "addChurch", "(IIII)I"⟩
abbrev cX1_isBarred : ByteArray := prog_3_method_7_code
def yX1_isBarred : MethodName := ⟨RX1, "isBarred", "(II)Z"⟩
abbrev cX1_turnBar : ByteArray := prog_3_method_8_code
def yX1_turnBar : MethodName := ⟨RX1, "turnBar", "(II)V"⟩
abbrev cX1_changeSeats : ByteArray := prog_3_method_9_code
def yX1_changeSeats : MethodName := ⟨RX1, "changeSeats", "(II)I"⟩
abbrev cX1_changeToll : ByteArray := prog_3_method_10_code
def yX1_changeToll : MethodName := ⟨RX1, "changeToll", "(I)I"⟩
abbrev cX1_moveChurch : ByteArray := prog_3_method_11_code
def yX1_moveChurch : MethodName := ⟨RX1, "moveChurch", "(III)V"⟩
abbrev cX1_atOneSpot : ByteArray := prog_3_method_12_code
def yX1_atOneSpot : MethodName := ⟨RX1, "atOneSpot", "(II)Z"⟩
abbrev cX1_farTo : ByteArray := prog_3_method_13_code
def yX1_farTo : MethodName := ⟨RX1, "farTo", "(III)I"⟩
abbrev cX1_farBetween : ByteArray := prog_3_method_14_code
def yX1_farBetween : MethodName := ⟨RX1, "farBetween", "(IIIII)I"⟩
abbrev cX1_cannotSit : ByteArray := prog_3_method_15_code
def yX1_cannotSit : MethodName := ⟨RX1, "cannotSit", "(I)Z"⟩
abbrev cX1_proofHolds : ByteArray := prog_3_method_16_code
def yX1_proofHolds : MethodName := ⟨RX1, "proofHolds", "([II)Z"⟩
abbrev cX1_allOfHomeGo : ByteArray := prog_3_method_17_code
def yX1_allOfHomeGo : MethodName := ⟨RX1, "allOfHomeGo", "(I[II)Z"⟩
abbrev cX1_numberFits : ByteArray := prog_3_method_18_code
def yX1_numberFits : MethodName := ⟨RX1, "numberFits", "(I[III)Z"⟩
abbrev cX1_goesToLeast : ByteArray := prog_3_method_19_code
def yX1_goesToLeast : MethodName := ⟨RX1, "goesToLeast", "(I[III)Z"⟩
def RX2 : String := "NearSeats$LandText"
def TX2 : u_T := fun k => match k with
  | 0 => ("NearSeats$LandText", "kinds", "[I", true)
  | 1 => ("NearSeats$LandText", "xs", "[I", true)
  | 2 => ("NearSeats$LandText", "ys", "[I", true)
  | 3 => ("NearSeats$LandText", "numbers", "[I", true)
  | 4 => ("NearSeats$LandText", "codes", "[I", true)
  | 5 => ("NearSeats$LandText", "length", "I", false)
  | 6 => ("NearSeats$LandText", "at", "I", false)
  | 7 => ("NearSeats$LandText", "homes", "I", false)
  | 8 => ("NearSeats$LandText", "churches", "I", false)
  | 9 => ("NearSeats$LandText", "ok", "Z", false)
  | _ => ("NearSeats$LandText", "firstFault", "I", false)
def tyX2 : Nat → FieldType := fun k => match k with
  | 0 => .array .int
  | 1 => .array .int
  | 2 => .array .int
  | 3 => .array .int
  | 4 => .array .int
  | 5 => .int
  | 6 => .int
  | 7 => .int
  | 8 => .int
  | 9 => .boolean
  | _ => .int
abbrev wsX20 : List Cond := u_ws RX2 TX2 11
theorem nmX2 : ∀ a, a < 11 → ∀ b, b < 11 → a ≠ b → (TX2 a).2.1 ≠ (TX2 b).2.1 := by decide +kernel
theorem tyX2_ok : ∀ k, k < 11 → parseFieldDescriptor (TX2 k).2.2.1 = some (tyX2 k) := by decide +kernel
abbrev cX2_init : ByteArray := prog_4_method_1_code
def yX2_init : MethodName := ⟨RX2, "<init>", "()V"⟩
abbrev cX2_readItems : ByteArray := prog_4_method_2_code
def yX2_readItems : MethodName := ⟨RX2, "readItems", "([III)I"⟩
abbrev cX2_begin : ByteArray := prog_4_method_3_code
def yX2_begin : MethodName := ⟨RX2, "begin", "([III)V"⟩
abbrev cX2_layOut : ByteArray := prog_4_method_4_code
def yX2_layOut : MethodName := ⟨RX2, "layOut", "(LNearSeats$Land;I)V"⟩
abbrev cX2_readItem : ByteArray := prog_4_method_5_code
def yX2_readItem : MethodName := ⟨RX2, "readItem", "(I)V"⟩
abbrev cX2_readKind : ByteArray := prog_4_method_6_code
def yX2_readKind : MethodName := ⟨RX2, "readKind", "(I)V"⟩
abbrev cX2_kindOf : ByteArray := prog_4_method_7_code
def yX2_kindOf : MethodName := ⟨RX2, "kindOf", "(I)I"⟩
abbrev cX2_readNumber : ByteArray := prog_4_method_8_code
def yX2_readNumber : MethodName := ⟨RX2, "readNumber", "(II)I"⟩
abbrev cX2_takeCode : ByteArray := prog_4_method_9_code
def yX2_takeCode : MethodName := ⟨RX2, "takeCode", "(I)V"⟩
abbrev cX2_isDigit : ByteArray := prog_4_method_10_code
def yX2_isDigit : MethodName := ⟨RX2, "isDigit", "(I)Z"⟩
abbrev cX2_codeHere : ByteArray := prog_4_method_11_code
def yX2_codeHere : MethodName := ⟨RX2, "codeHere", "()I"⟩
abbrev cX2_failAt : ByteArray := prog_4_method_12_code
def yX2_failAt : MethodName := ⟨RX2, "failAt", "(I)V"⟩
def RX3 : String := "NearSeats$Sender"
def TX3 : u_T := fun k => match k with
  | 0 => ("NearSeats$Sender", "far", "[I", true)
  | 1 => ("NearSeats$Sender", "sent", "[I", true)
  | 2 => ("NearSeats$Sender", "heads", "[I", true)
  | 3 => ("NearSeats$Sender", "room", "[I", true)
  | 4 => ("NearSeats$Sender", "taken", "[I", true)
  | 5 => ("NearSeats$Sender", "step", "[I", true)
  | 6 => ("NearSeats$Sender", "stepHome", "[I", true)
  | 7 => ("NearSeats$Sender", "cost", "[I", true)
  | 8 => ("NearSeats$Sender", "before", "[I", true)
  | 9 => ("NearSeats$Sender", "weights", "[I", true)
  | 10 => ("NearSeats$Sender", "homes", "I", false)
  | _ => ("NearSeats$Sender", "churches", "I", false)
def tyX3 : Nat → FieldType := fun k => match k with
  | 0 => .array .int
  | 1 => .array .int
  | 2 => .array .int
  | 3 => .array .int
  | 4 => .array .int
  | 5 => .array .int
  | 6 => .array .int
  | 7 => .array .int
  | 8 => .array .int
  | 9 => .array .int
  | 10 => .int
  | _ => .int
abbrev wsX30 : List Cond := u_ws RX3 TX3 12
theorem nmX3 : ∀ a, a < 12 → ∀ b, b < 12 → a ≠ b → (TX3 a).2.1 ≠ (TX3 b).2.1 := by decide +kernel
theorem tyX3_ok : ∀ k, k < 12 → parseFieldDescriptor (TX3 k).2.2.1 = some (tyX3 k) := by decide +kernel
abbrev cX3_init : ByteArray := prog_5_method_1_code
def yX3_init : MethodName := ⟨RX3, "<init>", "()V"⟩
abbrev cX3_load : ByteArray := prog_5_method_2_code
def yX3_load : MethodName := ⟨RX3, "load", "(LNearSeats$Land;)V"⟩
abbrev cX3_putChurch : ByteArray := prog_5_method_3_code
def yX3_putChurch : MethodName := ⟨RX3, "putChurch", "(LNearSeats$Land;III)V"⟩
abbrev cX3_shutAllBut : ByteArray := prog_5_method_4_code
def yX3_shutAllBut : MethodName := ⟨RX3, "shutAllBut", "(I)V"⟩
abbrev cX3_forbidBeyond : ByteArray := prog_5_method_5_code
def yX3_forbidBeyond : MethodName := ⟨RX3, "forbidBeyond", "(I)V"⟩
abbrev cX3_send : ByteArray := prog_5_method_6_code
def yX3_send : MethodName := ⟨RX3, "send", "()I"⟩
abbrev cX3_sumOfMiles : ByteArray := prog_5_method_7_code
def yX3_sumOfMiles : MethodName := ⟨RX3, "sumOfMiles", "()I"⟩
abbrev cX3_seatHome : ByteArray := prog_5_method_8_code
def yX3_seatHome : MethodName := ⟨RX3, "seatHome", "(I)Z"⟩
abbrev cX3_findSteps : ByteArray := prog_5_method_9_code
def yX3_findSteps : MethodName := ⟨RX3, "findSteps", "()V"⟩
abbrev cX3_findStepsOf : ByteArray := prog_5_method_10_code
def yX3_findStepsOf : MethodName := ⟨RX3, "findStepsOf", "(II)V"⟩
abbrev cX3_startAt : ByteArray := prog_5_method_11_code
def yX3_startAt : MethodName := ⟨RX3, "startAt", "(I)V"⟩
abbrev cX3_spread : ByteArray := prog_5_method_12_code
def yX3_spread : MethodName := ⟨RX3, "spread", "()V"⟩
abbrev cX3_spreadFrom : ByteArray := prog_5_method_13_code
def yX3_spreadFrom : MethodName := ⟨RX3, "spreadFrom", "(I)Z"⟩
abbrev cX3_cheapestWithRoom : ByteArray := prog_5_method_14_code
def yX3_cheapestWithRoom : MethodName := ⟨RX3, "cheapestWithRoom", "()I"⟩
abbrev cX3_seatAlong : ByteArray := prog_5_method_15_code
def yX3_seatAlong : MethodName := ⟨RX3, "seatAlong", "(III)I"⟩
abbrev cX3_moverTo : ByteArray := prog_5_method_16_code
def yX3_moverTo : MethodName := ⟨RX3, "moverTo", "(I)I"⟩
abbrev cX3_weigh : ByteArray := prog_5_method_17_code
def yX3_weigh : MethodName := ⟨RX3, "weigh", "()V"⟩
abbrev cX3_lineOf : ByteArray := prog_5_method_18_code
def yX3_lineOf : MethodName := ⟨RX3, "lineOf", "(I)I"⟩
abbrev cX3_longest : ByteArray := prog_5_method_19_code
def yX3_longest : MethodName := ⟨RX3, "longest", "()I"⟩
def RX4 : String := "NearSeats$Sheet"
def TX4 : u_T := fun k => match k with
  | 0 => ("NearSeats$Sheet", "cells", "[I", true)
  | 1 => ("NearSeats$Sheet", "hasRow", "Z", false)
  | 2 => ("NearSeats$Sheet", "lane", "I", false)
  | _ => ("NearSeats$Sheet", "size", "I", false)
def tyX4 : Nat → FieldType := fun k => match k with
  | 0 => .array .int
  | 1 => .boolean
  | 2 => .int
  | _ => .int
abbrev wsX40 : List Cond := u_ws RX4 TX4 4
theorem nmX4 : ∀ a, a < 4 → ∀ b, b < 4 → a ≠ b → (TX4 a).2.1 ≠ (TX4 b).2.1 := by decide +kernel
theorem tyX4_ok : ∀ k, k < 4 → parseFieldDescriptor (TX4 k).2.2.1 = some (tyX4 k) := by decide +kernel
abbrev cX4_init : ByteArray := prog_6_method_1_code
def yX4_init : MethodName := ⟨RX4, "<init>", "()V"⟩
abbrev cX4_renew : ByteArray := prog_6_method_2_code
def yX4_renew : MethodName := ⟨RX4, "renew", "(II)V"⟩
abbrev cX4_hasCell : ByteArray := prog_6_method_3_code
def yX4_hasCell : MethodName := ⟨RX4, "hasCell", "(I)Z"⟩
abbrev cX4_hasCells : ByteArray := prog_6_method_4_code
def yX4_hasCells : MethodName := ⟨RX4, "hasCells", "(II)Z"⟩
abbrev cX4_setCell : ByteArray := prog_6_method_5_code
def yX4_setCell : MethodName := ⟨RX4, "setCell", "(II)V"⟩
def RX5 : String := "NearSeats$Teller"
def TX5 : u_T := fun k => match k with
  | _ => ("NearSeats$Teller", "left", "I", false)
def tyX5 : Nat → FieldType := fun k => match k with
  | _ => .int
abbrev wsX50 : List Cond := u_ws RX5 TX5 1
theorem nmX5 : ∀ a, a < 1 → ∀ b, b < 1 → a ≠ b → (TX5 a).2.1 ≠ (TX5 b).2.1 := by decide +kernel
theorem tyX5_ok : ∀ k, k < 1 → parseFieldDescriptor (TX5 k).2.2.1 = some (tyX5 k) := by decide +kernel
abbrev cX5_init : ByteArray := prog_7_method_1_code
def yX5_init : MethodName := ⟨RX5, "<init>", "()V"⟩
abbrev cX5_tellOf : ByteArray := prog_7_method_2_code
def yX5_tellOf : MethodName := ⟨RX5, "tellOf", "(II)I"⟩
abbrev cX5_ringOf : ByteArray := prog_7_method_3_code
def yX5_ringOf : MethodName := ⟨RX5, "ringOf", "(II)I"⟩
abbrev cX5_squareTells : ByteArray := prog_7_method_4_code
def yX5_squareTells : MethodName := ⟨RX5, "squareTells", "(I)I"⟩
abbrev cX5_stepsTells : ByteArray := prog_7_method_5_code
def yX5_stepsTells : MethodName := ⟨RX5, "stepsTells", "(I)I"⟩
abbrev cX5_ferryTells : ByteArray := prog_7_method_6_code
def yX5_ferryTells : MethodName := ⟨RX5, "ferryTells", "(I)I"⟩
abbrev cX5_leave : ByteArray := prog_7_method_7_code
def yX5_leave : MethodName := ⟨RX5, "leave", "(I)V"⟩
def RX6 : String := "NearSeats"
def TX6 : u_T := fun k => match k with
  | 0 => ("NearSeats", "land", "LNearSeats$Land;", true)
  | 1 => ("NearSeats", "text", "LNearSeats$LandText;", true)
  | 2 => ("NearSeats", "now", "LNearSeats$Sender;", true)
  | 3 => ("NearSeats", "trial", "LNearSeats$Sender;", true)
  | 4 => ("NearSeats", "families", "LNearSeats$Families;", true)
  | 5 => ("NearSeats", "teller", "LNearSeats$Teller;", true)
  | 6 => ("NearSeats", "sheets", "[LNearSeats$Sheet;", true)
  | 7 => ("NearSeats", "placeX", "[I", true)
  | 8 => ("NearSeats", "placeY", "[I", true)
  | 9 => ("NearSeats", "places", "I", false)
  | 10 => ("NearSeats", "fault", "I", false)
  | 11 => ("NearSeats", "sentAt", "I", false)
  | 12 => ("NearSeats", "evenAt", "I", false)
  | 13 => ("NearSeats", "familiesAt", "I", false)
  | 14 => ("NearSeats", "nowMiles", "I", false)
  | 15 => ("NearSeats", "evenLongest", "I", false)
  | _ => ("NearSeats", "evenMiles", "I", false)
def tyX6 : Nat → FieldType := fun k => match k with
  | 0 => .object "NearSeats$Land"
  | 1 => .object "NearSeats$LandText"
  | 2 => .object "NearSeats$Sender"
  | 3 => .object "NearSeats$Sender"
  | 4 => .object "NearSeats$Families"
  | 5 => .object "NearSeats$Teller"
  | 6 => .array (.object "NearSeats$Sheet")
  | 7 => .array .int
  | 8 => .array .int
  | 9 => .int
  | 10 => .int
  | 11 => .int
  | 12 => .int
  | 13 => .int
  | 14 => .int
  | 15 => .int
  | _ => .int
abbrev wsX60 : List Cond := u_ws RX6 TX6 17
theorem nmX6 : ∀ a, a < 17 → ∀ b, b < 17 → a ≠ b → (TX6 a).2.1 ≠ (TX6 b).2.1 := by decide +kernel
theorem tyX6_ok : ∀ k, k < 17 → parseFieldDescriptor (TX6 k).2.2.1 = some (tyX6 k) := by decide +kernel
abbrev cX6_init : ByteArray := prog_1_method_1_code
def yX6_init : MethodName := ⟨RX6, "<init>", "()V"⟩
abbrev cX6_home : ByteArray := prog_1_method_2_code
def yX6_home : MethodName := ⟨RX6, "home", "(III)I"⟩
abbrev cX6_church : ByteArray := prog_1_method_3_code
def yX6_church : MethodName := ⟨RX6, "church", "(IIII)I"⟩
abbrev cX6_land : ByteArray := prog_1_method_4_code
def yX6_land : MethodName := ⟨RX6, "land", "(IIII)I"⟩
abbrev cX6_ofHome : ByteArray := prog_1_method_5_code
def yX6_ofHome : MethodName := ⟨RX6, "ofHome", "(II)I"⟩
abbrev cX6_ofChurch : ByteArray := prog_1_method_6_code
def yX6_ofChurch : MethodName := ⟨RX6, "ofChurch", "(II)I"⟩
abbrev cX6_bar : ByteArray := prog_1_method_7_code
def yX6_bar : MethodName := ⟨RX6, "bar", "(IIZ)I"⟩
abbrev cX6_seats : ByteArray := prog_1_method_8_code
def yX6_seats : MethodName := ⟨RX6, "seats", "(II)I"⟩
abbrev cX6_toll : ByteArray := prog_1_method_9_code
def yX6_toll : MethodName := ⟨RX6, "toll", "(I)I"⟩
abbrev cX6_far : ByteArray := prog_1_method_10_code
def yX6_far : MethodName := ⟨RX6, "far", "(III)I"⟩
abbrev cX6_miles : ByteArray := prog_1_method_11_code
def yX6_miles : MethodName := ⟨RX6, "miles", "()I"⟩
abbrev cX6_few : ByteArray := prog_1_method_12_code
def yX6_few : MethodName := ⟨RX6, "few", "()I"⟩
abbrev cX6_weight : ByteArray := prog_1_method_13_code
def yX6_weight : MethodName := ⟨RX6, "weight", "(I)I"⟩
abbrev cX6_line : ByteArray := prog_1_method_14_code
def yX6_line : MethodName := ⟨RX6, "line", "(I)I"⟩
abbrev cX6_check : ByteArray := prog_1_method_15_code
def yX6_check : MethodName := ⟨RX6, "check", "(IIII)I"⟩
abbrev cX6_family : ByteArray := prog_1_method_16_code
def yX6_family : MethodName := ⟨RX6, "family", "(I)I"⟩
abbrev cX6_even : ByteArray := prog_1_method_17_code
def yX6_even : MethodName := ⟨RX6, "even", "(I)I"⟩
abbrev cX6_border : ByteArray := prog_1_method_18_code
def yX6_border : MethodName := ⟨RX6, "border", "(III)J"⟩
abbrev cX6_who : ByteArray := prog_1_method_19_code
def yX6_who : MethodName := ⟨RX6, "who", "(II)I"⟩
abbrev cX6_place : ByteArray := prog_1_method_20_code
def yX6_place : MethodName := ⟨RX6, "place", "(II)I"⟩
abbrev cX6_move : ByteArray := prog_1_method_21_code
def yX6_move : MethodName := ⟨RX6, "move", "(I)I"⟩
abbrev cX6_open : ByteArray := prog_1_method_22_code
def yX6_open : MethodName := ⟨RX6, "open", "(I)I"⟩
abbrev cX6_best : ByteArray := prog_1_method_23_code
def yX6_best : MethodName := ⟨RX6, "best", "(I)I"⟩
abbrev cX6_sheet : ByteArray := prog_1_method_24_code
def yX6_sheet : MethodName := ⟨RX6, "sheet", "(III)I"⟩
abbrev cX6_lose : ByteArray := prog_1_method_25_code
def yX6_lose : MethodName := ⟨RX6, "lose", "(I)I"⟩
abbrev cX6_put : ByteArray := prog_1_method_26_code
def yX6_put : MethodName := ⟨RX6, "put", "(III)I"⟩
abbrev cX6_cell : ByteArray := prog_1_method_27_code
def yX6_cell : MethodName := ⟨RX6, "cell", "(III)J"⟩
abbrev cX6_copy : ByteArray := prog_1_method_28_code
def yX6_copy : MethodName := ⟨RX6, "copy", "(IIIII)I"⟩
abbrev cX6_tell : ByteArray := prog_1_method_29_code
def yX6_tell : MethodName := ⟨RX6, "tell", "(I)I"⟩
abbrev cX6_ring : ByteArray := prog_1_method_30_code
def yX6_ring : MethodName := ⟨RX6, "ring", "(I)I"⟩
abbrev cX6_as : ByteArray := prog_1_method_31_code
def yX6_as : MethodName := ⟨RX6, "as", "(II)I"⟩
abbrev cX6_trace : ByteArray := prog_1_method_32_code
def yX6_trace : MethodName := ⟨RX6, "trace", "()I"⟩
abbrev cX6_fault : ByteArray := prog_1_method_33_code
def yX6_fault : MethodName := ⟨RX6, "fault", "()I"⟩
abbrev cX6_many : ByteArray := prog_1_method_34_code
def yX6_many : MethodName := ⟨RX6, "many", "(I)I"⟩
abbrev cX6_isWithin : ByteArray := prog_1_method_35_code
def yX6_isWithin : MethodName := ⟨RX6, "isWithin", "(III)Z"⟩
abbrev cX6_isSpot : ByteArray := prog_1_method_36_code
def yX6_isSpot : MethodName := ⟨RX6, "isSpot", "(II)Z"⟩
abbrev cX6_isSheet : ByteArray := prog_1_method_37_code
def yX6_isSheet : MethodName := ⟨RX6, "isSheet", "(I)Z"⟩
abbrev cX6_isLane : ByteArray := prog_1_method_38_code
def yX6_isLane : MethodName := ⟨RX6, "isLane", "(I)Z"⟩
abbrev cX6_sumOf : ByteArray := prog_1_method_39_code
def yX6_sumOf : MethodName := ⟨RX6, "sumOf", "([II)I"⟩
abbrev cX6_faulty : ByteArray := prog_1_method_40_code
def yX6_faulty : MethodName := ⟨RX6, "faulty", "(I)I"⟩
abbrev cX6_refusalOfRow : ByteArray := prog_1_method_41_code
def yX6_refusalOfRow : MethodName := ⟨RX6, "refusalOfRow", "(IIII)I"⟩
abbrev cX6_leastMiles : ByteArray := prog_1_method_42_code
def yX6_leastMiles : MethodName := ⟨RX6, "leastMiles", "()I"⟩
abbrev cX6_seekFamilies : ByteArray := prog_1_method_43_code
def yX6_seekFamilies : MethodName := ⟨RX6, "seekFamilies", "()V"⟩
abbrev cX6_seekEven : ByteArray := prog_1_method_44_code
def yX6_seekEven : MethodName := ⟨RX6, "seekEven", "()V"⟩
abbrev cX6_shortenLongest : ByteArray := prog_1_method_45_code
def yX6_shortenLongest : MethodName := ⟨RX6, "shortenLongest", "()V"⟩
abbrev cX6_milesOfSet : ByteArray := prog_1_method_46_code
def yX6_milesOfSet : MethodName := ⟨RX6, "milesOfSet", "(I)I"⟩
abbrev cX6_bestPlace : ByteArray := prog_1_method_47_code
def yX6_bestPlace : MethodName := ⟨RX6, "bestPlace", "(I)I"⟩
abbrev cX6_leastChurch : ByteArray := prog_1_method_48_code
def yX6_leastChurch : MethodName := ⟨RX6, "leastChurch", "(II)I"⟩
abbrev cX6_partOfBorder : ByteArray := prog_1_method_49_code
def yX6_partOfBorder : MethodName := ⟨RX6, "partOfBorder", "(III)J"⟩
abbrev cX6_sideOfBorder : ByteArray := prog_1_method_50_code
def yX6_sideOfBorder : MethodName := ⟨RX6, "sideOfBorder", "(I)I"⟩
abbrev cX6_commonDivisor : ByteArray := prog_1_method_51_code
def yX6_commonDivisor : MethodName := ⟨RX6, "commonDivisor", "(II)I"⟩
def RX7 : String := "NearSeatsModel"
def TX7 : u_T := fun k => match k with
  | 0 => ("NearSeatsModel", "fault", "I", false)
  | 1 => ("NearSeatsModel", "homes", "I", false)
  | 2 => ("NearSeatsModel", "homeX", "[I", true)
  | 3 => ("NearSeatsModel", "homeY", "[I", true)
  | 4 => ("NearSeatsModel", "headsOf", "[I", true)
  | 5 => ("NearSeatsModel", "churches", "I", false)
  | 6 => ("NearSeatsModel", "kindOf", "[I", true)
  | 7 => ("NearSeatsModel", "churchX", "[I", true)
  | 8 => ("NearSeatsModel", "churchY", "[I", true)
  | 9 => ("NearSeatsModel", "seatsOf", "[I", true)
  | 10 => ("NearSeatsModel", "isBarred", "[Z", true)
  | 11 => ("NearSeatsModel", "toll", "I", false)
  | 12 => ("NearSeatsModel", "readMany", "I", false)
  | 13 => ("NearSeatsModel", "readKind", "[I", true)
  | 14 => ("NearSeatsModel", "readNumber", "[I", true)
  | 15 => ("NearSeatsModel", "readAt", "I", false)
  | 16 => ("NearSeatsModel", "room", "[I", true)
  | 17 => ("NearSeatsModel", "cost", "[I", true)
  | 18 => ("NearSeatsModel", "sits", "[I", true)
  | 19 => ("NearSeatsModel", "dear", "[I", true)
  | 20 => ("NearSeatsModel", "cameFrom", "[I", true)
  | 21 => ("NearSeatsModel", "whoMoves", "[I", true)
  | 22 => ("NearSeatsModel", "weights", "[I", true)
  | 23 => ("NearSeatsModel", "places", "I", false)
  | 24 => ("NearSeatsModel", "placeX", "[I", true)
  | 25 => ("NearSeatsModel", "placeY", "[I", true)
  | 26 => ("NearSeatsModel", "sheetSize", "[I", true)
  | 27 => ("NearSeatsModel", "sheetLane", "[I", true)
  | 28 => ("NearSeatsModel", "sheet", "[I", true)
  | 29 => ("NearSeatsModel", "hands", "[I", true)
  | _ => ("NearSeatsModel", "traceNow", "I", false)
def tyX7 : Nat → FieldType := fun k => match k with
  | 0 => .int
  | 1 => .int
  | 2 => .array .int
  | 3 => .array .int
  | 4 => .array .int
  | 5 => .int
  | 6 => .array .int
  | 7 => .array .int
  | 8 => .array .int
  | 9 => .array .int
  | 10 => .array .boolean
  | 11 => .int
  | 12 => .int
  | 13 => .array .int
  | 14 => .array .int
  | 15 => .int
  | 16 => .array .int
  | 17 => .array .int
  | 18 => .array .int
  | 19 => .array .int
  | 20 => .array .int
  | 21 => .array .int
  | 22 => .array .int
  | 23 => .int
  | 24 => .array .int
  | 25 => .array .int
  | 26 => .array .int
  | 27 => .array .int
  | 28 => .array .int
  | 29 => .array .int
  | _ => .int
abbrev wsX70 : List Cond := u_ws RX7 TX7 31
theorem nmX7 : ∀ a, a < 31 → ∀ b, b < 31 → a ≠ b → (TX7 a).2.1 ≠ (TX7 b).2.1 := by decide +kernel
theorem tyX7_ok : ∀ k, k < 31 → parseFieldDescriptor (TX7 k).2.2.1 = some (tyX7 k) := by decide +kernel
abbrev cX7_init : ByteArray := prog_9_method_1_code
def yX7_init : MethodName := ⟨RX7, "<init>", "()V"⟩
abbrev cX7_in : ByteArray := prog_9_method_2_code
def yX7_in : MethodName := ⟨RX7, "in", "(JJJ)Z"⟩
abbrev cX7_lost : ByteArray := prog_9_method_3_code
def yX7_lost : MethodName := ⟨RX7, "lost", "()J"⟩
abbrev cX7_hasBit : ByteArray := prog_9_method_4_code
def yX7_hasBit : MethodName := ⟨RX7, "hasBit", "(II)Z"⟩
abbrev cX7_bits : ByteArray := prog_9_method_5_code
def yX7_bits : MethodName := ⟨RX7, "bits", "(I)I"⟩
abbrev cX7_sizeOf : ByteArray := prog_9_method_6_code
def yX7_sizeOf : MethodName := ⟨RX7, "sizeOf", "(I)I"⟩
abbrev cX7_isSpot : ByteArray := prog_9_method_7_code
def yX7_isSpot : MethodName := ⟨RX7, "isSpot", "(II)Z"⟩
abbrev cX7_refused : ByteArray := prog_9_method_8_code
def yX7_refused : MethodName := ⟨RX7, "refused", "(I)I"⟩
abbrev cX7_failed : ByteArray := prog_9_method_9_code
def yX7_failed : MethodName := ⟨RX7, "failed", "(I)I"⟩
abbrev cX7_failedLong : ByteArray := prog_9_method_10_code
def yX7_failedLong : MethodName := ⟨RX7, "failedLong", "(I)J"⟩
abbrev cX7_refusal : ByteArray := prog_9_method_11_code
def yX7_refusal : MethodName := ⟨RX7, "refusal", "(IIIJ)I"⟩
abbrev cX7_noHome : ByteArray := prog_9_method_12_code
def yX7_noHome : MethodName := ⟨RX7, "noHome", "(I)Z"⟩
abbrev cX7_noChurch : ByteArray := prog_9_method_13_code
def yX7_noChurch : MethodName := ⟨RX7, "noChurch", "(I)Z"⟩
abbrev cX7_addHome : ByteArray := prog_9_method_14_code
def yX7_addHome : MethodName := ⟨RX7, "addHome", "(III)V"⟩
abbrev cX7_addChurch : ByteArray := prog_9_method_15_code
def yX7_addChurch : MethodName := ⟨RX7, "addChurch", "(IIII)V"⟩
abbrev cX7_home : ByteArray := prog_9_method_16_code
def yX7_home : MethodName := ⟨RX7, "home", "(III)I"⟩
abbrev cX7_church : ByteArray := prog_9_method_17_code
def yX7_church : MethodName := ⟨RX7, "church", "(IIII)I"⟩
abbrev cX7_kindBy : ByteArray := prog_9_method_18_code
def yX7_kindBy : MethodName := ⟨RX7, "kindBy", "(I)I"⟩
abbrev cX7_readsNumber : ByteArray := prog_9_method_19_code
def yX7_readsNumber : MethodName := ⟨RX7, "readsNumber", "(IIIII)Z"⟩
abbrev cX7_readsSign : ByteArray := prog_9_method_20_code
def yX7_readsSign : MethodName := ⟨RX7, "readsSign", "(III)Z"⟩
abbrev cX7_readsItem : ByteArray := prog_9_method_21_code
def yX7_readsItem : MethodName := ⟨RX7, "readsItem", "(II)Z"⟩
abbrev cX7_read : ByteArray := prog_9_method_22_code
def yX7_read : MethodName := ⟨RX7, "read", "(II)I"⟩
abbrev cX7_land : ByteArray := prog_9_method_23_code
def yX7_land : MethodName := ⟨RX7, "land", "(IIII)I"⟩
abbrev cX7_ofHome : ByteArray := prog_9_method_24_code
def yX7_ofHome : MethodName := ⟨RX7, "ofHome", "(II)I"⟩
abbrev cX7_ofChurch : ByteArray := prog_9_method_25_code
def yX7_ofChurch : MethodName := ⟨RX7, "ofChurch", "(II)I"⟩
abbrev cX7_bar : ByteArray := prog_9_method_26_code
def yX7_bar : MethodName := ⟨RX7, "bar", "(IIZ)I"⟩
abbrev cX7_seats : ByteArray := prog_9_method_27_code
def yX7_seats : MethodName := ⟨RX7, "seats", "(II)I"⟩
abbrev cX7_toll : ByteArray := prog_9_method_28_code
def yX7_toll : MethodName := ⟨RX7, "toll", "(I)I"⟩
abbrev cX7_farOf : ByteArray := prog_9_method_29_code
def yX7_farOf : MethodName := ⟨RX7, "farOf", "(III)I"⟩
abbrev cX7_far : ByteArray := prog_9_method_30_code
def yX7_far : MethodName := ⟨RX7, "far", "(III)I"⟩
abbrev cX7_layCosts : ByteArray := prog_9_method_31_code
def yX7_layCosts : MethodName := ⟨RX7, "layCosts", "(I)V"⟩
abbrev cX7_takenIn : ByteArray := prog_9_method_32_code
def yX7_takenIn : MethodName := ⟨RX7, "takenIn", "(I)I"⟩
abbrev cX7_moverOf : ByteArray := prog_9_method_33_code
def yX7_moverOf : MethodName := ⟨RX7, "moverOf", "(II)I"⟩
abbrev cX7_layDear : ByteArray := prog_9_method_34_code
def yX7_layDear : MethodName := ⟨RX7, "layDear", "(I)V"⟩
abbrev cX7_seatOne : ByteArray := prog_9_method_35_code
def yX7_seatOne : MethodName := ⟨RX7, "seatOne", "(I)I"⟩
abbrev cX7_leastMiles : ByteArray := prog_9_method_36_code
def yX7_leastMiles : MethodName := ⟨RX7, "leastMiles", "()I"⟩
abbrev cX7_milesNow : ByteArray := prog_9_method_37_code
def yX7_milesNow : MethodName := ⟨RX7, "milesNow", "()I"⟩
abbrev cX7_miles : ByteArray := prog_9_method_38_code
def yX7_miles : MethodName := ⟨RX7, "miles", "()I"⟩
abbrev cX7_few : ByteArray := prog_9_method_39_code
def yX7_few : MethodName := ⟨RX7, "few", "()I"⟩
abbrev cX7_layWeights : ByteArray := prog_9_method_40_code
def yX7_layWeights : MethodName := ⟨RX7, "layWeights", "()Z"⟩
abbrev cX7_weight : ByteArray := prog_9_method_41_code
def yX7_weight : MethodName := ⟨RX7, "weight", "(I)I"⟩
abbrev cX7_line : ByteArray := prog_9_method_42_code
def yX7_line : MethodName := ⟨RX7, "line", "(I)I"⟩
abbrev cX7_holdsFor : ByteArray := prog_9_method_43_code
def yX7_holdsFor : MethodName := ⟨RX7, "holdsFor", "(III)Z"⟩
abbrev cX7_holdsIn : ByteArray := prog_9_method_44_code
def yX7_holdsIn : MethodName := ⟨RX7, "holdsIn", "(III)Z"⟩
abbrev cX7_check : ByteArray := prog_9_method_45_code
def yX7_check : MethodName := ⟨RX7, "check", "(IIII)I"⟩
abbrev cX7_churchIn : ByteArray := prog_9_method_46_code
def yX7_churchIn : MethodName := ⟨RX7, "churchIn", "(II)I"⟩
abbrev cX7_rowMiles : ByteArray := prog_9_method_47_code
def yX7_rowMiles : MethodName := ⟨RX7, "rowMiles", "(I)I"⟩
abbrev cX7_family : ByteArray := prog_9_method_48_code
def yX7_family : MethodName := ⟨RX7, "family", "(I)I"⟩
abbrev cX7_even : ByteArray := prog_9_method_49_code
def yX7_even : MethodName := ⟨RX7, "even", "(I)I"⟩
abbrev cX7_common : ByteArray := prog_9_method_50_code
def yX7_common : MethodName := ⟨RX7, "common", "(JJ)J"⟩
abbrev cX7_border : ByteArray := prog_9_method_51_code
def yX7_border : MethodName := ⟨RX7, "border", "(III)J"⟩
abbrev cX7_who : ByteArray := prog_9_method_52_code
def yX7_who : MethodName := ⟨RX7, "who", "(II)I"⟩
abbrev cX7_place : ByteArray := prog_9_method_53_code
def yX7_place : MethodName := ⟨RX7, "place", "(II)I"⟩
abbrev cX7_move : ByteArray := prog_9_method_54_code
def yX7_move : MethodName := ⟨RX7, "move", "(I)I"⟩
abbrev cX7_openMiles : ByteArray := prog_9_method_55_code
def yX7_openMiles : MethodName := ⟨RX7, "openMiles", "(I)I"⟩
abbrev cX7_open : ByteArray := prog_9_method_56_code
def yX7_open : MethodName := ⟨RX7, "open", "(I)I"⟩
abbrev cX7_best : ByteArray := prog_9_method_57_code
def yX7_best : MethodName := ⟨RX7, "best", "(I)I"⟩
abbrev cX7_noSheet : ByteArray := prog_9_method_58_code
def yX7_noSheet : MethodName := ⟨RX7, "noSheet", "(I)Z"⟩
abbrev cX7_sheet : ByteArray := prog_9_method_59_code
def yX7_sheet : MethodName := ⟨RX7, "sheet", "(III)I"⟩
abbrev cX7_lose : ByteArray := prog_9_method_60_code
def yX7_lose : MethodName := ⟨RX7, "lose", "(I)I"⟩
abbrev cX7_noCell : ByteArray := prog_9_method_61_code
def yX7_noCell : MethodName := ⟨RX7, "noCell", "(II)I"⟩
abbrev cX7_put : ByteArray := prog_9_method_62_code
def yX7_put : MethodName := ⟨RX7, "put", "(III)I"⟩
abbrev cX7_cell : ByteArray := prog_9_method_63_code
def yX7_cell : MethodName := ⟨RX7, "cell", "(III)J"⟩
abbrev cX7_isBeyond : ByteArray := prog_9_method_64_code
def yX7_isBeyond : MethodName := ⟨RX7, "isBeyond", "(IJI)Z"⟩
abbrev cX7_copy : ByteArray := prog_9_method_65_code
def yX7_copy : MethodName := ⟨RX7, "copy", "(IIIII)I"⟩
abbrev cX7_traced : ByteArray := prog_9_method_66_code
def yX7_traced : MethodName := ⟨RX7, "traced", "(I)V"⟩
abbrev cX7_tell : ByteArray := prog_9_method_67_code
def yX7_tell : MethodName := ⟨RX7, "tell", "(I)I"⟩
abbrev cX7_ring : ByteArray := prog_9_method_68_code
def yX7_ring : MethodName := ⟨RX7, "ring", "(I)I"⟩
abbrev cX7_as : ByteArray := prog_9_method_69_code
def yX7_as : MethodName := ⟨RX7, "as", "(II)I"⟩
abbrev cX7_trace : ByteArray := prog_9_method_70_code
def yX7_trace : MethodName := ⟨RX7, "trace", "()I"⟩
abbrev cX7_fault : ByteArray := prog_9_method_71_code
def yX7_fault : MethodName := ⟨RX7, "fault", "()I"⟩
abbrev cX7_many : ByteArray := prog_9_method_72_code
def yX7_many : MethodName := ⟨RX7, "many", "(I)I"⟩
def RJ6 : String := "java/lang/Integer"
def TJ6 : u_T := fun k => match k with
  | _ => ("", "", "", false)
def tyJ6 : Nat → FieldType := fun k => match k with
  | _ => .int
abbrev wsJ60 : List Cond := u_ws RJ6 TJ6 0
theorem nmJ6 : ∀ a, a < 0 → ∀ b, b < 0 → a ≠ b → (TJ6 a).2.1 ≠ (TJ6 b).2.1 := by decide +kernel
theorem tyJ6_ok : ∀ k, k < 0 → parseFieldDescriptor (TJ6 k).2.2.1 = some (tyJ6 k) := by decide +kernel
abbrev cJ6_bitCount_0f7a4 : ByteArray := prog_10_method_49_code
def yJ6_bitCount_0f7a4 : MethodName := ⟨RJ6, "bitCount", "(I)I"⟩
def RJ9 : String := "java/lang/Math"
def TJ9 : u_T := fun k => match k with
  | _ => ("", "", "", false)
def tyJ9 : Nat → FieldType := fun k => match k with
  | _ => .int
abbrev wsJ90 : List Cond := u_ws RJ9 TJ9 0
theorem nmJ9 : ∀ a, a < 0 → ∀ b, b < 0 → a ≠ b → (TJ9 a).2.1 ≠ (TJ9 b).2.1 := by decide +kernel
theorem tyJ9_ok : ∀ k, k < 0 → parseFieldDescriptor (TJ9 k).2.2.1 = some (tyJ9 k) := by decide +kernel
abbrev cJ9_abs_0f7a4 : ByteArray := prog_11_method_59_code
def yJ9_abs_0f7a4 : MethodName := ⟨RJ9, "abs", "(I)I"⟩
abbrev cJ9_max_7cf53 : ByteArray := prog_11_method_65_code
def yJ9_max_7cf53 : MethodName := ⟨RJ9, "max", "(II)I"⟩
abbrev cJ9_min_7cf53 : ByteArray := prog_11_method_69_code
def yJ9_min_7cf53 : MethodName := ⟨RJ9, "min", "(II)I"⟩
def RJ10 : String := "java/lang/System"
def TJ10 : u_T := fun k => match k with
  | _ => ("", "", "", false)
def tyJ10 : Nat → FieldType := fun k => match k with
  | _ => .int
abbrev wsJ100 : List Cond := u_ws RJ10 TJ10 0
theorem nmJ10 : ∀ a, a < 0 → ∀ b, b < 0 → a ≠ b → (TJ10 a).2.1 ≠ (TJ10 b).2.1 := by decide +kernel
theorem tyJ10_ok : ∀ k, k < 0 → parseFieldDescriptor (TJ10 k).2.2.1 = some (tyJ10 k) := by decide +kernel
def RL : String := "NearSeatsLaw"
abbrev cL_law : ByteArray := code
def yL_law : MethodName := ⟨RL, "law", "([I)Z"⟩
abbrev vwCl : List vw_C := [(RX0, TX0, 9), (RX1, TX1, 12), (RX2, TX2, 11), (RX3, TX3, 12), (RX4, TX4, 4), (RX5, TX5, 1), (RX6, TX6, 17), (RX7, TX7, 31)]
end
section
theorem dX0_init_0 : decode cX0_init 0 = .ok (.aload_n 0, 1) := by decide +kernel
theorem dX0_init_1 : decode cX0_init 1 = .ok (.invokespecial 3, 3) := by decide +kernel
theorem dX0_init_4 : decode cX0_init 4 = .ok (.aload_n 0, 1) := by decide +kernel
theorem dX0_init_5 : decode cX0_init 5 = .ok (.bipush 35, 2) := by decide +kernel
theorem dX0_init_7 : decode cX0_init 7 = .ok (.newarray .int, 2) := by decide +kernel
theorem dX0_init_9 : decode cX0_init 9 = .ok (.putfield 9, 3) := by decide +kernel
theorem dX0_init_12 : decode cX0_init 12 = .ok (.aload_n 0, 1) := by decide +kernel
theorem dX0_init_13 : decode cX0_init 13 = .ok (.bipush 7, 2) := by decide +kernel
theorem dX0_init_15 : decode cX0_init 15 = .ok (.newarray .int, 2) := by decide +kernel
theorem dX0_init_17 : decode cX0_init 17 = .ok (.putfield 15, 3) := by decide +kernel
theorem dX0_init_20 : decode cX0_init 20 = .ok (.aload_n 0, 1) := by decide +kernel
theorem dX0_init_21 : decode cX0_init 21 = .ok (.iconst 5, 1) := by decide +kernel
theorem dX0_init_22 : decode cX0_init 22 = .ok (.newarray .int, 2) := by decide +kernel
theorem dX0_init_24 : decode cX0_init 24 = .ok (.putfield 18, 3) := by decide +kernel
theorem dX0_init_27 : decode cX0_init 27 = .ok (.aload_n 0, 1) := by decide +kernel
theorem dX0_init_28 : decode cX0_init 28 = .ok (.bipush 8, 2) := by decide +kernel
theorem dX0_init_30 : decode cX0_init 30 = .ok (.newarray .int, 2) := by decide +kernel
theorem dX0_init_32 : decode cX0_init 32 = .ok (.putfield 21, 3) := by decide +kernel
theorem dX0_init_35 : decode cX0_init 35 = .ok (.aload_n 0, 1) := by decide +kernel
theorem dX0_init_36 : decode cX0_init 36 = .ok (.bipush 7, 2) := by decide +kernel
theorem dX0_init_38 : decode cX0_init 38 = .ok (.newarray .int, 2) := by decide +kernel
theorem dX0_init_40 : decode cX0_init 40 = .ok (.putfield 24, 3) := by decide +kernel
theorem dX0_init_43 : decode cX0_init 43 = .ok (.aload_n 0, 1) := by decide +kernel
theorem dX0_init_44 : decode cX0_init 44 = .ok (.bipush 7, 2) := by decide +kernel
theorem dX0_init_46 : decode cX0_init 46 = .ok (.newarray .int, 2) := by decide +kernel
theorem dX0_init_48 : decode cX0_init 48 = .ok (.putfield 27, 3) := by decide +kernel
theorem dX0_init_51 : decode cX0_init 51 = .ok (.return_, 1) := by decide +kernel
theorem dX0_seek_0 : decode cX0_seek 0 = .ok (.aload_n 0, 1) := by decide +kernel
theorem dX0_seek_1 : decode cX0_seek 1 = .ok (.aload_n 1, 1) := by decide +kernel
theorem dX0_seek_2 : decode cX0_seek 2 = .ok (.getfield 30, 3) := by decide +kernel
theorem dX0_seek_5 : decode cX0_seek 5 = .ok (.bipush 7, 2) := by decide +kernel
theorem dX0_seek_7 : decode cX0_seek 7 = .ok (.invokestatic 36, 3) := by decide +kernel
theorem dX0_seek_10 : decode cX0_seek 10 = .ok (.putfield 42, 3) := by decide +kernel
theorem dX0_seek_13 : decode cX0_seek 13 = .ok (.aload_n 0, 1) := by decide +kernel
theorem dX0_seek_14 : decode cX0_seek 14 = .ok (.aload_n 1, 1) := by decide +kernel
theorem dX0_seek_15 : decode cX0_seek 15 = .ok (.getfield 43, 3) := by decide +kernel
theorem dX0_seek_18 : decode cX0_seek 18 = .ok (.putfield 46, 3) := by decide +kernel
theorem dX0_seek_21 : decode cX0_seek 21 = .ok (.iconst 0, 1) := by decide +kernel
theorem dX0_seek_22 : decode cX0_seek 22 = .ok (.istore_n 2, 1) := by decide +kernel
theorem dX0_seek_23 : decode cX0_seek 23 = .ok (.iload_n 2, 1) := by decide +kernel
theorem dX0_seek_24 : decode cX0_seek 24 = .ok (.aload_n 0, 1) := by decide +kernel
theorem dX0_seek_25 : decode cX0_seek 25 = .ok (.getfield 46, 3) := by decide +kernel
theorem dX0_seek_28 : decode cX0_seek 28 = .ok (.if_icmp .ge 21, 3) := by decide +kernel
theorem dX0_seek_31 : decode cX0_seek 31 = .ok (.aload_n 0, 1) := by decide +kernel
theorem dX0_seek_32 : decode cX0_seek 32 = .ok (.getfield 18, 3) := by decide +kernel
theorem dX0_seek_35 : decode cX0_seek 35 = .ok (.iload_n 2, 1) := by decide +kernel
theorem dX0_seek_36 : decode cX0_seek 36 = .ok (.aload_n 1, 1) := by decide +kernel
theorem dX0_seek_37 : decode cX0_seek 37 = .ok (.getfield 47, 3) := by decide +kernel
theorem dX0_seek_40 : decode cX0_seek 40 = .ok (.iload_n 2, 1) := by decide +kernel
theorem dX0_seek_41 : decode cX0_seek 41 = .ok (.iaload, 1) := by decide +kernel
theorem dX0_seek_42 : decode cX0_seek 42 = .ok (.iastore, 1) := by decide +kernel
theorem dX0_seek_43 : decode cX0_seek 43 = .ok (.iinc 2 1, 3) := by decide +kernel
theorem dX0_seek_46 : decode cX0_seek 46 = .ok (.goto (-23), 3) := by decide +kernel
theorem dX0_seek_49 : decode cX0_seek 49 = .ok (.aload_n 0, 1) := by decide +kernel
theorem dX0_seek_50 : decode cX0_seek 50 = .ok (.getfield 21, 3) := by decide +kernel
theorem dX0_seek_53 : decode cX0_seek 53 = .ok (.aload_n 0, 1) := by decide +kernel
theorem dX0_seek_54 : decode cX0_seek 54 = .ok (.getfield 42, 3) := by decide +kernel
theorem dX0_seek_57 : decode cX0_seek 57 = .ok (.iconst 0, 1) := by decide +kernel
theorem dX0_seek_58 : decode cX0_seek 58 = .ok (.iastore, 1) := by decide +kernel
theorem dX0_seek_59 : decode cX0_seek 59 = .ok (.aload_n 0, 1) := by decide +kernel
theorem dX0_seek_60 : decode cX0_seek 60 = .ok (.getfield 42, 3) := by decide +kernel
theorem dX0_seek_63 : decode cX0_seek 63 = .ok (.iconst 1, 1) := by decide +kernel
theorem dX0_seek_64 : decode cX0_seek 64 = .ok (.isub, 1) := by decide +kernel
theorem dX0_seek_65 : decode cX0_seek 65 = .ok (.istore_n 2, 1) := by decide +kernel
theorem dX0_seek_66 : decode cX0_seek 66 = .ok (.iload_n 2, 1) := by decide +kernel
theorem dX0_seek_67 : decode cX0_seek 67 = .ok (.ifCond .lt 47, 3) := by decide +kernel
theorem dX0_seek_70 : decode cX0_seek 70 = .ok (.aload_n 0, 1) := by decide +kernel
theorem dX0_seek_71 : decode cX0_seek 71 = .ok (.getfield 15, 3) := by decide +kernel
theorem dX0_seek_74 : decode cX0_seek 74 = .ok (.iload_n 2, 1) := by decide +kernel
theorem dX0_seek_75 : decode cX0_seek 75 = .ok (.aload_n 1, 1) := by decide +kernel
theorem dX0_seek_76 : decode cX0_seek 76 = .ok (.getfield 50, 3) := by decide +kernel
theorem dX0_seek_79 : decode cX0_seek 79 = .ok (.iload_n 2, 1) := by decide +kernel
theorem dX0_seek_80 : decode cX0_seek 80 = .ok (.iaload, 1) := by decide +kernel
theorem dX0_seek_81 : decode cX0_seek 81 = .ok (.iastore, 1) := by decide +kernel
theorem dX0_seek_82 : decode cX0_seek 82 = .ok (.aload_n 0, 1) := by decide +kernel
theorem dX0_seek_83 : decode cX0_seek 83 = .ok (.getfield 21, 3) := by decide +kernel
theorem dX0_seek_86 : decode cX0_seek 86 = .ok (.iload_n 2, 1) := by decide +kernel
theorem dX0_seek_87 : decode cX0_seek 87 = .ok (.ldc 51, 2) := by decide +kernel
theorem dX0_seek_89 : decode cX0_seek 89 = .ok (.aload_n 0, 1) := by decide +kernel
theorem dX0_seek_90 : decode cX0_seek 90 = .ok (.getfield 21, 3) := by decide +kernel
theorem dX0_seek_93 : decode cX0_seek 93 = .ok (.iload_n 2, 1) := by decide +kernel
theorem dX0_seek_94 : decode cX0_seek 94 = .ok (.iconst 1, 1) := by decide +kernel
theorem dX0_seek_95 : decode cX0_seek 95 = .ok (.iadd, 1) := by decide +kernel
theorem dX0_seek_96 : decode cX0_seek 96 = .ok (.iaload, 1) := by decide +kernel
theorem dX0_seek_97 : decode cX0_seek 97 = .ok (.aload_n 0, 1) := by decide +kernel
theorem dX0_seek_98 : decode cX0_seek 98 = .ok (.aload_n 1, 1) := by decide +kernel
theorem dX0_seek_99 : decode cX0_seek 99 = .ok (.iload_n 2, 1) := by decide +kernel
theorem dX0_seek_100 : decode cX0_seek 100 = .ok (.invokevirtual 52, 3) := by decide +kernel
theorem dX0_seek_103 : decode cX0_seek 103 = .ok (.iadd, 1) := by decide +kernel
theorem dX0_seek_104 : decode cX0_seek 104 = .ok (.invokestatic 36, 3) := by decide +kernel
theorem dX0_seek_107 : decode cX0_seek 107 = .ok (.iastore, 1) := by decide +kernel
theorem dX0_seek_108 : decode cX0_seek 108 = .ok (.iinc 2 (-1), 3) := by decide +kernel
theorem dX0_seek_111 : decode cX0_seek 111 = .ok (.goto (-45), 3) := by decide +kernel
theorem dX0_seek_114 : decode cX0_seek 114 = .ok (.aload_n 0, 1) := by decide +kernel
theorem dX0_seek_115 : decode cX0_seek 115 = .ok (.ldc 51, 2) := by decide +kernel
theorem dX0_seek_117 : decode cX0_seek 117 = .ok (.putfield 56, 3) := by decide +kernel
theorem dX0_seek_120 : decode cX0_seek 120 = .ok (.aload_n 0, 1) := by decide +kernel
theorem dX0_seek_121 : decode cX0_seek 121 = .ok (.iconst 0, 1) := by decide +kernel
theorem dX0_seek_122 : decode cX0_seek 122 = .ok (.iconst 0, 1) := by decide +kernel
theorem dX0_seek_123 : decode cX0_seek 123 = .ok (.invokevirtual 59, 3) := by decide +kernel
theorem dX0_seek_126 : decode cX0_seek 126 = .ok (.return_, 1) := by decide +kernel
theorem dX0_loadHome_0 : decode cX0_loadHome 0 = .ok (.ldc 51, 2) := by decide +kernel
theorem dX0_loadHome_2 : decode cX0_loadHome 2 = .ok (.istore_n 3, 1) := by decide +kernel
theorem dX0_loadHome_3 : decode cX0_loadHome 3 = .ok (.iconst 0, 1) := by decide +kernel
theorem dX0_loadHome_4 : decode cX0_loadHome 4 = .ok (.istore 4, 2) := by decide +kernel
theorem dX0_loadHome_6 : decode cX0_loadHome 6 = .ok (.iload 4, 2) := by decide +kernel
theorem dX0_loadHome_8 : decode cX0_loadHome 8 = .ok (.aload_n 0, 1) := by decide +kernel
theorem dX0_loadHome_9 : decode cX0_loadHome 9 = .ok (.getfield 46, 3) := by decide +kernel
theorem dX0_loadHome_12 : decode cX0_loadHome 12 = .ok (.if_icmp .ge 75, 3) := by decide +kernel
theorem dX0_loadHome_15 : decode cX0_loadHome 15 = .ok (.aload_n 1, 1) := by decide +kernel
theorem dX0_loadHome_16 : decode cX0_loadHome 16 = .ok (.iload 4, 2) := by decide +kernel
theorem dX0_loadHome_18 : decode cX0_loadHome 18 = .ok (.aload_n 1, 1) := by decide +kernel
theorem dX0_loadHome_19 : decode cX0_loadHome 19 = .ok (.getfield 63, 3) := by decide +kernel
theorem dX0_loadHome_22 : decode cX0_loadHome 22 = .ok (.iload_n 2, 1) := by decide +kernel
theorem dX0_loadHome_23 : decode cX0_loadHome 23 = .ok (.iaload, 1) := by decide +kernel
theorem dX0_loadHome_24 : decode cX0_loadHome 24 = .ok (.aload_n 1, 1) := by decide +kernel
theorem dX0_loadHome_25 : decode cX0_loadHome 25 = .ok (.getfield 66, 3) := by decide +kernel
theorem dX0_loadHome_28 : decode cX0_loadHome 28 = .ok (.iload_n 2, 1) := by decide +kernel
theorem dX0_loadHome_29 : decode cX0_loadHome 29 = .ok (.iaload, 1) := by decide +kernel
theorem dX0_loadHome_30 : decode cX0_loadHome 30 = .ok (.invokevirtual 69, 3) := by decide +kernel
theorem dX0_loadHome_33 : decode cX0_loadHome 33 = .ok (.istore 5, 2) := by decide +kernel
theorem dX0_loadHome_35 : decode cX0_loadHome 35 = .ok (.aload_n 1, 1) := by decide +kernel
theorem dX0_loadHome_36 : decode cX0_loadHome 36 = .ok (.iload_n 2, 1) := by decide +kernel
theorem dX0_loadHome_37 : decode cX0_loadHome 37 = .ok (.iload 4, 2) := by decide +kernel
theorem dX0_loadHome_39 : decode cX0_loadHome 39 = .ok (.invokevirtual 73, 3) := by decide +kernel
theorem dX0_loadHome_42 : decode cX0_loadHome 42 = .ok (.ifCond .eq 8, 3) := by decide +kernel
theorem dX0_loadHome_45 : decode cX0_loadHome 45 = .ok (.ldc 51, 2) := by decide +kernel
theorem dX0_loadHome_47 : decode cX0_loadHome 47 = .ok (.goto 12, 3) := by decide +kernel
theorem dX0_loadHome_50 : decode cX0_loadHome 50 = .ok (.iload 5, 2) := by decide +kernel
theorem dX0_loadHome_52 : decode cX0_loadHome 52 = .ok (.aload_n 1, 1) := by decide +kernel
theorem dX0_loadHome_53 : decode cX0_loadHome 53 = .ok (.getfield 50, 3) := by decide +kernel
theorem dX0_loadHome_56 : decode cX0_loadHome 56 = .ok (.iload_n 2, 1) := by decide +kernel
theorem dX0_loadHome_57 : decode cX0_loadHome 57 = .ok (.iaload, 1) := by decide +kernel
theorem dX0_loadHome_58 : decode cX0_loadHome 58 = .ok (.imul, 1) := by decide +kernel
theorem dX0_loadHome_59 : decode cX0_loadHome 59 = .ok (.istore 6, 2) := by decide +kernel
theorem dX0_loadHome_61 : decode cX0_loadHome 61 = .ok (.aload_n 0, 1) := by decide +kernel
theorem dX0_loadHome_62 : decode cX0_loadHome 62 = .ok (.getfield 9, 3) := by decide +kernel
theorem dX0_loadHome_65 : decode cX0_loadHome 65 = .ok (.iload_n 2, 1) := by decide +kernel
theorem dX0_loadHome_66 : decode cX0_loadHome 66 = .ok (.iconst 5, 1) := by decide +kernel
theorem dX0_loadHome_67 : decode cX0_loadHome 67 = .ok (.imul, 1) := by decide +kernel
theorem dX0_loadHome_68 : decode cX0_loadHome 68 = .ok (.iload 4, 2) := by decide +kernel
theorem dX0_loadHome_70 : decode cX0_loadHome 70 = .ok (.iadd, 1) := by decide +kernel
theorem dX0_loadHome_71 : decode cX0_loadHome 71 = .ok (.iload 6, 2) := by decide +kernel
theorem dX0_loadHome_73 : decode cX0_loadHome 73 = .ok (.iastore, 1) := by decide +kernel
theorem dX0_loadHome_74 : decode cX0_loadHome 74 = .ok (.iload_n 3, 1) := by decide +kernel
theorem dX0_loadHome_75 : decode cX0_loadHome 75 = .ok (.iload 6, 2) := by decide +kernel
theorem dX0_loadHome_77 : decode cX0_loadHome 77 = .ok (.invokestatic 36, 3) := by decide +kernel
theorem dX0_loadHome_80 : decode cX0_loadHome 80 = .ok (.istore_n 3, 1) := by decide +kernel
theorem dX0_loadHome_81 : decode cX0_loadHome 81 = .ok (.iinc 4 1, 3) := by decide +kernel
theorem dX0_loadHome_84 : decode cX0_loadHome 84 = .ok (.goto (-78), 3) := by decide +kernel
theorem dX0_loadHome_87 : decode cX0_loadHome 87 = .ok (.iload_n 3, 1) := by decide +kernel
theorem dX0_loadHome_88 : decode cX0_loadHome 88 = .ok (.ireturn, 1) := by decide +kernel
theorem dX0_tryHome_0 : decode cX0_tryHome 0 = .ok (.iload_n 2, 1) := by decide +kernel
theorem dX0_tryHome_1 : decode cX0_tryHome 1 = .ok (.aload_n 0, 1) := by decide +kernel
theorem dX0_tryHome_2 : decode cX0_tryHome 2 = .ok (.getfield 21, 3) := by decide +kernel
theorem dX0_tryHome_5 : decode cX0_tryHome 5 = .ok (.iload_n 1, 1) := by decide +kernel
theorem dX0_tryHome_6 : decode cX0_tryHome 6 = .ok (.iaload, 1) := by decide +kernel
theorem dX0_tryHome_7 : decode cX0_tryHome 7 = .ok (.iadd, 1) := by decide +kernel
theorem dX0_tryHome_8 : decode cX0_tryHome 8 = .ok (.aload_n 0, 1) := by decide +kernel
theorem dX0_tryHome_9 : decode cX0_tryHome 9 = .ok (.getfield 56, 3) := by decide +kernel
theorem dX0_tryHome_12 : decode cX0_tryHome 12 = .ok (.if_icmp .lt 4, 3) := by decide +kernel
theorem dX0_tryHome_15 : decode cX0_tryHome 15 = .ok (.return_, 1) := by decide +kernel
theorem dX0_tryHome_16 : decode cX0_tryHome 16 = .ok (.iload_n 1, 1) := by decide +kernel
theorem dX0_tryHome_17 : decode cX0_tryHome 17 = .ok (.aload_n 0, 1) := by decide +kernel
theorem dX0_tryHome_18 : decode cX0_tryHome 18 = .ok (.getfield 42, 3) := by decide +kernel
theorem dX0_tryHome_21 : decode cX0_tryHome 21 = .ok (.if_icmp .lt 9, 3) := by decide +kernel
theorem dX0_tryHome_24 : decode cX0_tryHome 24 = .ok (.aload_n 0, 1) := by decide +kernel
theorem dX0_tryHome_25 : decode cX0_tryHome 25 = .ok (.iload_n 2, 1) := by decide +kernel
theorem dX0_tryHome_26 : decode cX0_tryHome 26 = .ok (.invokevirtual 77, 3) := by decide +kernel
theorem dX0_tryHome_29 : decode cX0_tryHome 29 = .ok (.return_, 1) := by decide +kernel
theorem dX0_tryHome_30 : decode cX0_tryHome 30 = .ok (.iconst 0, 1) := by decide +kernel
theorem dX0_tryHome_31 : decode cX0_tryHome 31 = .ok (.istore_n 3, 1) := by decide +kernel
theorem dX0_tryHome_32 : decode cX0_tryHome 32 = .ok (.iload_n 3, 1) := by decide +kernel
theorem dX0_tryHome_33 : decode cX0_tryHome 33 = .ok (.aload_n 0, 1) := by decide +kernel
theorem dX0_tryHome_34 : decode cX0_tryHome 34 = .ok (.getfield 46, 3) := by decide +kernel
theorem dX0_tryHome_37 : decode cX0_tryHome 37 = .ok (.if_icmp .ge 91, 3) := by decide +kernel
theorem dX0_tryHome_40 : decode cX0_tryHome 40 = .ok (.aload_n 0, 1) := by decide +kernel
theorem dX0_tryHome_41 : decode cX0_tryHome 41 = .ok (.getfield 9, 3) := by decide +kernel
theorem dX0_tryHome_44 : decode cX0_tryHome 44 = .ok (.iload_n 1, 1) := by decide +kernel
theorem dX0_tryHome_45 : decode cX0_tryHome 45 = .ok (.iconst 5, 1) := by decide +kernel
theorem dX0_tryHome_46 : decode cX0_tryHome 46 = .ok (.imul, 1) := by decide +kernel
theorem dX0_tryHome_47 : decode cX0_tryHome 47 = .ok (.iload_n 3, 1) := by decide +kernel
theorem dX0_tryHome_48 : decode cX0_tryHome 48 = .ok (.iadd, 1) := by decide +kernel
theorem dX0_tryHome_49 : decode cX0_tryHome 49 = .ok (.iaload, 1) := by decide +kernel
theorem dX0_tryHome_50 : decode cX0_tryHome 50 = .ok (.istore 4, 2) := by decide +kernel
theorem dX0_tryHome_52 : decode cX0_tryHome 52 = .ok (.iload 4, 2) := by decide +kernel
theorem dX0_tryHome_54 : decode cX0_tryHome 54 = .ok (.ldc 51, 2) := by decide +kernel
theorem dX0_tryHome_56 : decode cX0_tryHome 56 = .ok (.if_icmp .ge 66, 3) := by decide +kernel
theorem dX0_tryHome_59 : decode cX0_tryHome 59 = .ok (.aload_n 0, 1) := by decide +kernel
theorem dX0_tryHome_60 : decode cX0_tryHome 60 = .ok (.getfield 15, 3) := by decide +kernel
theorem dX0_tryHome_63 : decode cX0_tryHome 63 = .ok (.iload_n 1, 1) := by decide +kernel
theorem dX0_tryHome_64 : decode cX0_tryHome 64 = .ok (.iaload, 1) := by decide +kernel
theorem dX0_tryHome_65 : decode cX0_tryHome 65 = .ok (.aload_n 0, 1) := by decide +kernel
theorem dX0_tryHome_66 : decode cX0_tryHome 66 = .ok (.getfield 18, 3) := by decide +kernel
theorem dX0_tryHome_69 : decode cX0_tryHome 69 = .ok (.iload_n 3, 1) := by decide +kernel
theorem dX0_tryHome_70 : decode cX0_tryHome 70 = .ok (.iaload, 1) := by decide +kernel
theorem dX0_tryHome_71 : decode cX0_tryHome 71 = .ok (.if_icmp .gt 51, 3) := by decide +kernel
theorem dX0_tryHome_74 : decode cX0_tryHome 74 = .ok (.aload_n 0, 1) := by decide +kernel
theorem dX0_tryHome_75 : decode cX0_tryHome 75 = .ok (.getfield 24, 3) := by decide +kernel
theorem dX0_tryHome_78 : decode cX0_tryHome 78 = .ok (.iload_n 1, 1) := by decide +kernel
theorem dX0_tryHome_79 : decode cX0_tryHome 79 = .ok (.iload_n 3, 1) := by decide +kernel
theorem dX0_tryHome_80 : decode cX0_tryHome 80 = .ok (.iastore, 1) := by decide +kernel
theorem dX0_tryHome_81 : decode cX0_tryHome 81 = .ok (.aload_n 0, 1) := by decide +kernel
theorem dX0_tryHome_82 : decode cX0_tryHome 82 = .ok (.getfield 18, 3) := by decide +kernel
theorem dX0_tryHome_85 : decode cX0_tryHome 85 = .ok (.iload_n 3, 1) := by decide +kernel
theorem dX0_tryHome_86 : decode cX0_tryHome 86 = .ok (.dup2, 1) := by decide +kernel
theorem dX0_tryHome_87 : decode cX0_tryHome 87 = .ok (.iaload, 1) := by decide +kernel
theorem dX0_tryHome_88 : decode cX0_tryHome 88 = .ok (.aload_n 0, 1) := by decide +kernel
theorem dX0_tryHome_89 : decode cX0_tryHome 89 = .ok (.getfield 15, 3) := by decide +kernel
theorem dX0_tryHome_92 : decode cX0_tryHome 92 = .ok (.iload_n 1, 1) := by decide +kernel
theorem dX0_tryHome_93 : decode cX0_tryHome 93 = .ok (.iaload, 1) := by decide +kernel
theorem dX0_tryHome_94 : decode cX0_tryHome 94 = .ok (.isub, 1) := by decide +kernel
theorem dX0_tryHome_95 : decode cX0_tryHome 95 = .ok (.iastore, 1) := by decide +kernel
theorem dX0_tryHome_96 : decode cX0_tryHome 96 = .ok (.aload_n 0, 1) := by decide +kernel
theorem dX0_tryHome_97 : decode cX0_tryHome 97 = .ok (.iload_n 1, 1) := by decide +kernel
theorem dX0_tryHome_98 : decode cX0_tryHome 98 = .ok (.iconst 1, 1) := by decide +kernel
theorem dX0_tryHome_99 : decode cX0_tryHome 99 = .ok (.iadd, 1) := by decide +kernel
theorem dX0_tryHome_100 : decode cX0_tryHome 100 = .ok (.iload_n 2, 1) := by decide +kernel
theorem dX0_tryHome_101 : decode cX0_tryHome 101 = .ok (.iload 4, 2) := by decide +kernel
theorem dX0_tryHome_103 : decode cX0_tryHome 103 = .ok (.iadd, 1) := by decide +kernel
theorem dX0_tryHome_104 : decode cX0_tryHome 104 = .ok (.invokevirtual 59, 3) := by decide +kernel
theorem dX0_tryHome_107 : decode cX0_tryHome 107 = .ok (.aload_n 0, 1) := by decide +kernel
theorem dX0_tryHome_108 : decode cX0_tryHome 108 = .ok (.getfield 18, 3) := by decide +kernel
theorem dX0_tryHome_111 : decode cX0_tryHome 111 = .ok (.iload_n 3, 1) := by decide +kernel
theorem dX0_tryHome_112 : decode cX0_tryHome 112 = .ok (.dup2, 1) := by decide +kernel
theorem dX0_tryHome_113 : decode cX0_tryHome 113 = .ok (.iaload, 1) := by decide +kernel
theorem dX0_tryHome_114 : decode cX0_tryHome 114 = .ok (.aload_n 0, 1) := by decide +kernel
theorem dX0_tryHome_115 : decode cX0_tryHome 115 = .ok (.getfield 15, 3) := by decide +kernel
theorem dX0_tryHome_118 : decode cX0_tryHome 118 = .ok (.iload_n 1, 1) := by decide +kernel
theorem dX0_tryHome_119 : decode cX0_tryHome 119 = .ok (.iaload, 1) := by decide +kernel
theorem dX0_tryHome_120 : decode cX0_tryHome 120 = .ok (.iadd, 1) := by decide +kernel
theorem dX0_tryHome_121 : decode cX0_tryHome 121 = .ok (.iastore, 1) := by decide +kernel
theorem dX0_tryHome_122 : decode cX0_tryHome 122 = .ok (.iinc 3 1, 3) := by decide +kernel
theorem dX0_tryHome_125 : decode cX0_tryHome 125 = .ok (.goto (-93), 3) := by decide +kernel
theorem dX0_tryHome_128 : decode cX0_tryHome 128 = .ok (.return_, 1) := by decide +kernel
theorem dX0_keep_0 : decode cX0_keep 0 = .ok (.aload_n 0, 1) := by decide +kernel
theorem dX0_keep_1 : decode cX0_keep 1 = .ok (.iload_n 1, 1) := by decide +kernel
theorem dX0_keep_2 : decode cX0_keep 2 = .ok (.putfield 56, 3) := by decide +kernel
theorem dX0_keep_5 : decode cX0_keep 5 = .ok (.iconst 0, 1) := by decide +kernel
theorem dX0_keep_6 : decode cX0_keep 6 = .ok (.istore_n 2, 1) := by decide +kernel
theorem dX0_keep_7 : decode cX0_keep 7 = .ok (.iload_n 2, 1) := by decide +kernel
theorem dX0_keep_8 : decode cX0_keep 8 = .ok (.aload_n 0, 1) := by decide +kernel
theorem dX0_keep_9 : decode cX0_keep 9 = .ok (.getfield 42, 3) := by decide +kernel
theorem dX0_keep_12 : decode cX0_keep 12 = .ok (.if_icmp .ge 21, 3) := by decide +kernel
theorem dX0_keep_15 : decode cX0_keep 15 = .ok (.aload_n 0, 1) := by decide +kernel
theorem dX0_keep_16 : decode cX0_keep 16 = .ok (.getfield 27, 3) := by decide +kernel
theorem dX0_keep_19 : decode cX0_keep 19 = .ok (.iload_n 2, 1) := by decide +kernel
theorem dX0_keep_20 : decode cX0_keep 20 = .ok (.aload_n 0, 1) := by decide +kernel
theorem dX0_keep_21 : decode cX0_keep 21 = .ok (.getfield 24, 3) := by decide +kernel
theorem dX0_keep_24 : decode cX0_keep 24 = .ok (.iload_n 2, 1) := by decide +kernel
theorem dX0_keep_25 : decode cX0_keep 25 = .ok (.iaload, 1) := by decide +kernel
theorem dX0_keep_26 : decode cX0_keep 26 = .ok (.iastore, 1) := by decide +kernel
theorem dX0_keep_27 : decode cX0_keep 27 = .ok (.iinc 2 1, 3) := by decide +kernel
theorem dX0_keep_30 : decode cX0_keep 30 = .ok (.goto (-23), 3) := by decide +kernel
theorem dX0_keep_33 : decode cX0_keep 33 = .ok (.return_, 1) := by decide +kernel
theorem dX1_init_0 : decode cX1_init 0 = .ok (.aload_n 0, 1) := by decide +kernel
theorem dX1_init_1 : decode cX1_init 1 = .ok (.invokespecial 3, 3) := by decide +kernel
theorem dX1_init_4 : decode cX1_init 4 = .ok (.aload_n 0, 1) := by decide +kernel
theorem dX1_init_5 : decode cX1_init 5 = .ok (.bipush 10, 2) := by decide +kernel
theorem dX1_init_7 : decode cX1_init 7 = .ok (.newarray .int, 2) := by decide +kernel
theorem dX1_init_9 : decode cX1_init 9 = .ok (.putfield 9, 3) := by decide +kernel
theorem dX1_init_12 : decode cX1_init 12 = .ok (.aload_n 0, 1) := by decide +kernel
theorem dX1_init_13 : decode cX1_init 13 = .ok (.bipush 10, 2) := by decide +kernel
theorem dX1_init_15 : decode cX1_init 15 = .ok (.newarray .int, 2) := by decide +kernel
theorem dX1_init_17 : decode cX1_init 17 = .ok (.putfield 15, 3) := by decide +kernel
theorem dX1_init_20 : decode cX1_init 20 = .ok (.aload_n 0, 1) := by decide +kernel
theorem dX1_init_21 : decode cX1_init 21 = .ok (.bipush 10, 2) := by decide +kernel
theorem dX1_init_23 : decode cX1_init 23 = .ok (.newarray .int, 2) := by decide +kernel
theorem dX1_init_25 : decode cX1_init 25 = .ok (.putfield 18, 3) := by decide +kernel
theorem dX1_init_28 : decode cX1_init 28 = .ok (.aload_n 0, 1) := by decide +kernel
theorem dX1_init_29 : decode cX1_init 29 = .ok (.bipush 10, 2) := by decide +kernel
theorem dX1_init_31 : decode cX1_init 31 = .ok (.newarray .int, 2) := by decide +kernel
theorem dX1_init_33 : decode cX1_init 33 = .ok (.putfield 21, 3) := by decide +kernel
theorem dX1_init_36 : decode cX1_init 36 = .ok (.aload_n 0, 1) := by decide +kernel
theorem dX1_init_37 : decode cX1_init 37 = .ok (.iconst 5, 1) := by decide +kernel
theorem dX1_init_38 : decode cX1_init 38 = .ok (.newarray .int, 2) := by decide +kernel
theorem dX1_init_40 : decode cX1_init 40 = .ok (.putfield 24, 3) := by decide +kernel
theorem dX1_init_43 : decode cX1_init 43 = .ok (.aload_n 0, 1) := by decide +kernel
theorem dX1_init_44 : decode cX1_init 44 = .ok (.iconst 5, 1) := by decide +kernel
theorem dX1_init_45 : decode cX1_init 45 = .ok (.newarray .int, 2) := by decide +kernel
theorem dX1_init_47 : decode cX1_init 47 = .ok (.putfield 27, 3) := by decide +kernel
theorem dX1_init_50 : decode cX1_init 50 = .ok (.aload_n 0, 1) := by decide +kernel
theorem dX1_init_51 : decode cX1_init 51 = .ok (.iconst 5, 1) := by decide +kernel
theorem dX1_init_52 : decode cX1_init 52 = .ok (.newarray .int, 2) := by decide +kernel
theorem dX1_init_54 : decode cX1_init 54 = .ok (.putfield 30, 3) := by decide +kernel
theorem dX1_init_57 : decode cX1_init 57 = .ok (.aload_n 0, 1) := by decide +kernel
theorem dX1_init_58 : decode cX1_init 58 = .ok (.iconst 5, 1) := by decide +kernel
theorem dX1_init_59 : decode cX1_init 59 = .ok (.newarray .int, 2) := by decide +kernel
theorem dX1_init_61 : decode cX1_init 61 = .ok (.putfield 33, 3) := by decide +kernel
theorem dX1_init_64 : decode cX1_init 64 = .ok (.aload_n 0, 1) := by decide +kernel
theorem dX1_init_65 : decode cX1_init 65 = .ok (.sipush 200, 3) := by decide +kernel
theorem dX1_init_68 : decode cX1_init 68 = .ok (.putfield 36, 3) := by decide +kernel
theorem dX1_init_71 : decode cX1_init 71 = .ok (.return_, 1) := by decide +kernel
theorem dX1_hasHome_0 : decode cX1_hasHome 0 = .ok (.iload_n 1, 1) := by decide +kernel
theorem dX1_hasHome_1 : decode cX1_hasHome 1 = .ok (.ifCond .lt 15, 3) := by decide +kernel
theorem dX1_hasHome_4 : decode cX1_hasHome 4 = .ok (.iload_n 1, 1) := by decide +kernel
theorem dX1_hasHome_5 : decode cX1_hasHome 5 = .ok (.aload_n 0, 1) := by decide +kernel
theorem dX1_hasHome_6 : decode cX1_hasHome 6 = .ok (.getfield 40, 3) := by decide +kernel
theorem dX1_hasHome_9 : decode cX1_hasHome 9 = .ok (.if_icmp .ge 7, 3) := by decide +kernel
theorem dX1_hasHome_12 : decode cX1_hasHome 12 = .ok (.iconst 1, 1) := by decide +kernel
theorem dX1_hasHome_13 : decode cX1_hasHome 13 = .ok (.goto 4, 3) := by decide +kernel
theorem dX1_hasHome_16 : decode cX1_hasHome 16 = .ok (.iconst 0, 1) := by decide +kernel
theorem dX1_hasHome_17 : decode cX1_hasHome 17 = .ok (.ireturn, 1) := by decide +kernel
theorem dX1_hasChurch_0 : decode cX1_hasChurch 0 = .ok (.iload_n 1, 1) := by decide +kernel
theorem dX1_hasChurch_1 : decode cX1_hasChurch 1 = .ok (.ifCond .lt 15, 3) := by decide +kernel
theorem dX1_hasChurch_4 : decode cX1_hasChurch 4 = .ok (.iload_n 1, 1) := by decide +kernel
theorem dX1_hasChurch_5 : decode cX1_hasChurch 5 = .ok (.aload_n 0, 1) := by decide +kernel
theorem dX1_hasChurch_6 : decode cX1_hasChurch 6 = .ok (.getfield 43, 3) := by decide +kernel
theorem dX1_hasChurch_9 : decode cX1_hasChurch 9 = .ok (.if_icmp .ge 7, 3) := by decide +kernel
theorem dX1_hasChurch_12 : decode cX1_hasChurch 12 = .ok (.iconst 1, 1) := by decide +kernel
theorem dX1_hasChurch_13 : decode cX1_hasChurch 13 = .ok (.goto 4, 3) := by decide +kernel
theorem dX1_hasChurch_16 : decode cX1_hasChurch 16 = .ok (.iconst 0, 1) := by decide +kernel
theorem dX1_hasChurch_17 : decode cX1_hasChurch 17 = .ok (.ireturn, 1) := by decide +kernel
theorem dX1_empty_0 : decode cX1_empty 0 = .ok (.aload_n 0, 1) := by decide +kernel
theorem dX1_empty_1 : decode cX1_empty 1 = .ok (.iconst 0, 1) := by decide +kernel
theorem dX1_empty_2 : decode cX1_empty 2 = .ok (.putfield 40, 3) := by decide +kernel
theorem dX1_empty_5 : decode cX1_empty 5 = .ok (.aload_n 0, 1) := by decide +kernel
theorem dX1_empty_6 : decode cX1_empty 6 = .ok (.iconst 0, 1) := by decide +kernel
theorem dX1_empty_7 : decode cX1_empty 7 = .ok (.putfield 43, 3) := by decide +kernel
theorem dX1_empty_10 : decode cX1_empty 10 = .ok (.aload_n 0, 1) := by decide +kernel
theorem dX1_empty_11 : decode cX1_empty 11 = .ok (.dup, 1) := by decide +kernel
theorem dX1_empty_12 : decode cX1_empty 12 = .ok (.getfield 46, 3) := by decide +kernel
theorem dX1_empty_15 : decode cX1_empty 15 = .ok (.iconst 1, 1) := by decide +kernel
theorem dX1_empty_16 : decode cX1_empty 16 = .ok (.iadd, 1) := by decide +kernel
theorem dX1_empty_17 : decode cX1_empty 17 = .ok (.putfield 46, 3) := by decide +kernel
theorem dX1_empty_20 : decode cX1_empty 20 = .ok (.return_, 1) := by decide +kernel
theorem dX1_addHome_0 : decode cX1_addHome 0 = .ok (.aload_n 0, 1) := by decide +kernel
theorem dX1_addHome_1 : decode cX1_addHome 1 = .ok (.getfield 40, 3) := by decide +kernel
theorem dX1_addHome_4 : decode cX1_addHome 4 = .ok (.istore 4, 2) := by decide +kernel
theorem dX1_addHome_6 : decode cX1_addHome 6 = .ok (.aload_n 0, 1) := by decide +kernel
theorem dX1_addHome_7 : decode cX1_addHome 7 = .ok (.getfield 9, 3) := by decide +kernel
theorem dX1_addHome_10 : decode cX1_addHome 10 = .ok (.iload 4, 2) := by decide +kernel
theorem dX1_addHome_12 : decode cX1_addHome 12 = .ok (.iload_n 1, 1) := by decide +kernel
theorem dX1_addHome_13 : decode cX1_addHome 13 = .ok (.iastore, 1) := by decide +kernel
theorem dX1_addHome_14 : decode cX1_addHome 14 = .ok (.aload_n 0, 1) := by decide +kernel
theorem dX1_addHome_15 : decode cX1_addHome 15 = .ok (.getfield 15, 3) := by decide +kernel
theorem dX1_addHome_18 : decode cX1_addHome 18 = .ok (.iload 4, 2) := by decide +kernel
theorem dX1_addHome_20 : decode cX1_addHome 20 = .ok (.iload_n 2, 1) := by decide +kernel
theorem dX1_addHome_21 : decode cX1_addHome 21 = .ok (.iastore, 1) := by decide +kernel
theorem dX1_addHome_22 : decode cX1_addHome 22 = .ok (.aload_n 0, 1) := by decide +kernel
theorem dX1_addHome_23 : decode cX1_addHome 23 = .ok (.getfield 18, 3) := by decide +kernel
theorem dX1_addHome_26 : decode cX1_addHome 26 = .ok (.iload 4, 2) := by decide +kernel
theorem dX1_addHome_28 : decode cX1_addHome 28 = .ok (.iload_n 3, 1) := by decide +kernel
theorem dX1_addHome_29 : decode cX1_addHome 29 = .ok (.iastore, 1) := by decide +kernel
theorem dX1_addHome_30 : decode cX1_addHome 30 = .ok (.aload_n 0, 1) := by decide +kernel
theorem dX1_addHome_31 : decode cX1_addHome 31 = .ok (.getfield 21, 3) := by decide +kernel
theorem dX1_addHome_34 : decode cX1_addHome 34 = .ok (.iload 4, 2) := by decide +kernel
theorem dX1_addHome_36 : decode cX1_addHome 36 = .ok (.iconst 0, 1) := by decide +kernel
theorem dX1_addHome_37 : decode cX1_addHome 37 = .ok (.iastore, 1) := by decide +kernel
theorem dX1_addHome_38 : decode cX1_addHome 38 = .ok (.aload_n 0, 1) := by decide +kernel
theorem dX1_addHome_39 : decode cX1_addHome 39 = .ok (.dup, 1) := by decide +kernel
theorem dX1_addHome_40 : decode cX1_addHome 40 = .ok (.getfield 40, 3) := by decide +kernel
theorem dX1_addHome_43 : decode cX1_addHome 43 = .ok (.iconst 1, 1) := by decide +kernel
theorem dX1_addHome_44 : decode cX1_addHome 44 = .ok (.iadd, 1) := by decide +kernel
theorem dX1_addHome_45 : decode cX1_addHome 45 = .ok (.putfield 40, 3) := by decide +kernel
theorem dX1_addHome_48 : decode cX1_addHome 48 = .ok (.aload_n 0, 1) := by decide +kernel
theorem dX1_addHome_49 : decode cX1_addHome 49 = .ok (.dup, 1) := by decide +kernel
theorem dX1_addHome_50 : decode cX1_addHome 50 = .ok (.getfield 46, 3) := by decide +kernel
theorem dX1_addHome_53 : decode cX1_addHome 53 = .ok (.iconst 1, 1) := by decide +kernel
theorem dX1_addHome_54 : decode cX1_addHome 54 = .ok (.iadd, 1) := by decide +kernel
theorem dX1_addHome_55 : decode cX1_addHome 55 = .ok (.putfield 46, 3) := by decide +kernel
theorem dX1_addHome_58 : decode cX1_addHome 58 = .ok (.iload 4, 2) := by decide +kernel
theorem dX1_addHome_60 : decode cX1_addHome 60 = .ok (.ireturn, 1) := by decide +kernel
theorem dX1_addChurch_0 : decode cX1_addChurch 0 = .ok (.aload_n 0, 1) := by decide +kernel
theorem dX1_addChurch_1 : decode cX1_addChurch 1 = .ok (.getfield 43, 3) := by decide +kernel
theorem dX1_addChurch_4 : decode cX1_addChurch 4 = .ok (.istore 5, 2) := by decide +kernel
theorem dX1_addChurch_6 : decode cX1_addChurch 6 = .ok (.aload_n 0, 1) := by decide +kernel
theorem dX1_addChurch_7 : decode cX1_addChurch 7 = .ok (.getfield 24, 3) := by decide +kernel
theorem dX1_addChurch_10 : decode cX1_addChurch 10 = .ok (.iload 5, 2) := by decide +kernel
theorem dX1_addChurch_12 : decode cX1_addChurch 12 = .ok (.iload_n 1, 1) := by decide +kernel
theorem dX1_addChurch_13 : decode cX1_addChurch 13 = .ok (.iastore, 1) := by decide +kernel
theorem dX1_addChurch_14 : decode cX1_addChurch 14 = .ok (.aload_n 0, 1) := by decide +kernel
theorem dX1_addChurch_15 : decode cX1_addChurch 15 = .ok (.getfield 27, 3) := by decide +kernel
theorem dX1_addChurch_18 : decode cX1_addChurch 18 = .ok (.iload 5, 2) := by decide +kernel
theorem dX1_addChurch_20 : decode cX1_addChurch 20 = .ok (.iload_n 2, 1) := by decide +kernel
theorem dX1_addChurch_21 : decode cX1_addChurch 21 = .ok (.iastore, 1) := by decide +kernel
theorem dX1_addChurch_22 : decode cX1_addChurch 22 = .ok (.aload_n 0, 1) := by decide +kernel
theorem dX1_addChurch_23 : decode cX1_addChurch 23 = .ok (.getfield 30, 3) := by decide +kernel
theorem dX1_addChurch_26 : decode cX1_addChurch 26 = .ok (.iload 5, 2) := by decide +kernel
theorem dX1_addChurch_28 : decode cX1_addChurch 28 = .ok (.iload_n 3, 1) := by decide +kernel
theorem dX1_addChurch_29 : decode cX1_addChurch 29 = .ok (.iastore, 1) := by decide +kernel
theorem dX1_addChurch_30 : decode cX1_addChurch 30 = .ok (.aload_n 0, 1) := by decide +kernel
theorem dX1_addChurch_31 : decode cX1_addChurch 31 = .ok (.getfield 33, 3) := by decide +kernel
theorem dX1_addChurch_34 : decode cX1_addChurch 34 = .ok (.iload 5, 2) := by decide +kernel
theorem dX1_addChurch_36 : decode cX1_addChurch 36 = .ok (.iload 4, 2) := by decide +kernel
theorem dX1_addChurch_38 : decode cX1_addChurch 38 = .ok (.iastore, 1) := by decide +kernel
theorem dX1_addChurch_39 : decode cX1_addChurch 39 = .ok (.aload_n 0, 1) := by decide +kernel
theorem dX1_addChurch_40 : decode cX1_addChurch 40 = .ok (.dup, 1) := by decide +kernel
theorem dX1_addChurch_41 : decode cX1_addChurch 41 = .ok (.getfield 43, 3) := by decide +kernel
theorem dX1_addChurch_44 : decode cX1_addChurch 44 = .ok (.iconst 1, 1) := by decide +kernel
theorem dX1_addChurch_45 : decode cX1_addChurch 45 = .ok (.iadd, 1) := by decide +kernel
theorem dX1_addChurch_46 : decode cX1_addChurch 46 = .ok (.putfield 43, 3) := by decide +kernel
theorem dX1_addChurch_49 : decode cX1_addChurch 49 = .ok (.aload_n 0, 1) := by decide +kernel
theorem dX1_addChurch_50 : decode cX1_addChurch 50 = .ok (.dup, 1) := by decide +kernel
theorem dX1_addChurch_51 : decode cX1_addChurch 51 = .ok (.getfield 46, 3) := by decide +kernel
theorem dX1_addChurch_54 : decode cX1_addChurch 54 = .ok (.iconst 1, 1) := by decide +kernel
theorem dX1_addChurch_55 : decode cX1_addChurch 55 = .ok (.iadd, 1) := by decide +kernel
theorem dX1_addChurch_56 : decode cX1_addChurch 56 = .ok (.putfield 46, 3) := by decide +kernel
theorem dX1_addChurch_59 : decode cX1_addChurch 59 = .ok (.iload 5, 2) := by decide +kernel
theorem dX1_addChurch_61 : decode cX1_addChurch 61 = .ok (.ireturn, 1) := by decide +kernel
theorem dX1_isBarred_0 : decode cX1_isBarred 0 = .ok (.aload_n 0, 1) := by decide +kernel
theorem dX1_isBarred_1 : decode cX1_isBarred 1 = .ok (.getfield 21, 3) := by decide +kernel
theorem dX1_isBarred_4 : decode cX1_isBarred 4 = .ok (.iload_n 1, 1) := by decide +kernel
theorem dX1_isBarred_5 : decode cX1_isBarred 5 = .ok (.iaload, 1) := by decide +kernel
theorem dX1_isBarred_6 : decode cX1_isBarred 6 = .ok (.iload_n 2, 1) := by decide +kernel
theorem dX1_isBarred_7 : decode cX1_isBarred 7 = .ok (.ishr, 1) := by decide +kernel
theorem dX1_isBarred_8 : decode cX1_isBarred 8 = .ok (.iconst 1, 1) := by decide +kernel
theorem dX1_isBarred_9 : decode cX1_isBarred 9 = .ok (.iand, 1) := by decide +kernel
theorem dX1_isBarred_10 : decode cX1_isBarred 10 = .ok (.iconst 1, 1) := by decide +kernel
theorem dX1_isBarred_11 : decode cX1_isBarred 11 = .ok (.if_icmp .ne 7, 3) := by decide +kernel
theorem dX1_isBarred_14 : decode cX1_isBarred 14 = .ok (.iconst 1, 1) := by decide +kernel
theorem dX1_isBarred_15 : decode cX1_isBarred 15 = .ok (.goto 4, 3) := by decide +kernel
theorem dX1_isBarred_18 : decode cX1_isBarred 18 = .ok (.iconst 0, 1) := by decide +kernel
theorem dX1_isBarred_19 : decode cX1_isBarred 19 = .ok (.ireturn, 1) := by decide +kernel
theorem dX1_turnBar_0 : decode cX1_turnBar 0 = .ok (.aload_n 0, 1) := by decide +kernel
theorem dX1_turnBar_1 : decode cX1_turnBar 1 = .ok (.getfield 21, 3) := by decide +kernel
theorem dX1_turnBar_4 : decode cX1_turnBar 4 = .ok (.iload_n 1, 1) := by decide +kernel
theorem dX1_turnBar_5 : decode cX1_turnBar 5 = .ok (.dup2, 1) := by decide +kernel
theorem dX1_turnBar_6 : decode cX1_turnBar 6 = .ok (.iaload, 1) := by decide +kernel
theorem dX1_turnBar_7 : decode cX1_turnBar 7 = .ok (.iconst 1, 1) := by decide +kernel
theorem dX1_turnBar_8 : decode cX1_turnBar 8 = .ok (.iload_n 2, 1) := by decide +kernel
theorem dX1_turnBar_9 : decode cX1_turnBar 9 = .ok (.ishl, 1) := by decide +kernel
theorem dX1_turnBar_10 : decode cX1_turnBar 10 = .ok (.ixor, 1) := by decide +kernel
theorem dX1_turnBar_11 : decode cX1_turnBar 11 = .ok (.iastore, 1) := by decide +kernel
theorem dX1_turnBar_12 : decode cX1_turnBar 12 = .ok (.aload_n 0, 1) := by decide +kernel
theorem dX1_turnBar_13 : decode cX1_turnBar 13 = .ok (.dup, 1) := by decide +kernel
theorem dX1_turnBar_14 : decode cX1_turnBar 14 = .ok (.getfield 46, 3) := by decide +kernel
theorem dX1_turnBar_17 : decode cX1_turnBar 17 = .ok (.iconst 1, 1) := by decide +kernel
theorem dX1_turnBar_18 : decode cX1_turnBar 18 = .ok (.iadd, 1) := by decide +kernel
theorem dX1_turnBar_19 : decode cX1_turnBar 19 = .ok (.putfield 46, 3) := by decide +kernel
theorem dX1_turnBar_22 : decode cX1_turnBar 22 = .ok (.return_, 1) := by decide +kernel
theorem dX1_changeSeats_0 : decode cX1_changeSeats 0 = .ok (.aload_n 0, 1) := by decide +kernel
theorem dX1_changeSeats_1 : decode cX1_changeSeats 1 = .ok (.getfield 33, 3) := by decide +kernel
theorem dX1_changeSeats_4 : decode cX1_changeSeats 4 = .ok (.iload_n 1, 1) := by decide +kernel
theorem dX1_changeSeats_5 : decode cX1_changeSeats 5 = .ok (.iaload, 1) := by decide +kernel
theorem dX1_changeSeats_6 : decode cX1_changeSeats 6 = .ok (.istore_n 3, 1) := by decide +kernel
theorem dX1_changeSeats_7 : decode cX1_changeSeats 7 = .ok (.aload_n 0, 1) := by decide +kernel
theorem dX1_changeSeats_8 : decode cX1_changeSeats 8 = .ok (.getfield 33, 3) := by decide +kernel
theorem dX1_changeSeats_11 : decode cX1_changeSeats 11 = .ok (.iload_n 1, 1) := by decide +kernel
theorem dX1_changeSeats_12 : decode cX1_changeSeats 12 = .ok (.iload_n 2, 1) := by decide +kernel
theorem dX1_changeSeats_13 : decode cX1_changeSeats 13 = .ok (.iastore, 1) := by decide +kernel
theorem dX1_changeSeats_14 : decode cX1_changeSeats 14 = .ok (.aload_n 0, 1) := by decide +kernel
theorem dX1_changeSeats_15 : decode cX1_changeSeats 15 = .ok (.dup, 1) := by decide +kernel
theorem dX1_changeSeats_16 : decode cX1_changeSeats 16 = .ok (.getfield 46, 3) := by decide +kernel
theorem dX1_changeSeats_19 : decode cX1_changeSeats 19 = .ok (.iconst 1, 1) := by decide +kernel
theorem dX1_changeSeats_20 : decode cX1_changeSeats 20 = .ok (.iadd, 1) := by decide +kernel
theorem dX1_changeSeats_21 : decode cX1_changeSeats 21 = .ok (.putfield 46, 3) := by decide +kernel
theorem dX1_changeSeats_24 : decode cX1_changeSeats 24 = .ok (.iload_n 3, 1) := by decide +kernel
theorem dX1_changeSeats_25 : decode cX1_changeSeats 25 = .ok (.ireturn, 1) := by decide +kernel
theorem dX1_changeToll_0 : decode cX1_changeToll 0 = .ok (.aload_n 0, 1) := by decide +kernel
theorem dX1_changeToll_1 : decode cX1_changeToll 1 = .ok (.getfield 36, 3) := by decide +kernel
theorem dX1_changeToll_4 : decode cX1_changeToll 4 = .ok (.istore_n 2, 1) := by decide +kernel
theorem dX1_changeToll_5 : decode cX1_changeToll 5 = .ok (.aload_n 0, 1) := by decide +kernel
theorem dX1_changeToll_6 : decode cX1_changeToll 6 = .ok (.iload_n 1, 1) := by decide +kernel
theorem dX1_changeToll_7 : decode cX1_changeToll 7 = .ok (.putfield 36, 3) := by decide +kernel
theorem dX1_changeToll_10 : decode cX1_changeToll 10 = .ok (.aload_n 0, 1) := by decide +kernel
theorem dX1_changeToll_11 : decode cX1_changeToll 11 = .ok (.dup, 1) := by decide +kernel
theorem dX1_changeToll_12 : decode cX1_changeToll 12 = .ok (.getfield 46, 3) := by decide +kernel
theorem dX1_changeToll_15 : decode cX1_changeToll 15 = .ok (.iconst 1, 1) := by decide +kernel
theorem dX1_changeToll_16 : decode cX1_changeToll 16 = .ok (.iadd, 1) := by decide +kernel
theorem dX1_changeToll_17 : decode cX1_changeToll 17 = .ok (.putfield 46, 3) := by decide +kernel
theorem dX1_changeToll_20 : decode cX1_changeToll 20 = .ok (.iload_n 2, 1) := by decide +kernel
theorem dX1_changeToll_21 : decode cX1_changeToll 21 = .ok (.ireturn, 1) := by decide +kernel
theorem dX1_moveChurch_0 : decode cX1_moveChurch 0 = .ok (.aload_n 0, 1) := by decide +kernel
theorem dX1_moveChurch_1 : decode cX1_moveChurch 1 = .ok (.getfield 27, 3) := by decide +kernel
theorem dX1_moveChurch_4 : decode cX1_moveChurch 4 = .ok (.iload_n 1, 1) := by decide +kernel
theorem dX1_moveChurch_5 : decode cX1_moveChurch 5 = .ok (.iload_n 2, 1) := by decide +kernel
theorem dX1_moveChurch_6 : decode cX1_moveChurch 6 = .ok (.iastore, 1) := by decide +kernel
theorem dX1_moveChurch_7 : decode cX1_moveChurch 7 = .ok (.aload_n 0, 1) := by decide +kernel
theorem dX1_moveChurch_8 : decode cX1_moveChurch 8 = .ok (.getfield 30, 3) := by decide +kernel
theorem dX1_moveChurch_11 : decode cX1_moveChurch 11 = .ok (.iload_n 1, 1) := by decide +kernel
theorem dX1_moveChurch_12 : decode cX1_moveChurch 12 = .ok (.iload_n 3, 1) := by decide +kernel
theorem dX1_moveChurch_13 : decode cX1_moveChurch 13 = .ok (.iastore, 1) := by decide +kernel
theorem dX1_moveChurch_14 : decode cX1_moveChurch 14 = .ok (.aload_n 0, 1) := by decide +kernel
theorem dX1_moveChurch_15 : decode cX1_moveChurch 15 = .ok (.dup, 1) := by decide +kernel
theorem dX1_moveChurch_16 : decode cX1_moveChurch 16 = .ok (.getfield 46, 3) := by decide +kernel
theorem dX1_moveChurch_19 : decode cX1_moveChurch 19 = .ok (.iconst 1, 1) := by decide +kernel
theorem dX1_moveChurch_20 : decode cX1_moveChurch 20 = .ok (.iadd, 1) := by decide +kernel
theorem dX1_moveChurch_21 : decode cX1_moveChurch 21 = .ok (.putfield 46, 3) := by decide +kernel
theorem dX1_moveChurch_24 : decode cX1_moveChurch 24 = .ok (.return_, 1) := by decide +kernel
theorem dX1_atOneSpot_0 : decode cX1_atOneSpot 0 = .ok (.aload_n 0, 1) := by decide +kernel
theorem dX1_atOneSpot_1 : decode cX1_atOneSpot 1 = .ok (.getfield 27, 3) := by decide +kernel
theorem dX1_atOneSpot_4 : decode cX1_atOneSpot 4 = .ok (.iload_n 1, 1) := by decide +kernel
theorem dX1_atOneSpot_5 : decode cX1_atOneSpot 5 = .ok (.iaload, 1) := by decide +kernel
theorem dX1_atOneSpot_6 : decode cX1_atOneSpot 6 = .ok (.aload_n 0, 1) := by decide +kernel
theorem dX1_atOneSpot_7 : decode cX1_atOneSpot 7 = .ok (.getfield 27, 3) := by decide +kernel
theorem dX1_atOneSpot_10 : decode cX1_atOneSpot 10 = .ok (.iload_n 2, 1) := by decide +kernel
theorem dX1_atOneSpot_11 : decode cX1_atOneSpot 11 = .ok (.iaload, 1) := by decide +kernel
theorem dX1_atOneSpot_12 : decode cX1_atOneSpot 12 = .ok (.if_icmp .ne 22, 3) := by decide +kernel
theorem dX1_atOneSpot_15 : decode cX1_atOneSpot 15 = .ok (.aload_n 0, 1) := by decide +kernel
theorem dX1_atOneSpot_16 : decode cX1_atOneSpot 16 = .ok (.getfield 30, 3) := by decide +kernel
theorem dX1_atOneSpot_19 : decode cX1_atOneSpot 19 = .ok (.iload_n 1, 1) := by decide +kernel
theorem dX1_atOneSpot_20 : decode cX1_atOneSpot 20 = .ok (.iaload, 1) := by decide +kernel
theorem dX1_atOneSpot_21 : decode cX1_atOneSpot 21 = .ok (.aload_n 0, 1) := by decide +kernel
theorem dX1_atOneSpot_22 : decode cX1_atOneSpot 22 = .ok (.getfield 30, 3) := by decide +kernel
theorem dX1_atOneSpot_25 : decode cX1_atOneSpot 25 = .ok (.iload_n 2, 1) := by decide +kernel
theorem dX1_atOneSpot_26 : decode cX1_atOneSpot 26 = .ok (.iaload, 1) := by decide +kernel
theorem dX1_atOneSpot_27 : decode cX1_atOneSpot 27 = .ok (.if_icmp .ne 7, 3) := by decide +kernel
theorem dX1_atOneSpot_30 : decode cX1_atOneSpot 30 = .ok (.iconst 1, 1) := by decide +kernel
theorem dX1_atOneSpot_31 : decode cX1_atOneSpot 31 = .ok (.goto 4, 3) := by decide +kernel
theorem dX1_atOneSpot_34 : decode cX1_atOneSpot 34 = .ok (.iconst 0, 1) := by decide +kernel
theorem dX1_atOneSpot_35 : decode cX1_atOneSpot 35 = .ok (.ireturn, 1) := by decide +kernel
theorem dX1_farTo_0 : decode cX1_farTo 0 = .ok (.aload_n 0, 1) := by decide +kernel
theorem dX1_farTo_1 : decode cX1_farTo 1 = .ok (.aload_n 0, 1) := by decide +kernel
theorem dX1_farTo_2 : decode cX1_farTo 2 = .ok (.getfield 24, 3) := by decide +kernel
theorem dX1_farTo_5 : decode cX1_farTo 5 = .ok (.iload_n 1, 1) := by decide +kernel
theorem dX1_farTo_6 : decode cX1_farTo 6 = .ok (.iaload, 1) := by decide +kernel
theorem dX1_farTo_7 : decode cX1_farTo 7 = .ok (.iload_n 2, 1) := by decide +kernel
theorem dX1_farTo_8 : decode cX1_farTo 8 = .ok (.iload_n 3, 1) := by decide +kernel
theorem dX1_farTo_9 : decode cX1_farTo 9 = .ok (.aload_n 0, 1) := by decide +kernel
theorem dX1_farTo_10 : decode cX1_farTo 10 = .ok (.getfield 27, 3) := by decide +kernel
theorem dX1_farTo_13 : decode cX1_farTo 13 = .ok (.iload_n 1, 1) := by decide +kernel
theorem dX1_farTo_14 : decode cX1_farTo 14 = .ok (.iaload, 1) := by decide +kernel
theorem dX1_farTo_15 : decode cX1_farTo 15 = .ok (.aload_n 0, 1) := by decide +kernel
theorem dX1_farTo_16 : decode cX1_farTo 16 = .ok (.getfield 30, 3) := by decide +kernel
theorem dX1_farTo_19 : decode cX1_farTo 19 = .ok (.iload_n 1, 1) := by decide +kernel
theorem dX1_farTo_20 : decode cX1_farTo 20 = .ok (.iaload, 1) := by decide +kernel
theorem dX1_farTo_21 : decode cX1_farTo 21 = .ok (.invokevirtual 49, 3) := by decide +kernel
theorem dX1_farTo_24 : decode cX1_farTo 24 = .ok (.ireturn, 1) := by decide +kernel
theorem dX1_farBetween_0 : decode cX1_farBetween 0 = .ok (.iload_n 2, 1) := by decide +kernel
theorem dX1_farBetween_1 : decode cX1_farBetween 1 = .ok (.iload 4, 2) := by decide +kernel
theorem dX1_farBetween_3 : decode cX1_farBetween 3 = .ok (.isub, 1) := by decide +kernel
theorem dX1_farBetween_4 : decode cX1_farBetween 4 = .ok (.invokestatic 53, 3) := by decide +kernel
theorem dX1_farBetween_7 : decode cX1_farBetween 7 = .ok (.istore 6, 2) := by decide +kernel
theorem dX1_farBetween_9 : decode cX1_farBetween 9 = .ok (.iload_n 3, 1) := by decide +kernel
theorem dX1_farBetween_10 : decode cX1_farBetween 10 = .ok (.iload 5, 2) := by decide +kernel
theorem dX1_farBetween_12 : decode cX1_farBetween 12 = .ok (.isub, 1) := by decide +kernel
theorem dX1_farBetween_13 : decode cX1_farBetween 13 = .ok (.invokestatic 53, 3) := by decide +kernel
theorem dX1_farBetween_16 : decode cX1_farBetween 16 = .ok (.istore 7, 2) := by decide +kernel
theorem dX1_farBetween_18 : decode cX1_farBetween 18 = .ok (.iload_n 1, 1) := by decide +kernel
theorem dX1_farBetween_19 : decode cX1_farBetween 19 = .ok (.ifCond .ne 15, 3) := by decide +kernel
theorem dX1_farBetween_22 : decode cX1_farBetween 22 = .ok (.iload 6, 2) := by decide +kernel
theorem dX1_farBetween_24 : decode cX1_farBetween 24 = .ok (.iload 6, 2) := by decide +kernel
theorem dX1_farBetween_26 : decode cX1_farBetween 26 = .ok (.imul, 1) := by decide +kernel
theorem dX1_farBetween_27 : decode cX1_farBetween 27 = .ok (.iload 7, 2) := by decide +kernel
theorem dX1_farBetween_29 : decode cX1_farBetween 29 = .ok (.iload 7, 2) := by decide +kernel
theorem dX1_farBetween_31 : decode cX1_farBetween 31 = .ok (.imul, 1) := by decide +kernel
theorem dX1_farBetween_32 : decode cX1_farBetween 32 = .ok (.iadd, 1) := by decide +kernel
theorem dX1_farBetween_33 : decode cX1_farBetween 33 = .ok (.ireturn, 1) := by decide +kernel
theorem dX1_farBetween_34 : decode cX1_farBetween 34 = .ok (.iload_n 1, 1) := by decide +kernel
theorem dX1_farBetween_35 : decode cX1_farBetween 35 = .ok (.iconst 2, 1) := by decide +kernel
theorem dX1_farBetween_36 : decode cX1_farBetween 36 = .ok (.if_icmp .ne 33, 3) := by decide +kernel
theorem dX1_farBetween_39 : decode cX1_farBetween 39 = .ok (.iload_n 2, 1) := by decide +kernel
theorem dX1_farBetween_40 : decode cX1_farBetween 40 = .ok (.bipush 30, 2) := by decide +kernel
theorem dX1_farBetween_42 : decode cX1_farBetween 42 = .ok (.if_icmp .ge 7, 3) := by decide +kernel
theorem dX1_farBetween_45 : decode cX1_farBetween 45 = .ok (.iconst 1, 1) := by decide +kernel
theorem dX1_farBetween_46 : decode cX1_farBetween 46 = .ok (.goto 4, 3) := by decide +kernel
theorem dX1_farBetween_49 : decode cX1_farBetween 49 = .ok (.iconst 0, 1) := by decide +kernel
theorem dX1_farBetween_50 : decode cX1_farBetween 50 = .ok (.iload 4, 2) := by decide +kernel
theorem dX1_farBetween_52 : decode cX1_farBetween 52 = .ok (.bipush 30, 2) := by decide +kernel
theorem dX1_farBetween_54 : decode cX1_farBetween 54 = .ok (.if_icmp .ge 7, 3) := by decide +kernel
theorem dX1_farBetween_57 : decode cX1_farBetween 57 = .ok (.iconst 1, 1) := by decide +kernel
theorem dX1_farBetween_58 : decode cX1_farBetween 58 = .ok (.goto 4, 3) := by decide +kernel
theorem dX1_farBetween_61 : decode cX1_farBetween 61 = .ok (.iconst 0, 1) := by decide +kernel
theorem dX1_farBetween_62 : decode cX1_farBetween 62 = .ok (.if_icmp .eq 7, 3) := by decide +kernel
theorem dX1_farBetween_65 : decode cX1_farBetween 65 = .ok (.iconst 1, 1) := by decide +kernel
theorem dX1_farBetween_66 : decode cX1_farBetween 66 = .ok (.goto 4, 3) := by decide +kernel
theorem dX1_farBetween_69 : decode cX1_farBetween 69 = .ok (.iconst 0, 1) := by decide +kernel
theorem dX1_farBetween_70 : decode cX1_farBetween 70 = .ok (.istore 8, 2) := by decide +kernel
theorem dX1_farBetween_72 : decode cX1_farBetween 72 = .ok (.bipush 10, 2) := by decide +kernel
theorem dX1_farBetween_74 : decode cX1_farBetween 74 = .ok (.iload 6, 2) := by decide +kernel
theorem dX1_farBetween_76 : decode cX1_farBetween 76 = .ok (.iload 7, 2) := by decide +kernel
theorem dX1_farBetween_78 : decode cX1_farBetween 78 = .ok (.iadd, 1) := by decide +kernel
theorem dX1_farBetween_79 : decode cX1_farBetween 79 = .ok (.imul, 1) := by decide +kernel
theorem dX1_farBetween_80 : decode cX1_farBetween 80 = .ok (.iload 8, 2) := by decide +kernel
theorem dX1_farBetween_82 : decode cX1_farBetween 82 = .ok (.ifCond .eq 10, 3) := by decide +kernel
theorem dX1_farBetween_85 : decode cX1_farBetween 85 = .ok (.aload_n 0, 1) := by decide +kernel
theorem dX1_farBetween_86 : decode cX1_farBetween 86 = .ok (.getfield 36, 3) := by decide +kernel
theorem dX1_farBetween_89 : decode cX1_farBetween 89 = .ok (.goto 4, 3) := by decide +kernel
theorem dX1_farBetween_92 : decode cX1_farBetween 92 = .ok (.iconst 0, 1) := by decide +kernel
theorem dX1_farBetween_93 : decode cX1_farBetween 93 = .ok (.iadd, 1) := by decide +kernel
theorem dX1_farBetween_94 : decode cX1_farBetween 94 = .ok (.ireturn, 1) := by decide +kernel
theorem dX1_cannotSit_0 : decode cX1_cannotSit 0 = .ok (.iconst 0, 1) := by decide +kernel
theorem dX1_cannotSit_1 : decode cX1_cannotSit 1 = .ok (.istore_n 2, 1) := by decide +kernel
theorem dX1_cannotSit_2 : decode cX1_cannotSit 2 = .ok (.iconst (-1), 1) := by decide +kernel
theorem dX1_cannotSit_3 : decode cX1_cannotSit 3 = .ok (.istore_n 3, 1) := by decide +kernel
theorem dX1_cannotSit_4 : decode cX1_cannotSit 4 = .ok (.iconst 0, 1) := by decide +kernel
theorem dX1_cannotSit_5 : decode cX1_cannotSit 5 = .ok (.istore 4, 2) := by decide +kernel
theorem dX1_cannotSit_7 : decode cX1_cannotSit 7 = .ok (.iload 4, 2) := by decide +kernel
theorem dX1_cannotSit_9 : decode cX1_cannotSit 9 = .ok (.aload_n 0, 1) := by decide +kernel
theorem dX1_cannotSit_10 : decode cX1_cannotSit 10 = .ok (.getfield 40, 3) := by decide +kernel
theorem dX1_cannotSit_13 : decode cX1_cannotSit 13 = .ok (.if_icmp .ge 39, 3) := by decide +kernel
theorem dX1_cannotSit_16 : decode cX1_cannotSit 16 = .ok (.iload_n 1, 1) := by decide +kernel
theorem dX1_cannotSit_17 : decode cX1_cannotSit 17 = .ok (.iload 4, 2) := by decide +kernel
theorem dX1_cannotSit_19 : decode cX1_cannotSit 19 = .ok (.ishr, 1) := by decide +kernel
theorem dX1_cannotSit_20 : decode cX1_cannotSit 20 = .ok (.iconst 1, 1) := by decide +kernel
theorem dX1_cannotSit_21 : decode cX1_cannotSit 21 = .ok (.iand, 1) := by decide +kernel
theorem dX1_cannotSit_22 : decode cX1_cannotSit 22 = .ok (.iconst 1, 1) := by decide +kernel
theorem dX1_cannotSit_23 : decode cX1_cannotSit 23 = .ok (.if_icmp .ne 23, 3) := by decide +kernel
theorem dX1_cannotSit_26 : decode cX1_cannotSit 26 = .ok (.iload_n 2, 1) := by decide +kernel
theorem dX1_cannotSit_27 : decode cX1_cannotSit 27 = .ok (.aload_n 0, 1) := by decide +kernel
theorem dX1_cannotSit_28 : decode cX1_cannotSit 28 = .ok (.getfield 18, 3) := by decide +kernel
theorem dX1_cannotSit_31 : decode cX1_cannotSit 31 = .ok (.iload 4, 2) := by decide +kernel
theorem dX1_cannotSit_33 : decode cX1_cannotSit 33 = .ok (.iaload, 1) := by decide +kernel
theorem dX1_cannotSit_34 : decode cX1_cannotSit 34 = .ok (.iadd, 1) := by decide +kernel
theorem dX1_cannotSit_35 : decode cX1_cannotSit 35 = .ok (.istore_n 2, 1) := by decide +kernel
theorem dX1_cannotSit_36 : decode cX1_cannotSit 36 = .ok (.iload_n 3, 1) := by decide +kernel
theorem dX1_cannotSit_37 : decode cX1_cannotSit 37 = .ok (.aload_n 0, 1) := by decide +kernel
theorem dX1_cannotSit_38 : decode cX1_cannotSit 38 = .ok (.getfield 21, 3) := by decide +kernel
theorem dX1_cannotSit_41 : decode cX1_cannotSit 41 = .ok (.iload 4, 2) := by decide +kernel
theorem dX1_cannotSit_43 : decode cX1_cannotSit 43 = .ok (.iaload, 1) := by decide +kernel
theorem dX1_cannotSit_44 : decode cX1_cannotSit 44 = .ok (.iand, 1) := by decide +kernel
theorem dX1_cannotSit_45 : decode cX1_cannotSit 45 = .ok (.istore_n 3, 1) := by decide +kernel
theorem dX1_cannotSit_46 : decode cX1_cannotSit 46 = .ok (.iinc 4 1, 3) := by decide +kernel
theorem dX1_cannotSit_49 : decode cX1_cannotSit 49 = .ok (.goto (-42), 3) := by decide +kernel
theorem dX1_cannotSit_52 : decode cX1_cannotSit 52 = .ok (.iconst 0, 1) := by decide +kernel
theorem dX1_cannotSit_53 : decode cX1_cannotSit 53 = .ok (.istore 4, 2) := by decide +kernel
theorem dX1_cannotSit_55 : decode cX1_cannotSit 55 = .ok (.iload 4, 2) := by decide +kernel
theorem dX1_cannotSit_57 : decode cX1_cannotSit 57 = .ok (.aload_n 0, 1) := by decide +kernel
theorem dX1_cannotSit_58 : decode cX1_cannotSit 58 = .ok (.getfield 43, 3) := by decide +kernel
theorem dX1_cannotSit_61 : decode cX1_cannotSit 61 = .ok (.if_icmp .ge 28, 3) := by decide +kernel
theorem dX1_cannotSit_64 : decode cX1_cannotSit 64 = .ok (.iload_n 3, 1) := by decide +kernel
theorem dX1_cannotSit_65 : decode cX1_cannotSit 65 = .ok (.iload 4, 2) := by decide +kernel
theorem dX1_cannotSit_67 : decode cX1_cannotSit 67 = .ok (.ishr, 1) := by decide +kernel
theorem dX1_cannotSit_68 : decode cX1_cannotSit 68 = .ok (.iconst 1, 1) := by decide +kernel
theorem dX1_cannotSit_69 : decode cX1_cannotSit 69 = .ok (.iand, 1) := by decide +kernel
theorem dX1_cannotSit_70 : decode cX1_cannotSit 70 = .ok (.ifCond .ne 13, 3) := by decide +kernel
theorem dX1_cannotSit_73 : decode cX1_cannotSit 73 = .ok (.iload_n 2, 1) := by decide +kernel
theorem dX1_cannotSit_74 : decode cX1_cannotSit 74 = .ok (.aload_n 0, 1) := by decide +kernel
theorem dX1_cannotSit_75 : decode cX1_cannotSit 75 = .ok (.getfield 33, 3) := by decide +kernel
theorem dX1_cannotSit_78 : decode cX1_cannotSit 78 = .ok (.iload 4, 2) := by decide +kernel
theorem dX1_cannotSit_80 : decode cX1_cannotSit 80 = .ok (.iaload, 1) := by decide +kernel
theorem dX1_cannotSit_81 : decode cX1_cannotSit 81 = .ok (.isub, 1) := by decide +kernel
theorem dX1_cannotSit_82 : decode cX1_cannotSit 82 = .ok (.istore_n 2, 1) := by decide +kernel
theorem dX1_cannotSit_83 : decode cX1_cannotSit 83 = .ok (.iinc 4 1, 3) := by decide +kernel
theorem dX1_cannotSit_86 : decode cX1_cannotSit 86 = .ok (.goto (-31), 3) := by decide +kernel
theorem dX1_cannotSit_89 : decode cX1_cannotSit 89 = .ok (.iload_n 2, 1) := by decide +kernel
theorem dX1_cannotSit_90 : decode cX1_cannotSit 90 = .ok (.ifCond .le 7, 3) := by decide +kernel
theorem dX1_cannotSit_93 : decode cX1_cannotSit 93 = .ok (.iconst 1, 1) := by decide +kernel
theorem dX1_cannotSit_94 : decode cX1_cannotSit 94 = .ok (.goto 4, 3) := by decide +kernel
theorem dX1_cannotSit_97 : decode cX1_cannotSit 97 = .ok (.iconst 0, 1) := by decide +kernel
theorem dX1_cannotSit_98 : decode cX1_cannotSit 98 = .ok (.ireturn, 1) := by decide +kernel
theorem dX1_proofHolds_0 : decode cX1_proofHolds 0 = .ok (.iload_n 2, 1) := by decide +kernel
theorem dX1_proofHolds_1 : decode cX1_proofHolds 1 = .ok (.aload_n 0, 1) := by decide +kernel
theorem dX1_proofHolds_2 : decode cX1_proofHolds 2 = .ok (.getfield 40, 3) := by decide +kernel
theorem dX1_proofHolds_5 : decode cX1_proofHolds 5 = .ok (.aload_n 0, 1) := by decide +kernel
theorem dX1_proofHolds_6 : decode cX1_proofHolds 6 = .ok (.getfield 43, 3) := by decide +kernel
theorem dX1_proofHolds_9 : decode cX1_proofHolds 9 = .ok (.imul, 1) := by decide +kernel
theorem dX1_proofHolds_10 : decode cX1_proofHolds 10 = .ok (.iadd, 1) := by decide +kernel
theorem dX1_proofHolds_11 : decode cX1_proofHolds 11 = .ok (.istore_n 3, 1) := by decide +kernel
theorem dX1_proofHolds_12 : decode cX1_proofHolds 12 = .ok (.iconst 0, 1) := by decide +kernel
theorem dX1_proofHolds_13 : decode cX1_proofHolds 13 = .ok (.istore 4, 2) := by decide +kernel
theorem dX1_proofHolds_15 : decode cX1_proofHolds 15 = .ok (.iload 4, 2) := by decide +kernel
theorem dX1_proofHolds_17 : decode cX1_proofHolds 17 = .ok (.aload_n 0, 1) := by decide +kernel
theorem dX1_proofHolds_18 : decode cX1_proofHolds 18 = .ok (.getfield 40, 3) := by decide +kernel
theorem dX1_proofHolds_21 : decode cX1_proofHolds 21 = .ok (.if_icmp .ge 30, 3) := by decide +kernel
theorem dX1_proofHolds_24 : decode cX1_proofHolds 24 = .ok (.aload_n 0, 1) := by decide +kernel
theorem dX1_proofHolds_25 : decode cX1_proofHolds 25 = .ok (.iload 4, 2) := by decide +kernel
theorem dX1_proofHolds_27 : decode cX1_proofHolds 27 = .ok (.aload_n 1, 1) := by decide +kernel
theorem dX1_proofHolds_28 : decode cX1_proofHolds 28 = .ok (.iload_n 2, 1) := by decide +kernel
theorem dX1_proofHolds_29 : decode cX1_proofHolds 29 = .ok (.iload 4, 2) := by decide +kernel
theorem dX1_proofHolds_31 : decode cX1_proofHolds 31 = .ok (.aload_n 0, 1) := by decide +kernel
theorem dX1_proofHolds_32 : decode cX1_proofHolds 32 = .ok (.getfield 43, 3) := by decide +kernel
theorem dX1_proofHolds_35 : decode cX1_proofHolds 35 = .ok (.imul, 1) := by decide +kernel
theorem dX1_proofHolds_36 : decode cX1_proofHolds 36 = .ok (.iadd, 1) := by decide +kernel
theorem dX1_proofHolds_37 : decode cX1_proofHolds 37 = .ok (.invokevirtual 59, 3) := by decide +kernel
theorem dX1_proofHolds_40 : decode cX1_proofHolds 40 = .ok (.ifCond .ne 5, 3) := by decide +kernel
theorem dX1_proofHolds_43 : decode cX1_proofHolds 43 = .ok (.iconst 0, 1) := by decide +kernel
theorem dX1_proofHolds_44 : decode cX1_proofHolds 44 = .ok (.ireturn, 1) := by decide +kernel
theorem dX1_proofHolds_45 : decode cX1_proofHolds 45 = .ok (.iinc 4 1, 3) := by decide +kernel
theorem dX1_proofHolds_48 : decode cX1_proofHolds 48 = .ok (.goto (-33), 3) := by decide +kernel
theorem dX1_proofHolds_51 : decode cX1_proofHolds 51 = .ok (.iconst 0, 1) := by decide +kernel
theorem dX1_proofHolds_52 : decode cX1_proofHolds 52 = .ok (.istore 4, 2) := by decide +kernel
theorem dX1_proofHolds_54 : decode cX1_proofHolds 54 = .ok (.iload 4, 2) := by decide +kernel
theorem dX1_proofHolds_56 : decode cX1_proofHolds 56 = .ok (.aload_n 0, 1) := by decide +kernel
theorem dX1_proofHolds_57 : decode cX1_proofHolds 57 = .ok (.getfield 43, 3) := by decide +kernel
theorem dX1_proofHolds_60 : decode cX1_proofHolds 60 = .ok (.if_icmp .ge 28, 3) := by decide +kernel
theorem dX1_proofHolds_63 : decode cX1_proofHolds 63 = .ok (.aload_n 0, 1) := by decide +kernel
theorem dX1_proofHolds_64 : decode cX1_proofHolds 64 = .ok (.iload 4, 2) := by decide +kernel
theorem dX1_proofHolds_66 : decode cX1_proofHolds 66 = .ok (.aload_n 1, 1) := by decide +kernel
theorem dX1_proofHolds_67 : decode cX1_proofHolds 67 = .ok (.iload_n 2, 1) := by decide +kernel
theorem dX1_proofHolds_68 : decode cX1_proofHolds 68 = .ok (.aload_n 1, 1) := by decide +kernel
theorem dX1_proofHolds_69 : decode cX1_proofHolds 69 = .ok (.iload_n 3, 1) := by decide +kernel
theorem dX1_proofHolds_70 : decode cX1_proofHolds 70 = .ok (.iload 4, 2) := by decide +kernel
theorem dX1_proofHolds_72 : decode cX1_proofHolds 72 = .ok (.iadd, 1) := by decide +kernel
theorem dX1_proofHolds_73 : decode cX1_proofHolds 73 = .ok (.iaload, 1) := by decide +kernel
theorem dX1_proofHolds_74 : decode cX1_proofHolds 74 = .ok (.invokevirtual 63, 3) := by decide +kernel
theorem dX1_proofHolds_77 : decode cX1_proofHolds 77 = .ok (.ifCond .ne 5, 3) := by decide +kernel
theorem dX1_proofHolds_80 : decode cX1_proofHolds 80 = .ok (.iconst 0, 1) := by decide +kernel
theorem dX1_proofHolds_81 : decode cX1_proofHolds 81 = .ok (.ireturn, 1) := by decide +kernel
theorem dX1_proofHolds_82 : decode cX1_proofHolds 82 = .ok (.iinc 4 1, 3) := by decide +kernel
theorem dX1_proofHolds_85 : decode cX1_proofHolds 85 = .ok (.goto (-31), 3) := by decide +kernel
theorem dX1_proofHolds_88 : decode cX1_proofHolds 88 = .ok (.iconst 0, 1) := by decide +kernel
theorem dX1_proofHolds_89 : decode cX1_proofHolds 89 = .ok (.istore 4, 2) := by decide +kernel
theorem dX1_proofHolds_91 : decode cX1_proofHolds 91 = .ok (.iload 4, 2) := by decide +kernel
theorem dX1_proofHolds_93 : decode cX1_proofHolds 93 = .ok (.aload_n 0, 1) := by decide +kernel
theorem dX1_proofHolds_94 : decode cX1_proofHolds 94 = .ok (.getfield 40, 3) := by decide +kernel
theorem dX1_proofHolds_97 : decode cX1_proofHolds 97 = .ok (.if_icmp .ge 31, 3) := by decide +kernel
theorem dX1_proofHolds_100 : decode cX1_proofHolds 100 = .ok (.aload_n 0, 1) := by decide +kernel
theorem dX1_proofHolds_101 : decode cX1_proofHolds 101 = .ok (.iload 4, 2) := by decide +kernel
theorem dX1_proofHolds_103 : decode cX1_proofHolds 103 = .ok (.aload_n 1, 1) := by decide +kernel
theorem dX1_proofHolds_104 : decode cX1_proofHolds 104 = .ok (.iload_n 2, 1) := by decide +kernel
theorem dX1_proofHolds_105 : decode cX1_proofHolds 105 = .ok (.iload 4, 2) := by decide +kernel
theorem dX1_proofHolds_107 : decode cX1_proofHolds 107 = .ok (.aload_n 0, 1) := by decide +kernel
theorem dX1_proofHolds_108 : decode cX1_proofHolds 108 = .ok (.getfield 43, 3) := by decide +kernel
theorem dX1_proofHolds_111 : decode cX1_proofHolds 111 = .ok (.imul, 1) := by decide +kernel
theorem dX1_proofHolds_112 : decode cX1_proofHolds 112 = .ok (.iadd, 1) := by decide +kernel
theorem dX1_proofHolds_113 : decode cX1_proofHolds 113 = .ok (.iload_n 3, 1) := by decide +kernel
theorem dX1_proofHolds_114 : decode cX1_proofHolds 114 = .ok (.invokevirtual 67, 3) := by decide +kernel
theorem dX1_proofHolds_117 : decode cX1_proofHolds 117 = .ok (.ifCond .ne 5, 3) := by decide +kernel
theorem dX1_proofHolds_120 : decode cX1_proofHolds 120 = .ok (.iconst 0, 1) := by decide +kernel
theorem dX1_proofHolds_121 : decode cX1_proofHolds 121 = .ok (.ireturn, 1) := by decide +kernel
theorem dX1_proofHolds_122 : decode cX1_proofHolds 122 = .ok (.iinc 4 1, 3) := by decide +kernel
theorem dX1_proofHolds_125 : decode cX1_proofHolds 125 = .ok (.goto (-34), 3) := by decide +kernel
theorem dX1_proofHolds_128 : decode cX1_proofHolds 128 = .ok (.iconst 1, 1) := by decide +kernel
theorem dX1_proofHolds_129 : decode cX1_proofHolds 129 = .ok (.ireturn, 1) := by decide +kernel
theorem dX1_allOfHomeGo_0 : decode cX1_allOfHomeGo 0 = .ok (.aload_n 0, 1) := by decide +kernel
theorem dX1_allOfHomeGo_1 : decode cX1_allOfHomeGo 1 = .ok (.getfield 18, 3) := by decide +kernel
theorem dX1_allOfHomeGo_4 : decode cX1_allOfHomeGo 4 = .ok (.iload_n 1, 1) := by decide +kernel
theorem dX1_allOfHomeGo_5 : decode cX1_allOfHomeGo 5 = .ok (.iaload, 1) := by decide +kernel
theorem dX1_allOfHomeGo_6 : decode cX1_allOfHomeGo 6 = .ok (.istore 4, 2) := by decide +kernel
theorem dX1_allOfHomeGo_8 : decode cX1_allOfHomeGo 8 = .ok (.iconst 0, 1) := by decide +kernel
theorem dX1_allOfHomeGo_9 : decode cX1_allOfHomeGo 9 = .ok (.istore 5, 2) := by decide +kernel
theorem dX1_allOfHomeGo_11 : decode cX1_allOfHomeGo 11 = .ok (.iload 5, 2) := by decide +kernel
theorem dX1_allOfHomeGo_13 : decode cX1_allOfHomeGo 13 = .ok (.aload_n 0, 1) := by decide +kernel
theorem dX1_allOfHomeGo_14 : decode cX1_allOfHomeGo 14 = .ok (.getfield 43, 3) := by decide +kernel
theorem dX1_allOfHomeGo_17 : decode cX1_allOfHomeGo 17 = .ok (.if_icmp .ge 53, 3) := by decide +kernel
theorem dX1_allOfHomeGo_20 : decode cX1_allOfHomeGo 20 = .ok (.aload_n 2, 1) := by decide +kernel
theorem dX1_allOfHomeGo_21 : decode cX1_allOfHomeGo 21 = .ok (.iload_n 3, 1) := by decide +kernel
theorem dX1_allOfHomeGo_22 : decode cX1_allOfHomeGo 22 = .ok (.iload 5, 2) := by decide +kernel
theorem dX1_allOfHomeGo_24 : decode cX1_allOfHomeGo 24 = .ok (.iadd, 1) := by decide +kernel
theorem dX1_allOfHomeGo_25 : decode cX1_allOfHomeGo 25 = .ok (.iaload, 1) := by decide +kernel
theorem dX1_allOfHomeGo_26 : decode cX1_allOfHomeGo 26 = .ok (.istore 6, 2) := by decide +kernel
theorem dX1_allOfHomeGo_28 : decode cX1_allOfHomeGo 28 = .ok (.iload 6, 2) := by decide +kernel
theorem dX1_allOfHomeGo_30 : decode cX1_allOfHomeGo 30 = .ok (.ifCond .lt 25, 3) := by decide +kernel
theorem dX1_allOfHomeGo_33 : decode cX1_allOfHomeGo 33 = .ok (.iload 6, 2) := by decide +kernel
theorem dX1_allOfHomeGo_35 : decode cX1_allOfHomeGo 35 = .ok (.iload 4, 2) := by decide +kernel
theorem dX1_allOfHomeGo_37 : decode cX1_allOfHomeGo 37 = .ok (.if_icmp .gt 18, 3) := by decide +kernel
theorem dX1_allOfHomeGo_40 : decode cX1_allOfHomeGo 40 = .ok (.iload 6, 2) := by decide +kernel
theorem dX1_allOfHomeGo_42 : decode cX1_allOfHomeGo 42 = .ok (.ifCond .le 15, 3) := by decide +kernel
theorem dX1_allOfHomeGo_45 : decode cX1_allOfHomeGo 45 = .ok (.aload_n 0, 1) := by decide +kernel
theorem dX1_allOfHomeGo_46 : decode cX1_allOfHomeGo 46 = .ok (.iload_n 1, 1) := by decide +kernel
theorem dX1_allOfHomeGo_47 : decode cX1_allOfHomeGo 47 = .ok (.iload 5, 2) := by decide +kernel
theorem dX1_allOfHomeGo_49 : decode cX1_allOfHomeGo 49 = .ok (.invokevirtual 70, 3) := by decide +kernel
theorem dX1_allOfHomeGo_52 : decode cX1_allOfHomeGo 52 = .ok (.ifCond .eq 5, 3) := by decide +kernel
theorem dX1_allOfHomeGo_55 : decode cX1_allOfHomeGo 55 = .ok (.iconst 0, 1) := by decide +kernel
theorem dX1_allOfHomeGo_56 : decode cX1_allOfHomeGo 56 = .ok (.ireturn, 1) := by decide +kernel
theorem dX1_allOfHomeGo_57 : decode cX1_allOfHomeGo 57 = .ok (.iload 4, 2) := by decide +kernel
theorem dX1_allOfHomeGo_59 : decode cX1_allOfHomeGo 59 = .ok (.iload 6, 2) := by decide +kernel
theorem dX1_allOfHomeGo_61 : decode cX1_allOfHomeGo 61 = .ok (.isub, 1) := by decide +kernel
theorem dX1_allOfHomeGo_62 : decode cX1_allOfHomeGo 62 = .ok (.istore 4, 2) := by decide +kernel
theorem dX1_allOfHomeGo_64 : decode cX1_allOfHomeGo 64 = .ok (.iinc 5 1, 3) := by decide +kernel
theorem dX1_allOfHomeGo_67 : decode cX1_allOfHomeGo 67 = .ok (.goto (-56), 3) := by decide +kernel
theorem dX1_allOfHomeGo_70 : decode cX1_allOfHomeGo 70 = .ok (.iload 4, 2) := by decide +kernel
theorem dX1_allOfHomeGo_72 : decode cX1_allOfHomeGo 72 = .ok (.ifCond .ne 7, 3) := by decide +kernel
theorem dX1_allOfHomeGo_75 : decode cX1_allOfHomeGo 75 = .ok (.iconst 1, 1) := by decide +kernel
theorem dX1_allOfHomeGo_76 : decode cX1_allOfHomeGo 76 = .ok (.goto 4, 3) := by decide +kernel
theorem dX1_allOfHomeGo_79 : decode cX1_allOfHomeGo 79 = .ok (.iconst 0, 1) := by decide +kernel
theorem dX1_allOfHomeGo_80 : decode cX1_allOfHomeGo 80 = .ok (.ireturn, 1) := by decide +kernel
theorem dX1_numberFits_0 : decode cX1_numberFits 0 = .ok (.aload_n 0, 1) := by decide +kernel
theorem dX1_numberFits_1 : decode cX1_numberFits 1 = .ok (.getfield 33, 3) := by decide +kernel
theorem dX1_numberFits_4 : decode cX1_numberFits 4 = .ok (.iload_n 1, 1) := by decide +kernel
theorem dX1_numberFits_5 : decode cX1_numberFits 5 = .ok (.iaload, 1) := by decide +kernel
theorem dX1_numberFits_6 : decode cX1_numberFits 6 = .ok (.istore 5, 2) := by decide +kernel
theorem dX1_numberFits_8 : decode cX1_numberFits 8 = .ok (.iconst 0, 1) := by decide +kernel
theorem dX1_numberFits_9 : decode cX1_numberFits 9 = .ok (.istore 6, 2) := by decide +kernel
theorem dX1_numberFits_11 : decode cX1_numberFits 11 = .ok (.iload 6, 2) := by decide +kernel
theorem dX1_numberFits_13 : decode cX1_numberFits 13 = .ok (.aload_n 0, 1) := by decide +kernel
theorem dX1_numberFits_14 : decode cX1_numberFits 14 = .ok (.getfield 40, 3) := by decide +kernel
theorem dX1_numberFits_17 : decode cX1_numberFits 17 = .ok (.if_icmp .ge 27, 3) := by decide +kernel
theorem dX1_numberFits_20 : decode cX1_numberFits 20 = .ok (.iload 5, 2) := by decide +kernel
theorem dX1_numberFits_22 : decode cX1_numberFits 22 = .ok (.aload_n 2, 1) := by decide +kernel
theorem dX1_numberFits_23 : decode cX1_numberFits 23 = .ok (.iload_n 3, 1) := by decide +kernel
theorem dX1_numberFits_24 : decode cX1_numberFits 24 = .ok (.iload 6, 2) := by decide +kernel
theorem dX1_numberFits_26 : decode cX1_numberFits 26 = .ok (.aload_n 0, 1) := by decide +kernel
theorem dX1_numberFits_27 : decode cX1_numberFits 27 = .ok (.getfield 43, 3) := by decide +kernel
theorem dX1_numberFits_30 : decode cX1_numberFits 30 = .ok (.imul, 1) := by decide +kernel
theorem dX1_numberFits_31 : decode cX1_numberFits 31 = .ok (.iadd, 1) := by decide +kernel
theorem dX1_numberFits_32 : decode cX1_numberFits 32 = .ok (.iload_n 1, 1) := by decide +kernel
theorem dX1_numberFits_33 : decode cX1_numberFits 33 = .ok (.iadd, 1) := by decide +kernel
theorem dX1_numberFits_34 : decode cX1_numberFits 34 = .ok (.iaload, 1) := by decide +kernel
theorem dX1_numberFits_35 : decode cX1_numberFits 35 = .ok (.isub, 1) := by decide +kernel
theorem dX1_numberFits_36 : decode cX1_numberFits 36 = .ok (.istore 5, 2) := by decide +kernel
theorem dX1_numberFits_38 : decode cX1_numberFits 38 = .ok (.iinc 6 1, 3) := by decide +kernel
theorem dX1_numberFits_41 : decode cX1_numberFits 41 = .ok (.goto (-30), 3) := by decide +kernel
theorem dX1_numberFits_44 : decode cX1_numberFits 44 = .ok (.iload 5, 2) := by decide +kernel
theorem dX1_numberFits_46 : decode cX1_numberFits 46 = .ok (.ifCond .lt 15, 3) := by decide +kernel
theorem dX1_numberFits_49 : decode cX1_numberFits 49 = .ok (.iload 4, 2) := by decide +kernel
theorem dX1_numberFits_51 : decode cX1_numberFits 51 = .ok (.ifCond .lt 10, 3) := by decide +kernel
theorem dX1_numberFits_54 : decode cX1_numberFits 54 = .ok (.iload 4, 2) := by decide +kernel
theorem dX1_numberFits_56 : decode cX1_numberFits 56 = .ok (.ldc 74, 2) := by decide +kernel
theorem dX1_numberFits_58 : decode cX1_numberFits 58 = .ok (.if_icmp .le 5, 3) := by decide +kernel
theorem dX1_numberFits_61 : decode cX1_numberFits 61 = .ok (.iconst 0, 1) := by decide +kernel
theorem dX1_numberFits_62 : decode cX1_numberFits 62 = .ok (.ireturn, 1) := by decide +kernel
theorem dX1_numberFits_63 : decode cX1_numberFits 63 = .ok (.iload 5, 2) := by decide +kernel
theorem dX1_numberFits_65 : decode cX1_numberFits 65 = .ok (.ifCond .eq 8, 3) := by decide +kernel
theorem dX1_numberFits_68 : decode cX1_numberFits 68 = .ok (.iload 4, 2) := by decide +kernel
theorem dX1_numberFits_70 : decode cX1_numberFits 70 = .ok (.ifCond .ne 7, 3) := by decide +kernel
theorem dX1_numberFits_73 : decode cX1_numberFits 73 = .ok (.iconst 1, 1) := by decide +kernel
theorem dX1_numberFits_74 : decode cX1_numberFits 74 = .ok (.goto 4, 3) := by decide +kernel
theorem dX1_numberFits_77 : decode cX1_numberFits 77 = .ok (.iconst 0, 1) := by decide +kernel
theorem dX1_numberFits_78 : decode cX1_numberFits 78 = .ok (.ireturn, 1) := by decide +kernel
theorem dX1_goesToLeast_0 : decode cX1_goesToLeast 0 = .ok (.ldc 75, 2) := by decide +kernel
theorem dX1_goesToLeast_2 : decode cX1_goesToLeast 2 = .ok (.istore 5, 2) := by decide +kernel
theorem dX1_goesToLeast_4 : decode cX1_goesToLeast 4 = .ok (.iconst 0, 1) := by decide +kernel
theorem dX1_goesToLeast_5 : decode cX1_goesToLeast 5 = .ok (.istore 6, 2) := by decide +kernel
theorem dX1_goesToLeast_7 : decode cX1_goesToLeast 7 = .ok (.iconst 0, 1) := by decide +kernel
theorem dX1_goesToLeast_8 : decode cX1_goesToLeast 8 = .ok (.istore 7, 2) := by decide +kernel
theorem dX1_goesToLeast_10 : decode cX1_goesToLeast 10 = .ok (.iload 7, 2) := by decide +kernel
theorem dX1_goesToLeast_12 : decode cX1_goesToLeast 12 = .ok (.aload_n 0, 1) := by decide +kernel
theorem dX1_goesToLeast_13 : decode cX1_goesToLeast 13 = .ok (.getfield 43, 3) := by decide +kernel
theorem dX1_goesToLeast_16 : decode cX1_goesToLeast 16 = .ok (.if_icmp .ge 74, 3) := by decide +kernel
theorem dX1_goesToLeast_19 : decode cX1_goesToLeast 19 = .ok (.aload_n 0, 1) := by decide +kernel
theorem dX1_goesToLeast_20 : decode cX1_goesToLeast 20 = .ok (.iload_n 1, 1) := by decide +kernel
theorem dX1_goesToLeast_21 : decode cX1_goesToLeast 21 = .ok (.iload 7, 2) := by decide +kernel
theorem dX1_goesToLeast_23 : decode cX1_goesToLeast 23 = .ok (.invokevirtual 70, 3) := by decide +kernel
theorem dX1_goesToLeast_26 : decode cX1_goesToLeast 26 = .ok (.ifCond .ne 58, 3) := by decide +kernel
theorem dX1_goesToLeast_29 : decode cX1_goesToLeast 29 = .ok (.aload_n 0, 1) := by decide +kernel
theorem dX1_goesToLeast_30 : decode cX1_goesToLeast 30 = .ok (.iload 7, 2) := by decide +kernel
theorem dX1_goesToLeast_32 : decode cX1_goesToLeast 32 = .ok (.aload_n 0, 1) := by decide +kernel
theorem dX1_goesToLeast_33 : decode cX1_goesToLeast 33 = .ok (.getfield 9, 3) := by decide +kernel
theorem dX1_goesToLeast_36 : decode cX1_goesToLeast 36 = .ok (.iload_n 1, 1) := by decide +kernel
theorem dX1_goesToLeast_37 : decode cX1_goesToLeast 37 = .ok (.iaload, 1) := by decide +kernel
theorem dX1_goesToLeast_38 : decode cX1_goesToLeast 38 = .ok (.aload_n 0, 1) := by decide +kernel
theorem dX1_goesToLeast_39 : decode cX1_goesToLeast 39 = .ok (.getfield 15, 3) := by decide +kernel
theorem dX1_goesToLeast_42 : decode cX1_goesToLeast 42 = .ok (.iload_n 1, 1) := by decide +kernel
theorem dX1_goesToLeast_43 : decode cX1_goesToLeast 43 = .ok (.iaload, 1) := by decide +kernel
theorem dX1_goesToLeast_44 : decode cX1_goesToLeast 44 = .ok (.invokevirtual 76, 3) := by decide +kernel
theorem dX1_goesToLeast_47 : decode cX1_goesToLeast 47 = .ok (.aload_n 2, 1) := by decide +kernel
theorem dX1_goesToLeast_48 : decode cX1_goesToLeast 48 = .ok (.iload 4, 2) := by decide +kernel
theorem dX1_goesToLeast_50 : decode cX1_goesToLeast 50 = .ok (.iload 7, 2) := by decide +kernel
theorem dX1_goesToLeast_52 : decode cX1_goesToLeast 52 = .ok (.iadd, 1) := by decide +kernel
theorem dX1_goesToLeast_53 : decode cX1_goesToLeast 53 = .ok (.iaload, 1) := by decide +kernel
theorem dX1_goesToLeast_54 : decode cX1_goesToLeast 54 = .ok (.iadd, 1) := by decide +kernel
theorem dX1_goesToLeast_55 : decode cX1_goesToLeast 55 = .ok (.istore 8, 2) := by decide +kernel
theorem dX1_goesToLeast_57 : decode cX1_goesToLeast 57 = .ok (.iload 5, 2) := by decide +kernel
theorem dX1_goesToLeast_59 : decode cX1_goesToLeast 59 = .ok (.iload 8, 2) := by decide +kernel
theorem dX1_goesToLeast_61 : decode cX1_goesToLeast 61 = .ok (.invokestatic 80, 3) := by decide +kernel
theorem dX1_goesToLeast_64 : decode cX1_goesToLeast 64 = .ok (.istore 5, 2) := by decide +kernel
theorem dX1_goesToLeast_66 : decode cX1_goesToLeast 66 = .ok (.aload_n 2, 1) := by decide +kernel
theorem dX1_goesToLeast_67 : decode cX1_goesToLeast 67 = .ok (.iload_n 3, 1) := by decide +kernel
theorem dX1_goesToLeast_68 : decode cX1_goesToLeast 68 = .ok (.iload 7, 2) := by decide +kernel
theorem dX1_goesToLeast_70 : decode cX1_goesToLeast 70 = .ok (.iadd, 1) := by decide +kernel
theorem dX1_goesToLeast_71 : decode cX1_goesToLeast 71 = .ok (.iaload, 1) := by decide +kernel
theorem dX1_goesToLeast_72 : decode cX1_goesToLeast 72 = .ok (.ifCond .le 12, 3) := by decide +kernel
theorem dX1_goesToLeast_75 : decode cX1_goesToLeast 75 = .ok (.iload 6, 2) := by decide +kernel
theorem dX1_goesToLeast_77 : decode cX1_goesToLeast 77 = .ok (.iload 8, 2) := by decide +kernel
theorem dX1_goesToLeast_79 : decode cX1_goesToLeast 79 = .ok (.invokestatic 84, 3) := by decide +kernel
theorem dX1_goesToLeast_82 : decode cX1_goesToLeast 82 = .ok (.istore 6, 2) := by decide +kernel
theorem dX1_goesToLeast_84 : decode cX1_goesToLeast 84 = .ok (.iinc 7 1, 3) := by decide +kernel
theorem dX1_goesToLeast_87 : decode cX1_goesToLeast 87 = .ok (.goto (-77), 3) := by decide +kernel
theorem dX1_goesToLeast_90 : decode cX1_goesToLeast 90 = .ok (.iload 6, 2) := by decide +kernel
theorem dX1_goesToLeast_92 : decode cX1_goesToLeast 92 = .ok (.iload 5, 2) := by decide +kernel
theorem dX1_goesToLeast_94 : decode cX1_goesToLeast 94 = .ok (.if_icmp .gt 7, 3) := by decide +kernel
theorem dX1_goesToLeast_97 : decode cX1_goesToLeast 97 = .ok (.iconst 1, 1) := by decide +kernel
theorem dX1_goesToLeast_98 : decode cX1_goesToLeast 98 = .ok (.goto 4, 3) := by decide +kernel
theorem dX1_goesToLeast_101 : decode cX1_goesToLeast 101 = .ok (.iconst 0, 1) := by decide +kernel
theorem dX1_goesToLeast_102 : decode cX1_goesToLeast 102 = .ok (.ireturn, 1) := by decide +kernel
theorem dX2_init_0 : decode cX2_init 0 = .ok (.aload_n 0, 1) := by decide +kernel
theorem dX2_init_1 : decode cX2_init 1 = .ok (.invokespecial 3, 3) := by decide +kernel
theorem dX2_init_4 : decode cX2_init 4 = .ok (.aload_n 0, 1) := by decide +kernel
theorem dX2_init_5 : decode cX2_init 5 = .ok (.bipush 15, 2) := by decide +kernel
theorem dX2_init_7 : decode cX2_init 7 = .ok (.newarray .int, 2) := by decide +kernel
theorem dX2_init_9 : decode cX2_init 9 = .ok (.putfield 9, 3) := by decide +kernel
theorem dX2_init_12 : decode cX2_init 12 = .ok (.aload_n 0, 1) := by decide +kernel
theorem dX2_init_13 : decode cX2_init 13 = .ok (.bipush 15, 2) := by decide +kernel
theorem dX2_init_15 : decode cX2_init 15 = .ok (.newarray .int, 2) := by decide +kernel
theorem dX2_init_17 : decode cX2_init 17 = .ok (.putfield 15, 3) := by decide +kernel
theorem dX2_init_20 : decode cX2_init 20 = .ok (.aload_n 0, 1) := by decide +kernel
theorem dX2_init_21 : decode cX2_init 21 = .ok (.bipush 15, 2) := by decide +kernel
theorem dX2_init_23 : decode cX2_init 23 = .ok (.newarray .int, 2) := by decide +kernel
theorem dX2_init_25 : decode cX2_init 25 = .ok (.putfield 18, 3) := by decide +kernel
theorem dX2_init_28 : decode cX2_init 28 = .ok (.aload_n 0, 1) := by decide +kernel
theorem dX2_init_29 : decode cX2_init 29 = .ok (.bipush 15, 2) := by decide +kernel
theorem dX2_init_31 : decode cX2_init 31 = .ok (.newarray .int, 2) := by decide +kernel
theorem dX2_init_33 : decode cX2_init 33 = .ok (.putfield 21, 3) := by decide +kernel
theorem dX2_init_36 : decode cX2_init 36 = .ok (.aload_n 0, 1) := by decide +kernel
theorem dX2_init_37 : decode cX2_init 37 = .ok (.bipush 80, 2) := by decide +kernel
theorem dX2_init_39 : decode cX2_init 39 = .ok (.newarray .int, 2) := by decide +kernel
theorem dX2_init_41 : decode cX2_init 41 = .ok (.putfield 24, 3) := by decide +kernel
theorem dX2_init_44 : decode cX2_init 44 = .ok (.return_, 1) := by decide +kernel
theorem dX2_readItems_0 : decode cX2_readItems 0 = .ok (.aload_n 0, 1) := by decide +kernel
theorem dX2_readItems_1 : decode cX2_readItems 1 = .ok (.aload_n 1, 1) := by decide +kernel
theorem dX2_readItems_2 : decode cX2_readItems 2 = .ok (.iload_n 2, 1) := by decide +kernel
theorem dX2_readItems_3 : decode cX2_readItems 3 = .ok (.iload_n 3, 1) := by decide +kernel
theorem dX2_readItems_4 : decode cX2_readItems 4 = .ok (.invokevirtual 27, 3) := by decide +kernel
theorem dX2_readItems_7 : decode cX2_readItems 7 = .ok (.iconst 0, 1) := by decide +kernel
theorem dX2_readItems_8 : decode cX2_readItems 8 = .ok (.istore 4, 2) := by decide +kernel
theorem dX2_readItems_10 : decode cX2_readItems 10 = .ok (.iload 4, 2) := by decide +kernel
theorem dX2_readItems_12 : decode cX2_readItems 12 = .ok (.bipush 15, 2) := by decide +kernel
theorem dX2_readItems_14 : decode cX2_readItems 14 = .ok (.if_icmp .ge 73, 3) := by decide +kernel
theorem dX2_readItems_17 : decode cX2_readItems 17 = .ok (.aload_n 0, 1) := by decide +kernel
theorem dX2_readItems_18 : decode cX2_readItems 18 = .ok (.getfield 31, 3) := by decide +kernel
theorem dX2_readItems_21 : decode cX2_readItems 21 = .ok (.ifCond .eq 66, 3) := by decide +kernel
theorem dX2_readItems_24 : decode cX2_readItems 24 = .ok (.aload_n 0, 1) := by decide +kernel
theorem dX2_readItems_25 : decode cX2_readItems 25 = .ok (.iload 4, 2) := by decide +kernel
theorem dX2_readItems_27 : decode cX2_readItems 27 = .ok (.invokevirtual 35, 3) := by decide +kernel
theorem dX2_readItems_30 : decode cX2_readItems 30 = .ok (.aload_n 0, 1) := by decide +kernel
theorem dX2_readItems_31 : decode cX2_readItems 31 = .ok (.getfield 31, 3) := by decide +kernel
theorem dX2_readItems_34 : decode cX2_readItems 34 = .ok (.ifCond .eq 19, 3) := by decide +kernel
theorem dX2_readItems_37 : decode cX2_readItems 37 = .ok (.aload_n 0, 1) := by decide +kernel
theorem dX2_readItems_38 : decode cX2_readItems 38 = .ok (.getfield 39, 3) := by decide +kernel
theorem dX2_readItems_41 : decode cX2_readItems 41 = .ok (.aload_n 0, 1) := by decide +kernel
theorem dX2_readItems_42 : decode cX2_readItems 42 = .ok (.getfield 43, 3) := by decide +kernel
theorem dX2_readItems_45 : decode cX2_readItems 45 = .ok (.if_icmp .ne 8, 3) := by decide +kernel
theorem dX2_readItems_48 : decode cX2_readItems 48 = .ok (.iload 4, 2) := by decide +kernel
theorem dX2_readItems_50 : decode cX2_readItems 50 = .ok (.iconst 1, 1) := by decide +kernel
theorem dX2_readItems_51 : decode cX2_readItems 51 = .ok (.iadd, 1) := by decide +kernel
theorem dX2_readItems_52 : decode cX2_readItems 52 = .ok (.ireturn, 1) := by decide +kernel
theorem dX2_readItems_53 : decode cX2_readItems 53 = .ok (.aload_n 0, 1) := by decide +kernel
theorem dX2_readItems_54 : decode cX2_readItems 54 = .ok (.getfield 31, 3) := by decide +kernel
theorem dX2_readItems_57 : decode cX2_readItems 57 = .ok (.ifCond .eq 18, 3) := by decide +kernel
theorem dX2_readItems_60 : decode cX2_readItems 60 = .ok (.iload 4, 2) := by decide +kernel
theorem dX2_readItems_62 : decode cX2_readItems 62 = .ok (.bipush 14, 2) := by decide +kernel
theorem dX2_readItems_64 : decode cX2_readItems 64 = .ok (.if_icmp .ne 11, 3) := by decide +kernel
theorem dX2_readItems_67 : decode cX2_readItems 67 = .ok (.aload_n 0, 1) := by decide +kernel
theorem dX2_readItems_68 : decode cX2_readItems 68 = .ok (.aload_n 0, 1) := by decide +kernel
theorem dX2_readItems_69 : decode cX2_readItems 69 = .ok (.getfield 39, 3) := by decide +kernel
theorem dX2_readItems_72 : decode cX2_readItems 72 = .ok (.invokevirtual 46, 3) := by decide +kernel
theorem dX2_readItems_75 : decode cX2_readItems 75 = .ok (.aload_n 0, 1) := by decide +kernel
theorem dX2_readItems_76 : decode cX2_readItems 76 = .ok (.bipush 59, 2) := by decide +kernel
theorem dX2_readItems_78 : decode cX2_readItems 78 = .ok (.invokevirtual 49, 3) := by decide +kernel
theorem dX2_readItems_81 : decode cX2_readItems 81 = .ok (.iinc 4 1, 3) := by decide +kernel
theorem dX2_readItems_84 : decode cX2_readItems 84 = .ok (.goto (-74), 3) := by decide +kernel
theorem dX2_readItems_87 : decode cX2_readItems 87 = .ok (.iconst (-1), 1) := by decide +kernel
theorem dX2_readItems_88 : decode cX2_readItems 88 = .ok (.ireturn, 1) := by decide +kernel
theorem dX2_begin_0 : decode cX2_begin 0 = .ok (.aload_n 1, 1) := by decide +kernel
theorem dX2_begin_1 : decode cX2_begin 1 = .ok (.iload_n 2, 1) := by decide +kernel
theorem dX2_begin_2 : decode cX2_begin 2 = .ok (.aload_n 0, 1) := by decide +kernel
theorem dX2_begin_3 : decode cX2_begin 3 = .ok (.getfield 24, 3) := by decide +kernel
theorem dX2_begin_6 : decode cX2_begin 6 = .ok (.iconst 0, 1) := by decide +kernel
theorem dX2_begin_7 : decode cX2_begin 7 = .ok (.iload_n 3, 1) := by decide +kernel
theorem dX2_begin_8 : decode cX2_begin 8 = .ok (.invokestatic 52, 3) := by decide +kernel
theorem dX2_begin_11 : decode cX2_begin 11 = .ok (.aload_n 0, 1) := by decide +kernel
theorem dX2_begin_12 : decode cX2_begin 12 = .ok (.iload_n 3, 1) := by decide +kernel
theorem dX2_begin_13 : decode cX2_begin 13 = .ok (.putfield 43, 3) := by decide +kernel
theorem dX2_begin_16 : decode cX2_begin 16 = .ok (.aload_n 0, 1) := by decide +kernel
theorem dX2_begin_17 : decode cX2_begin 17 = .ok (.iconst 0, 1) := by decide +kernel
theorem dX2_begin_18 : decode cX2_begin 18 = .ok (.putfield 39, 3) := by decide +kernel
theorem dX2_begin_21 : decode cX2_begin 21 = .ok (.aload_n 0, 1) := by decide +kernel
theorem dX2_begin_22 : decode cX2_begin 22 = .ok (.iconst 0, 1) := by decide +kernel
theorem dX2_begin_23 : decode cX2_begin 23 = .ok (.putfield 58, 3) := by decide +kernel
theorem dX2_begin_26 : decode cX2_begin 26 = .ok (.aload_n 0, 1) := by decide +kernel
theorem dX2_begin_27 : decode cX2_begin 27 = .ok (.iconst 0, 1) := by decide +kernel
theorem dX2_begin_28 : decode cX2_begin 28 = .ok (.putfield 61, 3) := by decide +kernel
theorem dX2_begin_31 : decode cX2_begin 31 = .ok (.aload_n 0, 1) := by decide +kernel
theorem dX2_begin_32 : decode cX2_begin 32 = .ok (.iconst 1, 1) := by decide +kernel
theorem dX2_begin_33 : decode cX2_begin 33 = .ok (.putfield 31, 3) := by decide +kernel
theorem dX2_begin_36 : decode cX2_begin 36 = .ok (.return_, 1) := by decide +kernel
theorem dX2_layOut_0 : decode cX2_layOut 0 = .ok (.aload_n 1, 1) := by decide +kernel
theorem dX2_layOut_1 : decode cX2_layOut 1 = .ok (.invokevirtual 64, 3) := by decide +kernel
theorem dX2_layOut_4 : decode cX2_layOut 4 = .ok (.iconst 0, 1) := by decide +kernel
theorem dX2_layOut_5 : decode cX2_layOut 5 = .ok (.istore_n 3, 1) := by decide +kernel
theorem dX2_layOut_6 : decode cX2_layOut 6 = .ok (.iload_n 3, 1) := by decide +kernel
theorem dX2_layOut_7 : decode cX2_layOut 7 = .ok (.iload_n 2, 1) := by decide +kernel
theorem dX2_layOut_8 : decode cX2_layOut 8 = .ok (.if_icmp .ge 80, 3) := by decide +kernel
theorem dX2_layOut_11 : decode cX2_layOut 11 = .ok (.iload_n 3, 1) := by decide +kernel
theorem dX2_layOut_12 : decode cX2_layOut 12 = .ok (.bipush 15, 2) := by decide +kernel
theorem dX2_layOut_14 : decode cX2_layOut 14 = .ok (.if_icmp .ge 74, 3) := by decide +kernel
theorem dX2_layOut_17 : decode cX2_layOut 17 = .ok (.aload_n 0, 1) := by decide +kernel
theorem dX2_layOut_18 : decode cX2_layOut 18 = .ok (.getfield 9, 3) := by decide +kernel
theorem dX2_layOut_21 : decode cX2_layOut 21 = .ok (.iload_n 3, 1) := by decide +kernel
theorem dX2_layOut_22 : decode cX2_layOut 22 = .ok (.iaload, 1) := by decide +kernel
theorem dX2_layOut_23 : decode cX2_layOut 23 = .ok (.iconst (-1), 1) := by decide +kernel
theorem dX2_layOut_24 : decode cX2_layOut 24 = .ok (.if_icmp .ne 29, 3) := by decide +kernel
theorem dX2_layOut_27 : decode cX2_layOut 27 = .ok (.aload_n 1, 1) := by decide +kernel
theorem dX2_layOut_28 : decode cX2_layOut 28 = .ok (.aload_n 0, 1) := by decide +kernel
theorem dX2_layOut_29 : decode cX2_layOut 29 = .ok (.getfield 15, 3) := by decide +kernel
theorem dX2_layOut_32 : decode cX2_layOut 32 = .ok (.iload_n 3, 1) := by decide +kernel
theorem dX2_layOut_33 : decode cX2_layOut 33 = .ok (.iaload, 1) := by decide +kernel
theorem dX2_layOut_34 : decode cX2_layOut 34 = .ok (.aload_n 0, 1) := by decide +kernel
theorem dX2_layOut_35 : decode cX2_layOut 35 = .ok (.getfield 18, 3) := by decide +kernel
theorem dX2_layOut_38 : decode cX2_layOut 38 = .ok (.iload_n 3, 1) := by decide +kernel
theorem dX2_layOut_39 : decode cX2_layOut 39 = .ok (.iaload, 1) := by decide +kernel
theorem dX2_layOut_40 : decode cX2_layOut 40 = .ok (.aload_n 0, 1) := by decide +kernel
theorem dX2_layOut_41 : decode cX2_layOut 41 = .ok (.getfield 21, 3) := by decide +kernel
theorem dX2_layOut_44 : decode cX2_layOut 44 = .ok (.iload_n 3, 1) := by decide +kernel
theorem dX2_layOut_45 : decode cX2_layOut 45 = .ok (.iaload, 1) := by decide +kernel
theorem dX2_layOut_46 : decode cX2_layOut 46 = .ok (.invokevirtual 69, 3) := by decide +kernel
theorem dX2_layOut_49 : decode cX2_layOut 49 = .ok (.pop, 1) := by decide +kernel
theorem dX2_layOut_50 : decode cX2_layOut 50 = .ok (.goto 32, 3) := by decide +kernel
theorem dX2_layOut_53 : decode cX2_layOut 53 = .ok (.aload_n 1, 1) := by decide +kernel
theorem dX2_layOut_54 : decode cX2_layOut 54 = .ok (.aload_n 0, 1) := by decide +kernel
theorem dX2_layOut_55 : decode cX2_layOut 55 = .ok (.getfield 9, 3) := by decide +kernel
theorem dX2_layOut_58 : decode cX2_layOut 58 = .ok (.iload_n 3, 1) := by decide +kernel
theorem dX2_layOut_59 : decode cX2_layOut 59 = .ok (.iaload, 1) := by decide +kernel
theorem dX2_layOut_60 : decode cX2_layOut 60 = .ok (.aload_n 0, 1) := by decide +kernel
theorem dX2_layOut_61 : decode cX2_layOut 61 = .ok (.getfield 15, 3) := by decide +kernel
theorem dX2_layOut_64 : decode cX2_layOut 64 = .ok (.iload_n 3, 1) := by decide +kernel
theorem dX2_layOut_65 : decode cX2_layOut 65 = .ok (.iaload, 1) := by decide +kernel
theorem dX2_layOut_66 : decode cX2_layOut 66 = .ok (.aload_n 0, 1) := by decide +kernel
theorem dX2_layOut_67 : decode cX2_layOut 67 = .ok (.getfield 18, 3) := by decide +kernel
theorem dX2_layOut_70 : decode cX2_layOut 70 = .ok (.iload_n 3, 1) := by decide +kernel
theorem dX2_layOut_71 : decode cX2_layOut 71 = .ok (.iaload, 1) := by decide +kernel
theorem dX2_layOut_72 : decode cX2_layOut 72 = .ok (.aload_n 0, 1) := by decide +kernel
theorem dX2_layOut_73 : decode cX2_layOut 73 = .ok (.getfield 21, 3) := by decide +kernel
theorem dX2_layOut_76 : decode cX2_layOut 76 = .ok (.iload_n 3, 1) := by decide +kernel
theorem dX2_layOut_77 : decode cX2_layOut 77 = .ok (.iaload, 1) := by decide +kernel
theorem dX2_layOut_78 : decode cX2_layOut 78 = .ok (.invokevirtual 73, 3) := by decide +kernel
theorem dX2_layOut_81 : decode cX2_layOut 81 = .ok (.pop, 1) := by decide +kernel
theorem dX2_layOut_82 : decode cX2_layOut 82 = .ok (.iinc 3 1, 3) := by decide +kernel
theorem dX2_layOut_85 : decode cX2_layOut 85 = .ok (.goto (-79), 3) := by decide +kernel
theorem dX2_layOut_88 : decode cX2_layOut 88 = .ok (.return_, 1) := by decide +kernel
theorem dX2_readItem_0 : decode cX2_readItem 0 = .ok (.aload_n 0, 1) := by decide +kernel
theorem dX2_readItem_1 : decode cX2_readItem 1 = .ok (.iload_n 1, 1) := by decide +kernel
theorem dX2_readItem_2 : decode cX2_readItem 2 = .ok (.invokevirtual 77, 3) := by decide +kernel
theorem dX2_readItem_5 : decode cX2_readItem 5 = .ok (.aload_n 0, 1) := by decide +kernel
theorem dX2_readItem_6 : decode cX2_readItem 6 = .ok (.getfield 15, 3) := by decide +kernel
theorem dX2_readItem_9 : decode cX2_readItem 9 = .ok (.iload_n 1, 1) := by decide +kernel
theorem dX2_readItem_10 : decode cX2_readItem 10 = .ok (.aload_n 0, 1) := by decide +kernel
theorem dX2_readItem_11 : decode cX2_readItem 11 = .ok (.iconst 0, 1) := by decide +kernel
theorem dX2_readItem_12 : decode cX2_readItem 12 = .ok (.bipush 60, 2) := by decide +kernel
theorem dX2_readItem_14 : decode cX2_readItem 14 = .ok (.invokevirtual 80, 3) := by decide +kernel
theorem dX2_readItem_17 : decode cX2_readItem 17 = .ok (.iastore, 1) := by decide +kernel
theorem dX2_readItem_18 : decode cX2_readItem 18 = .ok (.aload_n 0, 1) := by decide +kernel
theorem dX2_readItem_19 : decode cX2_readItem 19 = .ok (.bipush 44, 2) := by decide +kernel
theorem dX2_readItem_21 : decode cX2_readItem 21 = .ok (.invokevirtual 49, 3) := by decide +kernel
theorem dX2_readItem_24 : decode cX2_readItem 24 = .ok (.aload_n 0, 1) := by decide +kernel
theorem dX2_readItem_25 : decode cX2_readItem 25 = .ok (.getfield 18, 3) := by decide +kernel
theorem dX2_readItem_28 : decode cX2_readItem 28 = .ok (.iload_n 1, 1) := by decide +kernel
theorem dX2_readItem_29 : decode cX2_readItem 29 = .ok (.aload_n 0, 1) := by decide +kernel
theorem dX2_readItem_30 : decode cX2_readItem 30 = .ok (.iconst 0, 1) := by decide +kernel
theorem dX2_readItem_31 : decode cX2_readItem 31 = .ok (.bipush 60, 2) := by decide +kernel
theorem dX2_readItem_33 : decode cX2_readItem 33 = .ok (.invokevirtual 80, 3) := by decide +kernel
theorem dX2_readItem_36 : decode cX2_readItem 36 = .ok (.iastore, 1) := by decide +kernel
theorem dX2_readItem_37 : decode cX2_readItem 37 = .ok (.aload_n 0, 1) := by decide +kernel
theorem dX2_readItem_38 : decode cX2_readItem 38 = .ok (.getfield 9, 3) := by decide +kernel
theorem dX2_readItem_41 : decode cX2_readItem 41 = .ok (.iload_n 1, 1) := by decide +kernel
theorem dX2_readItem_42 : decode cX2_readItem 42 = .ok (.iaload, 1) := by decide +kernel
theorem dX2_readItem_43 : decode cX2_readItem 43 = .ok (.iconst (-1), 1) := by decide +kernel
theorem dX2_readItem_44 : decode cX2_readItem 44 = .ok (.if_icmp .ne 24, 3) := by decide +kernel
theorem dX2_readItem_47 : decode cX2_readItem 47 = .ok (.aload_n 0, 1) := by decide +kernel
theorem dX2_readItem_48 : decode cX2_readItem 48 = .ok (.bipush 42, 2) := by decide +kernel
theorem dX2_readItem_50 : decode cX2_readItem 50 = .ok (.invokevirtual 49, 3) := by decide +kernel
theorem dX2_readItem_53 : decode cX2_readItem 53 = .ok (.aload_n 0, 1) := by decide +kernel
theorem dX2_readItem_54 : decode cX2_readItem 54 = .ok (.getfield 21, 3) := by decide +kernel
theorem dX2_readItem_57 : decode cX2_readItem 57 = .ok (.iload_n 1, 1) := by decide +kernel
theorem dX2_readItem_58 : decode cX2_readItem 58 = .ok (.aload_n 0, 1) := by decide +kernel
theorem dX2_readItem_59 : decode cX2_readItem 59 = .ok (.iconst 1, 1) := by decide +kernel
theorem dX2_readItem_60 : decode cX2_readItem 60 = .ok (.iconst 5, 1) := by decide +kernel
theorem dX2_readItem_61 : decode cX2_readItem 61 = .ok (.invokevirtual 80, 3) := by decide +kernel
theorem dX2_readItem_64 : decode cX2_readItem 64 = .ok (.iastore, 1) := by decide +kernel
theorem dX2_readItem_65 : decode cX2_readItem 65 = .ok (.goto 22, 3) := by decide +kernel
theorem dX2_readItem_68 : decode cX2_readItem 68 = .ok (.aload_n 0, 1) := by decide +kernel
theorem dX2_readItem_69 : decode cX2_readItem 69 = .ok (.bipush 61, 2) := by decide +kernel
theorem dX2_readItem_71 : decode cX2_readItem 71 = .ok (.invokevirtual 49, 3) := by decide +kernel
theorem dX2_readItem_74 : decode cX2_readItem 74 = .ok (.aload_n 0, 1) := by decide +kernel
theorem dX2_readItem_75 : decode cX2_readItem 75 = .ok (.getfield 21, 3) := by decide +kernel
theorem dX2_readItem_78 : decode cX2_readItem 78 = .ok (.iload_n 1, 1) := by decide +kernel
theorem dX2_readItem_79 : decode cX2_readItem 79 = .ok (.aload_n 0, 1) := by decide +kernel
theorem dX2_readItem_80 : decode cX2_readItem 80 = .ok (.iconst 0, 1) := by decide +kernel
theorem dX2_readItem_81 : decode cX2_readItem 81 = .ok (.bipush 50, 2) := by decide +kernel
theorem dX2_readItem_83 : decode cX2_readItem 83 = .ok (.invokevirtual 80, 3) := by decide +kernel
theorem dX2_readItem_86 : decode cX2_readItem 86 = .ok (.iastore, 1) := by decide +kernel
theorem dX2_readItem_87 : decode cX2_readItem 87 = .ok (.return_, 1) := by decide +kernel
theorem dX2_readKind_0 : decode cX2_readKind 0 = .ok (.aload_n 0, 1) := by decide +kernel
theorem dX2_readKind_1 : decode cX2_readKind 1 = .ok (.invokevirtual 84, 3) := by decide +kernel
theorem dX2_readKind_4 : decode cX2_readKind 4 = .ok (.istore_n 2, 1) := by decide +kernel
theorem dX2_readKind_5 : decode cX2_readKind 5 = .ok (.aload_n 0, 1) := by decide +kernel
theorem dX2_readKind_6 : decode cX2_readKind 6 = .ok (.getfield 9, 3) := by decide +kernel
theorem dX2_readKind_9 : decode cX2_readKind 9 = .ok (.iload_n 1, 1) := by decide +kernel
theorem dX2_readKind_10 : decode cX2_readKind 10 = .ok (.iload_n 2, 1) := by decide +kernel
theorem dX2_readKind_11 : decode cX2_readKind 11 = .ok (.invokestatic 88, 3) := by decide +kernel
theorem dX2_readKind_14 : decode cX2_readKind 14 = .ok (.iastore, 1) := by decide +kernel
theorem dX2_readKind_15 : decode cX2_readKind 15 = .ok (.iload_n 2, 1) := by decide +kernel
theorem dX2_readKind_16 : decode cX2_readKind 16 = .ok (.bipush 104, 2) := by decide +kernel
theorem dX2_readKind_18 : decode cX2_readKind 18 = .ok (.if_icmp .ne 16, 3) := by decide +kernel
theorem dX2_readKind_21 : decode cX2_readKind 21 = .ok (.aload_n 0, 1) := by decide +kernel
theorem dX2_readKind_22 : decode cX2_readKind 22 = .ok (.dup, 1) := by decide +kernel
theorem dX2_readKind_23 : decode cX2_readKind 23 = .ok (.getfield 58, 3) := by decide +kernel
theorem dX2_readKind_26 : decode cX2_readKind 26 = .ok (.iconst 1, 1) := by decide +kernel
theorem dX2_readKind_27 : decode cX2_readKind 27 = .ok (.iadd, 1) := by decide +kernel
theorem dX2_readKind_28 : decode cX2_readKind 28 = .ok (.putfield 58, 3) := by decide +kernel
theorem dX2_readKind_31 : decode cX2_readKind 31 = .ok (.goto 13, 3) := by decide +kernel
theorem dX2_readKind_34 : decode cX2_readKind 34 = .ok (.aload_n 0, 1) := by decide +kernel
theorem dX2_readKind_35 : decode cX2_readKind 35 = .ok (.dup, 1) := by decide +kernel
theorem dX2_readKind_36 : decode cX2_readKind 36 = .ok (.getfield 61, 3) := by decide +kernel
theorem dX2_readKind_39 : decode cX2_readKind 39 = .ok (.iconst 1, 1) := by decide +kernel
theorem dX2_readKind_40 : decode cX2_readKind 40 = .ok (.iadd, 1) := by decide +kernel
theorem dX2_readKind_41 : decode cX2_readKind 41 = .ok (.putfield 61, 3) := by decide +kernel
theorem dX2_readKind_44 : decode cX2_readKind 44 = .ok (.aload_n 0, 1) := by decide +kernel
theorem dX2_readKind_45 : decode cX2_readKind 45 = .ok (.getfield 9, 3) := by decide +kernel
theorem dX2_readKind_48 : decode cX2_readKind 48 = .ok (.iload_n 1, 1) := by decide +kernel
theorem dX2_readKind_49 : decode cX2_readKind 49 = .ok (.iaload, 1) := by decide +kernel
theorem dX2_readKind_50 : decode cX2_readKind 50 = .ok (.bipush (-2), 2) := by decide +kernel
theorem dX2_readKind_52 : decode cX2_readKind 52 = .ok (.if_icmp .eq 20, 3) := by decide +kernel
theorem dX2_readKind_55 : decode cX2_readKind 55 = .ok (.aload_n 0, 1) := by decide +kernel
theorem dX2_readKind_56 : decode cX2_readKind 56 = .ok (.getfield 58, 3) := by decide +kernel
theorem dX2_readKind_59 : decode cX2_readKind 59 = .ok (.bipush 10, 2) := by decide +kernel
theorem dX2_readKind_61 : decode cX2_readKind 61 = .ok (.if_icmp .gt 11, 3) := by decide +kernel
theorem dX2_readKind_64 : decode cX2_readKind 64 = .ok (.aload_n 0, 1) := by decide +kernel
theorem dX2_readKind_65 : decode cX2_readKind 65 = .ok (.getfield 61, 3) := by decide +kernel
theorem dX2_readKind_68 : decode cX2_readKind 68 = .ok (.iconst 5, 1) := by decide +kernel
theorem dX2_readKind_69 : decode cX2_readKind 69 = .ok (.if_icmp .le 11, 3) := by decide +kernel
theorem dX2_readKind_72 : decode cX2_readKind 72 = .ok (.aload_n 0, 1) := by decide +kernel
theorem dX2_readKind_73 : decode cX2_readKind 73 = .ok (.aload_n 0, 1) := by decide +kernel
theorem dX2_readKind_74 : decode cX2_readKind 74 = .ok (.getfield 39, 3) := by decide +kernel
theorem dX2_readKind_77 : decode cX2_readKind 77 = .ok (.invokevirtual 46, 3) := by decide +kernel
theorem dX2_readKind_80 : decode cX2_readKind 80 = .ok (.aload_n 0, 1) := by decide +kernel
theorem dX2_readKind_81 : decode cX2_readKind 81 = .ok (.dup, 1) := by decide +kernel
theorem dX2_readKind_82 : decode cX2_readKind 82 = .ok (.getfield 39, 3) := by decide +kernel
theorem dX2_readKind_85 : decode cX2_readKind 85 = .ok (.iconst 1, 1) := by decide +kernel
theorem dX2_readKind_86 : decode cX2_readKind 86 = .ok (.iadd, 1) := by decide +kernel
theorem dX2_readKind_87 : decode cX2_readKind 87 = .ok (.putfield 39, 3) := by decide +kernel
theorem dX2_readKind_90 : decode cX2_readKind 90 = .ok (.return_, 1) := by decide +kernel
theorem dX2_kindOf_0 : decode cX2_kindOf 0 = .ok (.iload_n 0, 1) := by decide +kernel
theorem dX2_kindOf_1 : decode cX2_kindOf 1 = .ok (.lookupswitch 51 #[(102, 49), (104, 43), (113, 45), (115, 47)], 43) := by decide +kernel
theorem dX2_kindOf_44 : decode cX2_kindOf 44 = .ok (.iconst (-1), 1) := by decide +kernel
theorem dX2_kindOf_45 : decode cX2_kindOf 45 = .ok (.ireturn, 1) := by decide +kernel
theorem dX2_kindOf_46 : decode cX2_kindOf 46 = .ok (.iconst 0, 1) := by decide +kernel
theorem dX2_kindOf_47 : decode cX2_kindOf 47 = .ok (.ireturn, 1) := by decide +kernel
theorem dX2_kindOf_48 : decode cX2_kindOf 48 = .ok (.iconst 1, 1) := by decide +kernel
theorem dX2_kindOf_49 : decode cX2_kindOf 49 = .ok (.ireturn, 1) := by decide +kernel
theorem dX2_kindOf_50 : decode cX2_kindOf 50 = .ok (.iconst 2, 1) := by decide +kernel
theorem dX2_kindOf_51 : decode cX2_kindOf 51 = .ok (.ireturn, 1) := by decide +kernel
theorem dX2_kindOf_52 : decode cX2_kindOf 52 = .ok (.bipush (-2), 2) := by decide +kernel
theorem dX2_kindOf_54 : decode cX2_kindOf 54 = .ok (.ireturn, 1) := by decide +kernel
theorem dX2_readNumber_0 : decode cX2_readNumber 0 = .ok (.aload_n 0, 1) := by decide +kernel
theorem dX2_readNumber_1 : decode cX2_readNumber 1 = .ok (.getfield 39, 3) := by decide +kernel
theorem dX2_readNumber_4 : decode cX2_readNumber 4 = .ok (.istore_n 3, 1) := by decide +kernel
theorem dX2_readNumber_5 : decode cX2_readNumber 5 = .ok (.aload_n 0, 1) := by decide +kernel
theorem dX2_readNumber_6 : decode cX2_readNumber 6 = .ok (.invokevirtual 84, 3) := by decide +kernel
theorem dX2_readNumber_9 : decode cX2_readNumber 9 = .ok (.invokestatic 92, 3) := by decide +kernel
theorem dX2_readNumber_12 : decode cX2_readNumber 12 = .ok (.ifCond .ne 10, 3) := by decide +kernel
theorem dX2_readNumber_15 : decode cX2_readNumber 15 = .ok (.aload_n 0, 1) := by decide +kernel
theorem dX2_readNumber_16 : decode cX2_readNumber 16 = .ok (.iload_n 3, 1) := by decide +kernel
theorem dX2_readNumber_17 : decode cX2_readNumber 17 = .ok (.invokevirtual 46, 3) := by decide +kernel
theorem dX2_readNumber_20 : decode cX2_readNumber 20 = .ok (.iconst 0, 1) := by decide +kernel
theorem dX2_readNumber_21 : decode cX2_readNumber 21 = .ok (.ireturn, 1) := by decide +kernel
theorem dX2_readNumber_22 : decode cX2_readNumber 22 = .ok (.aload_n 0, 1) := by decide +kernel
theorem dX2_readNumber_23 : decode cX2_readNumber 23 = .ok (.invokevirtual 84, 3) := by decide +kernel
theorem dX2_readNumber_26 : decode cX2_readNumber 26 = .ok (.bipush 48, 2) := by decide +kernel
theorem dX2_readNumber_28 : decode cX2_readNumber 28 = .ok (.isub, 1) := by decide +kernel
theorem dX2_readNumber_29 : decode cX2_readNumber 29 = .ok (.istore 4, 2) := by decide +kernel
theorem dX2_readNumber_31 : decode cX2_readNumber 31 = .ok (.aload_n 0, 1) := by decide +kernel
theorem dX2_readNumber_32 : decode cX2_readNumber 32 = .ok (.dup, 1) := by decide +kernel
theorem dX2_readNumber_33 : decode cX2_readNumber 33 = .ok (.getfield 39, 3) := by decide +kernel
theorem dX2_readNumber_36 : decode cX2_readNumber 36 = .ok (.iconst 1, 1) := by decide +kernel
theorem dX2_readNumber_37 : decode cX2_readNumber 37 = .ok (.iadd, 1) := by decide +kernel
theorem dX2_readNumber_38 : decode cX2_readNumber 38 = .ok (.putfield 39, 3) := by decide +kernel
theorem dX2_readNumber_41 : decode cX2_readNumber 41 = .ok (.aload_n 0, 1) := by decide +kernel
theorem dX2_readNumber_42 : decode cX2_readNumber 42 = .ok (.invokevirtual 84, 3) := by decide +kernel
theorem dX2_readNumber_45 : decode cX2_readNumber 45 = .ok (.invokestatic 92, 3) := by decide +kernel
theorem dX2_readNumber_48 : decode cX2_readNumber 48 = .ok (.ifCond .eq 28, 3) := by decide +kernel
theorem dX2_readNumber_51 : decode cX2_readNumber 51 = .ok (.bipush 10, 2) := by decide +kernel
theorem dX2_readNumber_53 : decode cX2_readNumber 53 = .ok (.iload 4, 2) := by decide +kernel
theorem dX2_readNumber_55 : decode cX2_readNumber 55 = .ok (.imul, 1) := by decide +kernel
theorem dX2_readNumber_56 : decode cX2_readNumber 56 = .ok (.aload_n 0, 1) := by decide +kernel
theorem dX2_readNumber_57 : decode cX2_readNumber 57 = .ok (.invokevirtual 84, 3) := by decide +kernel
theorem dX2_readNumber_60 : decode cX2_readNumber 60 = .ok (.iadd, 1) := by decide +kernel
theorem dX2_readNumber_61 : decode cX2_readNumber 61 = .ok (.bipush 48, 2) := by decide +kernel
theorem dX2_readNumber_63 : decode cX2_readNumber 63 = .ok (.isub, 1) := by decide +kernel
theorem dX2_readNumber_64 : decode cX2_readNumber 64 = .ok (.istore 4, 2) := by decide +kernel
theorem dX2_readNumber_66 : decode cX2_readNumber 66 = .ok (.aload_n 0, 1) := by decide +kernel
theorem dX2_readNumber_67 : decode cX2_readNumber 67 = .ok (.dup, 1) := by decide +kernel
theorem dX2_readNumber_68 : decode cX2_readNumber 68 = .ok (.getfield 39, 3) := by decide +kernel
theorem dX2_readNumber_71 : decode cX2_readNumber 71 = .ok (.iconst 1, 1) := by decide +kernel
theorem dX2_readNumber_72 : decode cX2_readNumber 72 = .ok (.iadd, 1) := by decide +kernel
theorem dX2_readNumber_73 : decode cX2_readNumber 73 = .ok (.putfield 39, 3) := by decide +kernel
theorem dX2_readNumber_76 : decode cX2_readNumber 76 = .ok (.iload 4, 2) := by decide +kernel
theorem dX2_readNumber_78 : decode cX2_readNumber 78 = .ok (.iload_n 1, 1) := by decide +kernel
theorem dX2_readNumber_79 : decode cX2_readNumber 79 = .ok (.iload_n 2, 1) := by decide +kernel
theorem dX2_readNumber_80 : decode cX2_readNumber 80 = .ok (.invokestatic 96, 3) := by decide +kernel
theorem dX2_readNumber_83 : decode cX2_readNumber 83 = .ok (.ifCond .ne 8, 3) := by decide +kernel
theorem dX2_readNumber_86 : decode cX2_readNumber 86 = .ok (.aload_n 0, 1) := by decide +kernel
theorem dX2_readNumber_87 : decode cX2_readNumber 87 = .ok (.iload_n 3, 1) := by decide +kernel
theorem dX2_readNumber_88 : decode cX2_readNumber 88 = .ok (.invokevirtual 46, 3) := by decide +kernel
theorem dX2_readNumber_91 : decode cX2_readNumber 91 = .ok (.iload 4, 2) := by decide +kernel
theorem dX2_readNumber_93 : decode cX2_readNumber 93 = .ok (.ireturn, 1) := by decide +kernel
theorem dX2_takeCode_0 : decode cX2_takeCode 0 = .ok (.aload_n 0, 1) := by decide +kernel
theorem dX2_takeCode_1 : decode cX2_takeCode 1 = .ok (.invokevirtual 84, 3) := by decide +kernel
theorem dX2_takeCode_4 : decode cX2_takeCode 4 = .ok (.iload_n 1, 1) := by decide +kernel
theorem dX2_takeCode_5 : decode cX2_takeCode 5 = .ok (.if_icmp .eq 11, 3) := by decide +kernel
theorem dX2_takeCode_8 : decode cX2_takeCode 8 = .ok (.aload_n 0, 1) := by decide +kernel
theorem dX2_takeCode_9 : decode cX2_takeCode 9 = .ok (.aload_n 0, 1) := by decide +kernel
theorem dX2_takeCode_10 : decode cX2_takeCode 10 = .ok (.getfield 39, 3) := by decide +kernel
theorem dX2_takeCode_13 : decode cX2_takeCode 13 = .ok (.invokevirtual 46, 3) := by decide +kernel
theorem dX2_takeCode_16 : decode cX2_takeCode 16 = .ok (.aload_n 0, 1) := by decide +kernel
theorem dX2_takeCode_17 : decode cX2_takeCode 17 = .ok (.dup, 1) := by decide +kernel
theorem dX2_takeCode_18 : decode cX2_takeCode 18 = .ok (.getfield 39, 3) := by decide +kernel
theorem dX2_takeCode_21 : decode cX2_takeCode 21 = .ok (.iconst 1, 1) := by decide +kernel
theorem dX2_takeCode_22 : decode cX2_takeCode 22 = .ok (.iadd, 1) := by decide +kernel
theorem dX2_takeCode_23 : decode cX2_takeCode 23 = .ok (.putfield 39, 3) := by decide +kernel
theorem dX2_takeCode_26 : decode cX2_takeCode 26 = .ok (.return_, 1) := by decide +kernel
theorem dX2_isDigit_0 : decode cX2_isDigit 0 = .ok (.iload_n 0, 1) := by decide +kernel
theorem dX2_isDigit_1 : decode cX2_isDigit 1 = .ok (.bipush 48, 2) := by decide +kernel
theorem dX2_isDigit_3 : decode cX2_isDigit 3 = .ok (.bipush 57, 2) := by decide +kernel
theorem dX2_isDigit_5 : decode cX2_isDigit 5 = .ok (.invokestatic 96, 3) := by decide +kernel
theorem dX2_isDigit_8 : decode cX2_isDigit 8 = .ok (.ireturn, 1) := by decide +kernel
theorem dX2_codeHere_0 : decode cX2_codeHere 0 = .ok (.aload_n 0, 1) := by decide +kernel
theorem dX2_codeHere_1 : decode cX2_codeHere 1 = .ok (.getfield 39, 3) := by decide +kernel
theorem dX2_codeHere_4 : decode cX2_codeHere 4 = .ok (.aload_n 0, 1) := by decide +kernel
theorem dX2_codeHere_5 : decode cX2_codeHere 5 = .ok (.getfield 43, 3) := by decide +kernel
theorem dX2_codeHere_8 : decode cX2_codeHere 8 = .ok (.if_icmp .ge 15, 3) := by decide +kernel
theorem dX2_codeHere_11 : decode cX2_codeHere 11 = .ok (.aload_n 0, 1) := by decide +kernel
theorem dX2_codeHere_12 : decode cX2_codeHere 12 = .ok (.getfield 24, 3) := by decide +kernel
theorem dX2_codeHere_15 : decode cX2_codeHere 15 = .ok (.aload_n 0, 1) := by decide +kernel
theorem dX2_codeHere_16 : decode cX2_codeHere 16 = .ok (.getfield 39, 3) := by decide +kernel
theorem dX2_codeHere_19 : decode cX2_codeHere 19 = .ok (.iaload, 1) := by decide +kernel
theorem dX2_codeHere_20 : decode cX2_codeHere 20 = .ok (.goto 4, 3) := by decide +kernel
theorem dX2_codeHere_23 : decode cX2_codeHere 23 = .ok (.iconst (-1), 1) := by decide +kernel
theorem dX2_codeHere_24 : decode cX2_codeHere 24 = .ok (.ireturn, 1) := by decide +kernel
theorem dX2_failAt_0 : decode cX2_failAt 0 = .ok (.aload_n 0, 1) := by decide +kernel
theorem dX2_failAt_1 : decode cX2_failAt 1 = .ok (.getfield 31, 3) := by decide +kernel
theorem dX2_failAt_4 : decode cX2_failAt 4 = .ok (.ifCond .eq 13, 3) := by decide +kernel
theorem dX2_failAt_7 : decode cX2_failAt 7 = .ok (.aload_n 0, 1) := by decide +kernel
theorem dX2_failAt_8 : decode cX2_failAt 8 = .ok (.iload_n 1, 1) := by decide +kernel
theorem dX2_failAt_9 : decode cX2_failAt 9 = .ok (.putfield 100, 3) := by decide +kernel
theorem dX2_failAt_12 : decode cX2_failAt 12 = .ok (.aload_n 0, 1) := by decide +kernel
theorem dX2_failAt_13 : decode cX2_failAt 13 = .ok (.iconst 0, 1) := by decide +kernel
theorem dX2_failAt_14 : decode cX2_failAt 14 = .ok (.putfield 31, 3) := by decide +kernel
theorem dX2_failAt_17 : decode cX2_failAt 17 = .ok (.return_, 1) := by decide +kernel
theorem dX3_init_0 : decode cX3_init 0 = .ok (.aload_n 0, 1) := by decide +kernel
theorem dX3_init_1 : decode cX3_init 1 = .ok (.invokespecial 3, 3) := by decide +kernel
theorem dX3_init_4 : decode cX3_init 4 = .ok (.aload_n 0, 1) := by decide +kernel
theorem dX3_init_5 : decode cX3_init 5 = .ok (.bipush 50, 2) := by decide +kernel
theorem dX3_init_7 : decode cX3_init 7 = .ok (.newarray .int, 2) := by decide +kernel
theorem dX3_init_9 : decode cX3_init 9 = .ok (.putfield 9, 3) := by decide +kernel
theorem dX3_init_12 : decode cX3_init 12 = .ok (.aload_n 0, 1) := by decide +kernel
theorem dX3_init_13 : decode cX3_init 13 = .ok (.bipush 50, 2) := by decide +kernel
theorem dX3_init_15 : decode cX3_init 15 = .ok (.newarray .int, 2) := by decide +kernel
theorem dX3_init_17 : decode cX3_init 17 = .ok (.putfield 15, 3) := by decide +kernel
theorem dX3_init_20 : decode cX3_init 20 = .ok (.aload_n 0, 1) := by decide +kernel
theorem dX3_init_21 : decode cX3_init 21 = .ok (.bipush 10, 2) := by decide +kernel
theorem dX3_init_23 : decode cX3_init 23 = .ok (.newarray .int, 2) := by decide +kernel
theorem dX3_init_25 : decode cX3_init 25 = .ok (.putfield 18, 3) := by decide +kernel
theorem dX3_init_28 : decode cX3_init 28 = .ok (.aload_n 0, 1) := by decide +kernel
theorem dX3_init_29 : decode cX3_init 29 = .ok (.iconst 5, 1) := by decide +kernel
theorem dX3_init_30 : decode cX3_init 30 = .ok (.newarray .int, 2) := by decide +kernel
theorem dX3_init_32 : decode cX3_init 32 = .ok (.putfield 21, 3) := by decide +kernel
theorem dX3_init_35 : decode cX3_init 35 = .ok (.aload_n 0, 1) := by decide +kernel
theorem dX3_init_36 : decode cX3_init 36 = .ok (.iconst 5, 1) := by decide +kernel
theorem dX3_init_37 : decode cX3_init 37 = .ok (.newarray .int, 2) := by decide +kernel
theorem dX3_init_39 : decode cX3_init 39 = .ok (.putfield 24, 3) := by decide +kernel
theorem dX3_init_42 : decode cX3_init 42 = .ok (.aload_n 0, 1) := by decide +kernel
theorem dX3_init_43 : decode cX3_init 43 = .ok (.bipush 25, 2) := by decide +kernel
theorem dX3_init_45 : decode cX3_init 45 = .ok (.newarray .int, 2) := by decide +kernel
theorem dX3_init_47 : decode cX3_init 47 = .ok (.putfield 27, 3) := by decide +kernel
theorem dX3_init_50 : decode cX3_init 50 = .ok (.aload_n 0, 1) := by decide +kernel
theorem dX3_init_51 : decode cX3_init 51 = .ok (.bipush 25, 2) := by decide +kernel
theorem dX3_init_53 : decode cX3_init 53 = .ok (.newarray .int, 2) := by decide +kernel
theorem dX3_init_55 : decode cX3_init 55 = .ok (.putfield 30, 3) := by decide +kernel
theorem dX3_init_58 : decode cX3_init 58 = .ok (.aload_n 0, 1) := by decide +kernel
theorem dX3_init_59 : decode cX3_init 59 = .ok (.iconst 5, 1) := by decide +kernel
theorem dX3_init_60 : decode cX3_init 60 = .ok (.newarray .int, 2) := by decide +kernel
theorem dX3_init_62 : decode cX3_init 62 = .ok (.putfield 33, 3) := by decide +kernel
theorem dX3_init_65 : decode cX3_init 65 = .ok (.aload_n 0, 1) := by decide +kernel
theorem dX3_init_66 : decode cX3_init 66 = .ok (.iconst 5, 1) := by decide +kernel
theorem dX3_init_67 : decode cX3_init 67 = .ok (.newarray .int, 2) := by decide +kernel
theorem dX3_init_69 : decode cX3_init 69 = .ok (.putfield 36, 3) := by decide +kernel
theorem dX3_init_72 : decode cX3_init 72 = .ok (.aload_n 0, 1) := by decide +kernel
theorem dX3_init_73 : decode cX3_init 73 = .ok (.iconst 5, 1) := by decide +kernel
theorem dX3_init_74 : decode cX3_init 74 = .ok (.newarray .int, 2) := by decide +kernel
theorem dX3_init_76 : decode cX3_init 76 = .ok (.putfield 39, 3) := by decide +kernel
theorem dX3_init_79 : decode cX3_init 79 = .ok (.return_, 1) := by decide +kernel
theorem dX3_load_0 : decode cX3_load 0 = .ok (.aload_n 0, 1) := by decide +kernel
theorem dX3_load_1 : decode cX3_load 1 = .ok (.aload_n 1, 1) := by decide +kernel
theorem dX3_load_2 : decode cX3_load 2 = .ok (.getfield 42, 3) := by decide +kernel
theorem dX3_load_5 : decode cX3_load 5 = .ok (.putfield 48, 3) := by decide +kernel
theorem dX3_load_8 : decode cX3_load 8 = .ok (.aload_n 0, 1) := by decide +kernel
theorem dX3_load_9 : decode cX3_load 9 = .ok (.aload_n 1, 1) := by decide +kernel
theorem dX3_load_10 : decode cX3_load 10 = .ok (.getfield 49, 3) := by decide +kernel
theorem dX3_load_13 : decode cX3_load 13 = .ok (.putfield 52, 3) := by decide +kernel
theorem dX3_load_16 : decode cX3_load 16 = .ok (.iconst 0, 1) := by decide +kernel
theorem dX3_load_17 : decode cX3_load 17 = .ok (.istore_n 2, 1) := by decide +kernel
theorem dX3_load_18 : decode cX3_load 18 = .ok (.iload_n 2, 1) := by decide +kernel
theorem dX3_load_19 : decode cX3_load 19 = .ok (.aload_n 0, 1) := by decide +kernel
theorem dX3_load_20 : decode cX3_load 20 = .ok (.getfield 48, 3) := by decide +kernel
theorem dX3_load_23 : decode cX3_load 23 = .ok (.if_icmp .ge 21, 3) := by decide +kernel
theorem dX3_load_26 : decode cX3_load 26 = .ok (.aload_n 0, 1) := by decide +kernel
theorem dX3_load_27 : decode cX3_load 27 = .ok (.getfield 18, 3) := by decide +kernel
theorem dX3_load_30 : decode cX3_load 30 = .ok (.iload_n 2, 1) := by decide +kernel
theorem dX3_load_31 : decode cX3_load 31 = .ok (.aload_n 1, 1) := by decide +kernel
theorem dX3_load_32 : decode cX3_load 32 = .ok (.getfield 53, 3) := by decide +kernel
theorem dX3_load_35 : decode cX3_load 35 = .ok (.iload_n 2, 1) := by decide +kernel
theorem dX3_load_36 : decode cX3_load 36 = .ok (.iaload, 1) := by decide +kernel
theorem dX3_load_37 : decode cX3_load 37 = .ok (.iastore, 1) := by decide +kernel
theorem dX3_load_38 : decode cX3_load 38 = .ok (.iinc 2 1, 3) := by decide +kernel
theorem dX3_load_41 : decode cX3_load 41 = .ok (.goto (-23), 3) := by decide +kernel
theorem dX3_load_44 : decode cX3_load 44 = .ok (.iconst 0, 1) := by decide +kernel
theorem dX3_load_45 : decode cX3_load 45 = .ok (.istore_n 2, 1) := by decide +kernel
theorem dX3_load_46 : decode cX3_load 46 = .ok (.iload_n 2, 1) := by decide +kernel
theorem dX3_load_47 : decode cX3_load 47 = .ok (.aload_n 0, 1) := by decide +kernel
theorem dX3_load_48 : decode cX3_load 48 = .ok (.getfield 52, 3) := by decide +kernel
theorem dX3_load_51 : decode cX3_load 51 = .ok (.if_icmp .ge 39, 3) := by decide +kernel
theorem dX3_load_54 : decode cX3_load 54 = .ok (.aload_n 0, 1) := by decide +kernel
theorem dX3_load_55 : decode cX3_load 55 = .ok (.getfield 21, 3) := by decide +kernel
theorem dX3_load_58 : decode cX3_load 58 = .ok (.iload_n 2, 1) := by decide +kernel
theorem dX3_load_59 : decode cX3_load 59 = .ok (.aload_n 1, 1) := by decide +kernel
theorem dX3_load_60 : decode cX3_load 60 = .ok (.getfield 54, 3) := by decide +kernel
theorem dX3_load_63 : decode cX3_load 63 = .ok (.iload_n 2, 1) := by decide +kernel
theorem dX3_load_64 : decode cX3_load 64 = .ok (.iaload, 1) := by decide +kernel
theorem dX3_load_65 : decode cX3_load 65 = .ok (.iastore, 1) := by decide +kernel
theorem dX3_load_66 : decode cX3_load 66 = .ok (.aload_n 0, 1) := by decide +kernel
theorem dX3_load_67 : decode cX3_load 67 = .ok (.aload_n 1, 1) := by decide +kernel
theorem dX3_load_68 : decode cX3_load 68 = .ok (.iload_n 2, 1) := by decide +kernel
theorem dX3_load_69 : decode cX3_load 69 = .ok (.aload_n 1, 1) := by decide +kernel
theorem dX3_load_70 : decode cX3_load 70 = .ok (.getfield 57, 3) := by decide +kernel
theorem dX3_load_73 : decode cX3_load 73 = .ok (.iload_n 2, 1) := by decide +kernel
theorem dX3_load_74 : decode cX3_load 74 = .ok (.iaload, 1) := by decide +kernel
theorem dX3_load_75 : decode cX3_load 75 = .ok (.aload_n 1, 1) := by decide +kernel
theorem dX3_load_76 : decode cX3_load 76 = .ok (.getfield 60, 3) := by decide +kernel
theorem dX3_load_79 : decode cX3_load 79 = .ok (.iload_n 2, 1) := by decide +kernel
theorem dX3_load_80 : decode cX3_load 80 = .ok (.iaload, 1) := by decide +kernel
theorem dX3_load_81 : decode cX3_load 81 = .ok (.invokevirtual 63, 3) := by decide +kernel
theorem dX3_load_84 : decode cX3_load 84 = .ok (.iinc 2 1, 3) := by decide +kernel
theorem dX3_load_87 : decode cX3_load 87 = .ok (.goto (-41), 3) := by decide +kernel
theorem dX3_load_90 : decode cX3_load 90 = .ok (.return_, 1) := by decide +kernel
theorem dX3_putChurch_0 : decode cX3_putChurch 0 = .ok (.iconst 0, 1) := by decide +kernel
theorem dX3_putChurch_1 : decode cX3_putChurch 1 = .ok (.istore 5, 2) := by decide +kernel
theorem dX3_putChurch_3 : decode cX3_putChurch 3 = .ok (.iload 5, 2) := by decide +kernel
theorem dX3_putChurch_5 : decode cX3_putChurch 5 = .ok (.aload_n 0, 1) := by decide +kernel
theorem dX3_putChurch_6 : decode cX3_putChurch 6 = .ok (.getfield 48, 3) := by decide +kernel
theorem dX3_putChurch_9 : decode cX3_putChurch 9 = .ok (.if_icmp .ge 66, 3) := by decide +kernel
theorem dX3_putChurch_12 : decode cX3_putChurch 12 = .ok (.aload_n 1, 1) := by decide +kernel
theorem dX3_putChurch_13 : decode cX3_putChurch 13 = .ok (.aload_n 1, 1) := by decide +kernel
theorem dX3_putChurch_14 : decode cX3_putChurch 14 = .ok (.getfield 67, 3) := by decide +kernel
theorem dX3_putChurch_17 : decode cX3_putChurch 17 = .ok (.iload_n 2, 1) := by decide +kernel
theorem dX3_putChurch_18 : decode cX3_putChurch 18 = .ok (.iaload, 1) := by decide +kernel
theorem dX3_putChurch_19 : decode cX3_putChurch 19 = .ok (.aload_n 1, 1) := by decide +kernel
theorem dX3_putChurch_20 : decode cX3_putChurch 20 = .ok (.getfield 70, 3) := by decide +kernel
theorem dX3_putChurch_23 : decode cX3_putChurch 23 = .ok (.iload 5, 2) := by decide +kernel
theorem dX3_putChurch_25 : decode cX3_putChurch 25 = .ok (.iaload, 1) := by decide +kernel
theorem dX3_putChurch_26 : decode cX3_putChurch 26 = .ok (.aload_n 1, 1) := by decide +kernel
theorem dX3_putChurch_27 : decode cX3_putChurch 27 = .ok (.getfield 73, 3) := by decide +kernel
theorem dX3_putChurch_30 : decode cX3_putChurch 30 = .ok (.iload 5, 2) := by decide +kernel
theorem dX3_putChurch_32 : decode cX3_putChurch 32 = .ok (.iaload, 1) := by decide +kernel
theorem dX3_putChurch_33 : decode cX3_putChurch 33 = .ok (.iload_n 3, 1) := by decide +kernel
theorem dX3_putChurch_34 : decode cX3_putChurch 34 = .ok (.iload 4, 2) := by decide +kernel
theorem dX3_putChurch_36 : decode cX3_putChurch 36 = .ok (.invokevirtual 76, 3) := by decide +kernel
theorem dX3_putChurch_39 : decode cX3_putChurch 39 = .ok (.istore 6, 2) := by decide +kernel
theorem dX3_putChurch_41 : decode cX3_putChurch 41 = .ok (.aload_n 0, 1) := by decide +kernel
theorem dX3_putChurch_42 : decode cX3_putChurch 42 = .ok (.getfield 9, 3) := by decide +kernel
theorem dX3_putChurch_45 : decode cX3_putChurch 45 = .ok (.iload 5, 2) := by decide +kernel
theorem dX3_putChurch_47 : decode cX3_putChurch 47 = .ok (.iconst 5, 1) := by decide +kernel
theorem dX3_putChurch_48 : decode cX3_putChurch 48 = .ok (.imul, 1) := by decide +kernel
theorem dX3_putChurch_49 : decode cX3_putChurch 49 = .ok (.iload_n 2, 1) := by decide +kernel
theorem dX3_putChurch_50 : decode cX3_putChurch 50 = .ok (.iadd, 1) := by decide +kernel
theorem dX3_putChurch_51 : decode cX3_putChurch 51 = .ok (.aload_n 1, 1) := by decide +kernel
theorem dX3_putChurch_52 : decode cX3_putChurch 52 = .ok (.iload 5, 2) := by decide +kernel
theorem dX3_putChurch_54 : decode cX3_putChurch 54 = .ok (.iload_n 2, 1) := by decide +kernel
theorem dX3_putChurch_55 : decode cX3_putChurch 55 = .ok (.invokevirtual 80, 3) := by decide +kernel
theorem dX3_putChurch_58 : decode cX3_putChurch 58 = .ok (.ifCond .eq 8, 3) := by decide +kernel
theorem dX3_putChurch_61 : decode cX3_putChurch 61 = .ok (.ldc 84, 2) := by decide +kernel
theorem dX3_putChurch_63 : decode cX3_putChurch 63 = .ok (.goto 5, 3) := by decide +kernel
theorem dX3_putChurch_66 : decode cX3_putChurch 66 = .ok (.iload 6, 2) := by decide +kernel
theorem dX3_putChurch_68 : decode cX3_putChurch 68 = .ok (.iastore, 1) := by decide +kernel
theorem dX3_putChurch_69 : decode cX3_putChurch 69 = .ok (.iinc 5 1, 3) := by decide +kernel
theorem dX3_putChurch_72 : decode cX3_putChurch 72 = .ok (.goto (-69), 3) := by decide +kernel
theorem dX3_putChurch_75 : decode cX3_putChurch 75 = .ok (.return_, 1) := by decide +kernel
theorem dX3_shutAllBut_0 : decode cX3_shutAllBut 0 = .ok (.iconst 0, 1) := by decide +kernel
theorem dX3_shutAllBut_1 : decode cX3_shutAllBut 1 = .ok (.istore_n 2, 1) := by decide +kernel
theorem dX3_shutAllBut_2 : decode cX3_shutAllBut 2 = .ok (.iload_n 2, 1) := by decide +kernel
theorem dX3_shutAllBut_3 : decode cX3_shutAllBut 3 = .ok (.aload_n 0, 1) := by decide +kernel
theorem dX3_shutAllBut_4 : decode cX3_shutAllBut 4 = .ok (.getfield 52, 3) := by decide +kernel
theorem dX3_shutAllBut_7 : decode cX3_shutAllBut 7 = .ok (.if_icmp .ge 24, 3) := by decide +kernel
theorem dX3_shutAllBut_10 : decode cX3_shutAllBut 10 = .ok (.iload_n 1, 1) := by decide +kernel
theorem dX3_shutAllBut_11 : decode cX3_shutAllBut 11 = .ok (.iload_n 2, 1) := by decide +kernel
theorem dX3_shutAllBut_12 : decode cX3_shutAllBut 12 = .ok (.ishr, 1) := by decide +kernel
theorem dX3_shutAllBut_13 : decode cX3_shutAllBut 13 = .ok (.iconst 1, 1) := by decide +kernel
theorem dX3_shutAllBut_14 : decode cX3_shutAllBut 14 = .ok (.iand, 1) := by decide +kernel
theorem dX3_shutAllBut_15 : decode cX3_shutAllBut 15 = .ok (.ifCond .ne 10, 3) := by decide +kernel
theorem dX3_shutAllBut_18 : decode cX3_shutAllBut 18 = .ok (.aload_n 0, 1) := by decide +kernel
theorem dX3_shutAllBut_19 : decode cX3_shutAllBut 19 = .ok (.getfield 21, 3) := by decide +kernel
theorem dX3_shutAllBut_22 : decode cX3_shutAllBut 22 = .ok (.iload_n 2, 1) := by decide +kernel
theorem dX3_shutAllBut_23 : decode cX3_shutAllBut 23 = .ok (.iconst 0, 1) := by decide +kernel
theorem dX3_shutAllBut_24 : decode cX3_shutAllBut 24 = .ok (.iastore, 1) := by decide +kernel
theorem dX3_shutAllBut_25 : decode cX3_shutAllBut 25 = .ok (.iinc 2 1, 3) := by decide +kernel
theorem dX3_shutAllBut_28 : decode cX3_shutAllBut 28 = .ok (.goto (-26), 3) := by decide +kernel
theorem dX3_shutAllBut_31 : decode cX3_shutAllBut 31 = .ok (.return_, 1) := by decide +kernel
theorem dX3_forbidBeyond_0 : decode cX3_forbidBeyond 0 = .ok (.iconst 0, 1) := by decide +kernel
theorem dX3_forbidBeyond_1 : decode cX3_forbidBeyond 1 = .ok (.istore_n 2, 1) := by decide +kernel
theorem dX3_forbidBeyond_2 : decode cX3_forbidBeyond 2 = .ok (.iload_n 2, 1) := by decide +kernel
theorem dX3_forbidBeyond_3 : decode cX3_forbidBeyond 3 = .ok (.aload_n 0, 1) := by decide +kernel
theorem dX3_forbidBeyond_4 : decode cX3_forbidBeyond 4 = .ok (.getfield 48, 3) := by decide +kernel
theorem dX3_forbidBeyond_7 : decode cX3_forbidBeyond 7 = .ok (.if_icmp .ge 51, 3) := by decide +kernel
theorem dX3_forbidBeyond_10 : decode cX3_forbidBeyond 10 = .ok (.iconst 0, 1) := by decide +kernel
theorem dX3_forbidBeyond_11 : decode cX3_forbidBeyond 11 = .ok (.istore_n 3, 1) := by decide +kernel
theorem dX3_forbidBeyond_12 : decode cX3_forbidBeyond 12 = .ok (.iload_n 3, 1) := by decide +kernel
theorem dX3_forbidBeyond_13 : decode cX3_forbidBeyond 13 = .ok (.aload_n 0, 1) := by decide +kernel
theorem dX3_forbidBeyond_14 : decode cX3_forbidBeyond 14 = .ok (.getfield 52, 3) := by decide +kernel
theorem dX3_forbidBeyond_17 : decode cX3_forbidBeyond 17 = .ok (.if_icmp .ge 35, 3) := by decide +kernel
theorem dX3_forbidBeyond_20 : decode cX3_forbidBeyond 20 = .ok (.aload_n 0, 1) := by decide +kernel
theorem dX3_forbidBeyond_21 : decode cX3_forbidBeyond 21 = .ok (.getfield 9, 3) := by decide +kernel
theorem dX3_forbidBeyond_24 : decode cX3_forbidBeyond 24 = .ok (.iload_n 2, 1) := by decide +kernel
theorem dX3_forbidBeyond_25 : decode cX3_forbidBeyond 25 = .ok (.iconst 5, 1) := by decide +kernel
theorem dX3_forbidBeyond_26 : decode cX3_forbidBeyond 26 = .ok (.imul, 1) := by decide +kernel
theorem dX3_forbidBeyond_27 : decode cX3_forbidBeyond 27 = .ok (.iload_n 3, 1) := by decide +kernel
theorem dX3_forbidBeyond_28 : decode cX3_forbidBeyond 28 = .ok (.iadd, 1) := by decide +kernel
theorem dX3_forbidBeyond_29 : decode cX3_forbidBeyond 29 = .ok (.iaload, 1) := by decide +kernel
theorem dX3_forbidBeyond_30 : decode cX3_forbidBeyond 30 = .ok (.iload_n 1, 1) := by decide +kernel
theorem dX3_forbidBeyond_31 : decode cX3_forbidBeyond 31 = .ok (.if_icmp .le 15, 3) := by decide +kernel
theorem dX3_forbidBeyond_34 : decode cX3_forbidBeyond 34 = .ok (.aload_n 0, 1) := by decide +kernel
theorem dX3_forbidBeyond_35 : decode cX3_forbidBeyond 35 = .ok (.getfield 9, 3) := by decide +kernel
theorem dX3_forbidBeyond_38 : decode cX3_forbidBeyond 38 = .ok (.iload_n 2, 1) := by decide +kernel
theorem dX3_forbidBeyond_39 : decode cX3_forbidBeyond 39 = .ok (.iconst 5, 1) := by decide +kernel
theorem dX3_forbidBeyond_40 : decode cX3_forbidBeyond 40 = .ok (.imul, 1) := by decide +kernel
theorem dX3_forbidBeyond_41 : decode cX3_forbidBeyond 41 = .ok (.iload_n 3, 1) := by decide +kernel
theorem dX3_forbidBeyond_42 : decode cX3_forbidBeyond 42 = .ok (.iadd, 1) := by decide +kernel
theorem dX3_forbidBeyond_43 : decode cX3_forbidBeyond 43 = .ok (.ldc 84, 2) := by decide +kernel
theorem dX3_forbidBeyond_45 : decode cX3_forbidBeyond 45 = .ok (.iastore, 1) := by decide +kernel
theorem dX3_forbidBeyond_46 : decode cX3_forbidBeyond 46 = .ok (.iinc 3 1, 3) := by decide +kernel
theorem dX3_forbidBeyond_49 : decode cX3_forbidBeyond 49 = .ok (.goto (-37), 3) := by decide +kernel
theorem dX3_forbidBeyond_52 : decode cX3_forbidBeyond 52 = .ok (.iinc 2 1, 3) := by decide +kernel
theorem dX3_forbidBeyond_55 : decode cX3_forbidBeyond 55 = .ok (.goto (-53), 3) := by decide +kernel
theorem dX3_forbidBeyond_58 : decode cX3_forbidBeyond 58 = .ok (.return_, 1) := by decide +kernel
theorem dX3_send_0 : decode cX3_send 0 = .ok (.iconst 0, 1) := by decide +kernel
theorem dX3_send_1 : decode cX3_send 1 = .ok (.istore_n 1, 1) := by decide +kernel
theorem dX3_send_2 : decode cX3_send 2 = .ok (.iload_n 1, 1) := by decide +kernel
theorem dX3_send_3 : decode cX3_send 3 = .ok (.aload_n 0, 1) := by decide +kernel
theorem dX3_send_4 : decode cX3_send 4 = .ok (.getfield 52, 3) := by decide +kernel
theorem dX3_send_7 : decode cX3_send 7 = .ok (.if_icmp .ge 16, 3) := by decide +kernel
theorem dX3_send_10 : decode cX3_send 10 = .ok (.aload_n 0, 1) := by decide +kernel
theorem dX3_send_11 : decode cX3_send 11 = .ok (.getfield 24, 3) := by decide +kernel
theorem dX3_send_14 : decode cX3_send 14 = .ok (.iload_n 1, 1) := by decide +kernel
theorem dX3_send_15 : decode cX3_send 15 = .ok (.iconst 0, 1) := by decide +kernel
theorem dX3_send_16 : decode cX3_send 16 = .ok (.iastore, 1) := by decide +kernel
theorem dX3_send_17 : decode cX3_send 17 = .ok (.iinc 1 1, 3) := by decide +kernel
theorem dX3_send_20 : decode cX3_send 20 = .ok (.goto (-18), 3) := by decide +kernel
theorem dX3_send_23 : decode cX3_send 23 = .ok (.iconst 0, 1) := by decide +kernel
theorem dX3_send_24 : decode cX3_send 24 = .ok (.istore_n 1, 1) := by decide +kernel
theorem dX3_send_25 : decode cX3_send 25 = .ok (.iload_n 1, 1) := by decide +kernel
theorem dX3_send_26 : decode cX3_send 26 = .ok (.aload_n 0, 1) := by decide +kernel
theorem dX3_send_27 : decode cX3_send 27 = .ok (.getfield 15, 3) := by decide +kernel
theorem dX3_send_30 : decode cX3_send 30 = .ok (.arraylength, 1) := by decide +kernel
theorem dX3_send_31 : decode cX3_send 31 = .ok (.if_icmp .ge 16, 3) := by decide +kernel
theorem dX3_send_34 : decode cX3_send 34 = .ok (.aload_n 0, 1) := by decide +kernel
theorem dX3_send_35 : decode cX3_send 35 = .ok (.getfield 15, 3) := by decide +kernel
theorem dX3_send_38 : decode cX3_send 38 = .ok (.iload_n 1, 1) := by decide +kernel
theorem dX3_send_39 : decode cX3_send 39 = .ok (.iconst 0, 1) := by decide +kernel
theorem dX3_send_40 : decode cX3_send 40 = .ok (.iastore, 1) := by decide +kernel
theorem dX3_send_41 : decode cX3_send 41 = .ok (.iinc 1 1, 3) := by decide +kernel
theorem dX3_send_44 : decode cX3_send 44 = .ok (.goto (-19), 3) := by decide +kernel
theorem dX3_send_47 : decode cX3_send 47 = .ok (.iconst 0, 1) := by decide +kernel
theorem dX3_send_48 : decode cX3_send 48 = .ok (.istore_n 1, 1) := by decide +kernel
theorem dX3_send_49 : decode cX3_send 49 = .ok (.iload_n 1, 1) := by decide +kernel
theorem dX3_send_50 : decode cX3_send 50 = .ok (.aload_n 0, 1) := by decide +kernel
theorem dX3_send_51 : decode cX3_send 51 = .ok (.getfield 48, 3) := by decide +kernel
theorem dX3_send_54 : decode cX3_send 54 = .ok (.if_icmp .ge 20, 3) := by decide +kernel
theorem dX3_send_57 : decode cX3_send 57 = .ok (.aload_n 0, 1) := by decide +kernel
theorem dX3_send_58 : decode cX3_send 58 = .ok (.iload_n 1, 1) := by decide +kernel
theorem dX3_send_59 : decode cX3_send 59 = .ok (.invokevirtual 85, 3) := by decide +kernel
theorem dX3_send_62 : decode cX3_send 62 = .ok (.ifCond .ne 6, 3) := by decide +kernel
theorem dX3_send_65 : decode cX3_send 65 = .ok (.bipush (-9), 2) := by decide +kernel
theorem dX3_send_67 : decode cX3_send 67 = .ok (.ireturn, 1) := by decide +kernel
theorem dX3_send_68 : decode cX3_send 68 = .ok (.iinc 1 1, 3) := by decide +kernel
theorem dX3_send_71 : decode cX3_send 71 = .ok (.goto (-22), 3) := by decide +kernel
theorem dX3_send_74 : decode cX3_send 74 = .ok (.aload_n 0, 1) := by decide +kernel
theorem dX3_send_75 : decode cX3_send 75 = .ok (.invokevirtual 89, 3) := by decide +kernel
theorem dX3_send_78 : decode cX3_send 78 = .ok (.ireturn, 1) := by decide +kernel
theorem dX3_sumOfMiles_0 : decode cX3_sumOfMiles 0 = .ok (.iconst 0, 1) := by decide +kernel
theorem dX3_sumOfMiles_1 : decode cX3_sumOfMiles 1 = .ok (.istore_n 1, 1) := by decide +kernel
theorem dX3_sumOfMiles_2 : decode cX3_sumOfMiles 2 = .ok (.iconst 0, 1) := by decide +kernel
theorem dX3_sumOfMiles_3 : decode cX3_sumOfMiles 3 = .ok (.istore_n 2, 1) := by decide +kernel
theorem dX3_sumOfMiles_4 : decode cX3_sumOfMiles 4 = .ok (.iload_n 2, 1) := by decide +kernel
theorem dX3_sumOfMiles_5 : decode cX3_sumOfMiles 5 = .ok (.aload_n 0, 1) := by decide +kernel
theorem dX3_sumOfMiles_6 : decode cX3_sumOfMiles 6 = .ok (.getfield 48, 3) := by decide +kernel
theorem dX3_sumOfMiles_9 : decode cX3_sumOfMiles 9 = .ok (.if_icmp .ge 49, 3) := by decide +kernel
theorem dX3_sumOfMiles_12 : decode cX3_sumOfMiles 12 = .ok (.iconst 0, 1) := by decide +kernel
theorem dX3_sumOfMiles_13 : decode cX3_sumOfMiles 13 = .ok (.istore_n 3, 1) := by decide +kernel
theorem dX3_sumOfMiles_14 : decode cX3_sumOfMiles 14 = .ok (.iload_n 3, 1) := by decide +kernel
theorem dX3_sumOfMiles_15 : decode cX3_sumOfMiles 15 = .ok (.aload_n 0, 1) := by decide +kernel
theorem dX3_sumOfMiles_16 : decode cX3_sumOfMiles 16 = .ok (.getfield 52, 3) := by decide +kernel
theorem dX3_sumOfMiles_19 : decode cX3_sumOfMiles 19 = .ok (.if_icmp .ge 33, 3) := by decide +kernel
theorem dX3_sumOfMiles_22 : decode cX3_sumOfMiles 22 = .ok (.iload_n 1, 1) := by decide +kernel
theorem dX3_sumOfMiles_23 : decode cX3_sumOfMiles 23 = .ok (.aload_n 0, 1) := by decide +kernel
theorem dX3_sumOfMiles_24 : decode cX3_sumOfMiles 24 = .ok (.getfield 15, 3) := by decide +kernel
theorem dX3_sumOfMiles_27 : decode cX3_sumOfMiles 27 = .ok (.iload_n 2, 1) := by decide +kernel
theorem dX3_sumOfMiles_28 : decode cX3_sumOfMiles 28 = .ok (.iconst 5, 1) := by decide +kernel
theorem dX3_sumOfMiles_29 : decode cX3_sumOfMiles 29 = .ok (.imul, 1) := by decide +kernel
theorem dX3_sumOfMiles_30 : decode cX3_sumOfMiles 30 = .ok (.iload_n 3, 1) := by decide +kernel
theorem dX3_sumOfMiles_31 : decode cX3_sumOfMiles 31 = .ok (.iadd, 1) := by decide +kernel
theorem dX3_sumOfMiles_32 : decode cX3_sumOfMiles 32 = .ok (.iaload, 1) := by decide +kernel
theorem dX3_sumOfMiles_33 : decode cX3_sumOfMiles 33 = .ok (.aload_n 0, 1) := by decide +kernel
theorem dX3_sumOfMiles_34 : decode cX3_sumOfMiles 34 = .ok (.getfield 9, 3) := by decide +kernel
theorem dX3_sumOfMiles_37 : decode cX3_sumOfMiles 37 = .ok (.iload_n 2, 1) := by decide +kernel
theorem dX3_sumOfMiles_38 : decode cX3_sumOfMiles 38 = .ok (.iconst 5, 1) := by decide +kernel
theorem dX3_sumOfMiles_39 : decode cX3_sumOfMiles 39 = .ok (.imul, 1) := by decide +kernel
theorem dX3_sumOfMiles_40 : decode cX3_sumOfMiles 40 = .ok (.iload_n 3, 1) := by decide +kernel
theorem dX3_sumOfMiles_41 : decode cX3_sumOfMiles 41 = .ok (.iadd, 1) := by decide +kernel
theorem dX3_sumOfMiles_42 : decode cX3_sumOfMiles 42 = .ok (.iaload, 1) := by decide +kernel
theorem dX3_sumOfMiles_43 : decode cX3_sumOfMiles 43 = .ok (.imul, 1) := by decide +kernel
theorem dX3_sumOfMiles_44 : decode cX3_sumOfMiles 44 = .ok (.iadd, 1) := by decide +kernel
theorem dX3_sumOfMiles_45 : decode cX3_sumOfMiles 45 = .ok (.istore_n 1, 1) := by decide +kernel
theorem dX3_sumOfMiles_46 : decode cX3_sumOfMiles 46 = .ok (.iinc 3 1, 3) := by decide +kernel
theorem dX3_sumOfMiles_49 : decode cX3_sumOfMiles 49 = .ok (.goto (-35), 3) := by decide +kernel
theorem dX3_sumOfMiles_52 : decode cX3_sumOfMiles 52 = .ok (.iinc 2 1, 3) := by decide +kernel
theorem dX3_sumOfMiles_55 : decode cX3_sumOfMiles 55 = .ok (.goto (-51), 3) := by decide +kernel
theorem dX3_sumOfMiles_58 : decode cX3_sumOfMiles 58 = .ok (.iload_n 1, 1) := by decide +kernel
theorem dX3_sumOfMiles_59 : decode cX3_sumOfMiles 59 = .ok (.ireturn, 1) := by decide +kernel
theorem dX3_seatHome_0 : decode cX3_seatHome 0 = .ok (.aload_n 0, 1) := by decide +kernel
theorem dX3_seatHome_1 : decode cX3_seatHome 1 = .ok (.getfield 18, 3) := by decide +kernel
theorem dX3_seatHome_4 : decode cX3_seatHome 4 = .ok (.iload_n 1, 1) := by decide +kernel
theorem dX3_seatHome_5 : decode cX3_seatHome 5 = .ok (.iaload, 1) := by decide +kernel
theorem dX3_seatHome_6 : decode cX3_seatHome 6 = .ok (.istore_n 2, 1) := by decide +kernel
theorem dX3_seatHome_7 : decode cX3_seatHome 7 = .ok (.iconst 0, 1) := by decide +kernel
theorem dX3_seatHome_8 : decode cX3_seatHome 8 = .ok (.istore_n 3, 1) := by decide +kernel
theorem dX3_seatHome_9 : decode cX3_seatHome 9 = .ok (.iload_n 3, 1) := by decide +kernel
theorem dX3_seatHome_10 : decode cX3_seatHome 10 = .ok (.iconst 5, 1) := by decide +kernel
theorem dX3_seatHome_11 : decode cX3_seatHome 11 = .ok (.if_icmp .ge 50, 3) := by decide +kernel
theorem dX3_seatHome_14 : decode cX3_seatHome 14 = .ok (.iload_n 2, 1) := by decide +kernel
theorem dX3_seatHome_15 : decode cX3_seatHome 15 = .ok (.ifCond .le 46, 3) := by decide +kernel
theorem dX3_seatHome_18 : decode cX3_seatHome 18 = .ok (.aload_n 0, 1) := by decide +kernel
theorem dX3_seatHome_19 : decode cX3_seatHome 19 = .ok (.invokevirtual 93, 3) := by decide +kernel
theorem dX3_seatHome_22 : decode cX3_seatHome 22 = .ok (.aload_n 0, 1) := by decide +kernel
theorem dX3_seatHome_23 : decode cX3_seatHome 23 = .ok (.iload_n 1, 1) := by decide +kernel
theorem dX3_seatHome_24 : decode cX3_seatHome 24 = .ok (.invokevirtual 96, 3) := by decide +kernel
theorem dX3_seatHome_27 : decode cX3_seatHome 27 = .ok (.aload_n 0, 1) := by decide +kernel
theorem dX3_seatHome_28 : decode cX3_seatHome 28 = .ok (.invokevirtual 100, 3) := by decide +kernel
theorem dX3_seatHome_31 : decode cX3_seatHome 31 = .ok (.aload_n 0, 1) := by decide +kernel
theorem dX3_seatHome_32 : decode cX3_seatHome 32 = .ok (.invokevirtual 103, 3) := by decide +kernel
theorem dX3_seatHome_35 : decode cX3_seatHome 35 = .ok (.istore 4, 2) := by decide +kernel
theorem dX3_seatHome_37 : decode cX3_seatHome 37 = .ok (.iload 4, 2) := by decide +kernel
theorem dX3_seatHome_39 : decode cX3_seatHome 39 = .ok (.ifCond .ge 5, 3) := by decide +kernel
theorem dX3_seatHome_42 : decode cX3_seatHome 42 = .ok (.iconst 0, 1) := by decide +kernel
theorem dX3_seatHome_43 : decode cX3_seatHome 43 = .ok (.ireturn, 1) := by decide +kernel
theorem dX3_seatHome_44 : decode cX3_seatHome 44 = .ok (.iload_n 2, 1) := by decide +kernel
theorem dX3_seatHome_45 : decode cX3_seatHome 45 = .ok (.aload_n 0, 1) := by decide +kernel
theorem dX3_seatHome_46 : decode cX3_seatHome 46 = .ok (.iload_n 1, 1) := by decide +kernel
theorem dX3_seatHome_47 : decode cX3_seatHome 47 = .ok (.iload 4, 2) := by decide +kernel
theorem dX3_seatHome_49 : decode cX3_seatHome 49 = .ok (.iload_n 2, 1) := by decide +kernel
theorem dX3_seatHome_50 : decode cX3_seatHome 50 = .ok (.invokevirtual 106, 3) := by decide +kernel
theorem dX3_seatHome_53 : decode cX3_seatHome 53 = .ok (.isub, 1) := by decide +kernel
theorem dX3_seatHome_54 : decode cX3_seatHome 54 = .ok (.istore_n 2, 1) := by decide +kernel
theorem dX3_seatHome_55 : decode cX3_seatHome 55 = .ok (.iinc 3 1, 3) := by decide +kernel
theorem dX3_seatHome_58 : decode cX3_seatHome 58 = .ok (.goto (-49), 3) := by decide +kernel
theorem dX3_seatHome_61 : decode cX3_seatHome 61 = .ok (.iload_n 2, 1) := by decide +kernel
theorem dX3_seatHome_62 : decode cX3_seatHome 62 = .ok (.ifCond .ne 7, 3) := by decide +kernel
theorem dX3_seatHome_65 : decode cX3_seatHome 65 = .ok (.iconst 1, 1) := by decide +kernel
theorem dX3_seatHome_66 : decode cX3_seatHome 66 = .ok (.goto 4, 3) := by decide +kernel
theorem dX3_seatHome_69 : decode cX3_seatHome 69 = .ok (.iconst 0, 1) := by decide +kernel
theorem dX3_seatHome_70 : decode cX3_seatHome 70 = .ok (.ireturn, 1) := by decide +kernel
theorem dX3_findSteps_0 : decode cX3_findSteps 0 = .ok (.iconst 0, 1) := by decide +kernel
theorem dX3_findSteps_1 : decode cX3_findSteps 1 = .ok (.istore_n 1, 1) := by decide +kernel
theorem dX3_findSteps_2 : decode cX3_findSteps 2 = .ok (.iload_n 1, 1) := by decide +kernel
theorem dX3_findSteps_3 : decode cX3_findSteps 3 = .ok (.aload_n 0, 1) := by decide +kernel
theorem dX3_findSteps_4 : decode cX3_findSteps 4 = .ok (.getfield 27, 3) := by decide +kernel
theorem dX3_findSteps_7 : decode cX3_findSteps 7 = .ok (.arraylength, 1) := by decide +kernel
theorem dX3_findSteps_8 : decode cX3_findSteps 8 = .ok (.if_icmp .ge 17, 3) := by decide +kernel
theorem dX3_findSteps_11 : decode cX3_findSteps 11 = .ok (.aload_n 0, 1) := by decide +kernel
theorem dX3_findSteps_12 : decode cX3_findSteps 12 = .ok (.getfield 27, 3) := by decide +kernel
theorem dX3_findSteps_15 : decode cX3_findSteps 15 = .ok (.iload_n 1, 1) := by decide +kernel
theorem dX3_findSteps_16 : decode cX3_findSteps 16 = .ok (.ldc 84, 2) := by decide +kernel
theorem dX3_findSteps_18 : decode cX3_findSteps 18 = .ok (.iastore, 1) := by decide +kernel
theorem dX3_findSteps_19 : decode cX3_findSteps 19 = .ok (.iinc 1 1, 3) := by decide +kernel
theorem dX3_findSteps_22 : decode cX3_findSteps 22 = .ok (.goto (-20), 3) := by decide +kernel
theorem dX3_findSteps_25 : decode cX3_findSteps 25 = .ok (.iconst 0, 1) := by decide +kernel
theorem dX3_findSteps_26 : decode cX3_findSteps 26 = .ok (.istore_n 1, 1) := by decide +kernel
theorem dX3_findSteps_27 : decode cX3_findSteps 27 = .ok (.iload_n 1, 1) := by decide +kernel
theorem dX3_findSteps_28 : decode cX3_findSteps 28 = .ok (.aload_n 0, 1) := by decide +kernel
theorem dX3_findSteps_29 : decode cX3_findSteps 29 = .ok (.getfield 48, 3) := by decide +kernel
theorem dX3_findSteps_32 : decode cX3_findSteps 32 = .ok (.if_icmp .ge 44, 3) := by decide +kernel
theorem dX3_findSteps_35 : decode cX3_findSteps 35 = .ok (.iconst 0, 1) := by decide +kernel
theorem dX3_findSteps_36 : decode cX3_findSteps 36 = .ok (.istore_n 2, 1) := by decide +kernel
theorem dX3_findSteps_37 : decode cX3_findSteps 37 = .ok (.iload_n 2, 1) := by decide +kernel
theorem dX3_findSteps_38 : decode cX3_findSteps 38 = .ok (.aload_n 0, 1) := by decide +kernel
theorem dX3_findSteps_39 : decode cX3_findSteps 39 = .ok (.getfield 52, 3) := by decide +kernel
theorem dX3_findSteps_42 : decode cX3_findSteps 42 = .ok (.if_icmp .ge 28, 3) := by decide +kernel
theorem dX3_findSteps_45 : decode cX3_findSteps 45 = .ok (.aload_n 0, 1) := by decide +kernel
theorem dX3_findSteps_46 : decode cX3_findSteps 46 = .ok (.getfield 15, 3) := by decide +kernel
theorem dX3_findSteps_49 : decode cX3_findSteps 49 = .ok (.iload_n 1, 1) := by decide +kernel
theorem dX3_findSteps_50 : decode cX3_findSteps 50 = .ok (.iconst 5, 1) := by decide +kernel
theorem dX3_findSteps_51 : decode cX3_findSteps 51 = .ok (.imul, 1) := by decide +kernel
theorem dX3_findSteps_52 : decode cX3_findSteps 52 = .ok (.iload_n 2, 1) := by decide +kernel
theorem dX3_findSteps_53 : decode cX3_findSteps 53 = .ok (.iadd, 1) := by decide +kernel
theorem dX3_findSteps_54 : decode cX3_findSteps 54 = .ok (.iaload, 1) := by decide +kernel
theorem dX3_findSteps_55 : decode cX3_findSteps 55 = .ok (.ifCond .le 9, 3) := by decide +kernel
theorem dX3_findSteps_58 : decode cX3_findSteps 58 = .ok (.aload_n 0, 1) := by decide +kernel
theorem dX3_findSteps_59 : decode cX3_findSteps 59 = .ok (.iload_n 1, 1) := by decide +kernel
theorem dX3_findSteps_60 : decode cX3_findSteps 60 = .ok (.iload_n 2, 1) := by decide +kernel
theorem dX3_findSteps_61 : decode cX3_findSteps 61 = .ok (.invokevirtual 110, 3) := by decide +kernel
theorem dX3_findSteps_64 : decode cX3_findSteps 64 = .ok (.iinc 2 1, 3) := by decide +kernel
theorem dX3_findSteps_67 : decode cX3_findSteps 67 = .ok (.goto (-30), 3) := by decide +kernel
theorem dX3_findSteps_70 : decode cX3_findSteps 70 = .ok (.iinc 1 1, 3) := by decide +kernel
theorem dX3_findSteps_73 : decode cX3_findSteps 73 = .ok (.goto (-46), 3) := by decide +kernel
theorem dX3_findSteps_76 : decode cX3_findSteps 76 = .ok (.return_, 1) := by decide +kernel
theorem dX3_findStepsOf_0 : decode cX3_findStepsOf 0 = .ok (.aload_n 0, 1) := by decide +kernel
theorem dX3_findStepsOf_1 : decode cX3_findStepsOf 1 = .ok (.getfield 9, 3) := by decide +kernel
theorem dX3_findStepsOf_4 : decode cX3_findStepsOf 4 = .ok (.iload_n 1, 1) := by decide +kernel
theorem dX3_findStepsOf_5 : decode cX3_findStepsOf 5 = .ok (.iconst 5, 1) := by decide +kernel
theorem dX3_findStepsOf_6 : decode cX3_findStepsOf 6 = .ok (.imul, 1) := by decide +kernel
theorem dX3_findStepsOf_7 : decode cX3_findStepsOf 7 = .ok (.iload_n 2, 1) := by decide +kernel
theorem dX3_findStepsOf_8 : decode cX3_findStepsOf 8 = .ok (.iadd, 1) := by decide +kernel
theorem dX3_findStepsOf_9 : decode cX3_findStepsOf 9 = .ok (.iaload, 1) := by decide +kernel
theorem dX3_findStepsOf_10 : decode cX3_findStepsOf 10 = .ok (.istore_n 3, 1) := by decide +kernel
theorem dX3_findStepsOf_11 : decode cX3_findStepsOf 11 = .ok (.iconst 0, 1) := by decide +kernel
theorem dX3_findStepsOf_12 : decode cX3_findStepsOf 12 = .ok (.istore 4, 2) := by decide +kernel
theorem dX3_findStepsOf_14 : decode cX3_findStepsOf 14 = .ok (.iload 4, 2) := by decide +kernel
theorem dX3_findStepsOf_16 : decode cX3_findStepsOf 16 = .ok (.aload_n 0, 1) := by decide +kernel
theorem dX3_findStepsOf_17 : decode cX3_findStepsOf 17 = .ok (.getfield 52, 3) := by decide +kernel
theorem dX3_findStepsOf_20 : decode cX3_findStepsOf 20 = .ok (.if_icmp .ge 74, 3) := by decide +kernel
theorem dX3_findStepsOf_23 : decode cX3_findStepsOf 23 = .ok (.aload_n 0, 1) := by decide +kernel
theorem dX3_findStepsOf_24 : decode cX3_findStepsOf 24 = .ok (.getfield 9, 3) := by decide +kernel
theorem dX3_findStepsOf_27 : decode cX3_findStepsOf 27 = .ok (.iload_n 1, 1) := by decide +kernel
theorem dX3_findStepsOf_28 : decode cX3_findStepsOf 28 = .ok (.iconst 5, 1) := by decide +kernel
theorem dX3_findStepsOf_29 : decode cX3_findStepsOf 29 = .ok (.imul, 1) := by decide +kernel
theorem dX3_findStepsOf_30 : decode cX3_findStepsOf 30 = .ok (.iload 4, 2) := by decide +kernel
theorem dX3_findStepsOf_32 : decode cX3_findStepsOf 32 = .ok (.iadd, 1) := by decide +kernel
theorem dX3_findStepsOf_33 : decode cX3_findStepsOf 33 = .ok (.iaload, 1) := by decide +kernel
theorem dX3_findStepsOf_34 : decode cX3_findStepsOf 34 = .ok (.istore 5, 2) := by decide +kernel
theorem dX3_findStepsOf_36 : decode cX3_findStepsOf 36 = .ok (.iload 5, 2) := by decide +kernel
theorem dX3_findStepsOf_38 : decode cX3_findStepsOf 38 = .ok (.ldc 84, 2) := by decide +kernel
theorem dX3_findStepsOf_40 : decode cX3_findStepsOf 40 = .ok (.if_icmp .ge 48, 3) := by decide +kernel
theorem dX3_findStepsOf_43 : decode cX3_findStepsOf 43 = .ok (.iload 5, 2) := by decide +kernel
theorem dX3_findStepsOf_45 : decode cX3_findStepsOf 45 = .ok (.iload_n 3, 1) := by decide +kernel
theorem dX3_findStepsOf_46 : decode cX3_findStepsOf 46 = .ok (.isub, 1) := by decide +kernel
theorem dX3_findStepsOf_47 : decode cX3_findStepsOf 47 = .ok (.aload_n 0, 1) := by decide +kernel
theorem dX3_findStepsOf_48 : decode cX3_findStepsOf 48 = .ok (.getfield 27, 3) := by decide +kernel
theorem dX3_findStepsOf_51 : decode cX3_findStepsOf 51 = .ok (.iload_n 2, 1) := by decide +kernel
theorem dX3_findStepsOf_52 : decode cX3_findStepsOf 52 = .ok (.iconst 5, 1) := by decide +kernel
theorem dX3_findStepsOf_53 : decode cX3_findStepsOf 53 = .ok (.imul, 1) := by decide +kernel
theorem dX3_findStepsOf_54 : decode cX3_findStepsOf 54 = .ok (.iload 4, 2) := by decide +kernel
theorem dX3_findStepsOf_56 : decode cX3_findStepsOf 56 = .ok (.iadd, 1) := by decide +kernel
theorem dX3_findStepsOf_57 : decode cX3_findStepsOf 57 = .ok (.iaload, 1) := by decide +kernel
theorem dX3_findStepsOf_58 : decode cX3_findStepsOf 58 = .ok (.if_icmp .ge 30, 3) := by decide +kernel
theorem dX3_findStepsOf_61 : decode cX3_findStepsOf 61 = .ok (.aload_n 0, 1) := by decide +kernel
theorem dX3_findStepsOf_62 : decode cX3_findStepsOf 62 = .ok (.getfield 27, 3) := by decide +kernel
theorem dX3_findStepsOf_65 : decode cX3_findStepsOf 65 = .ok (.iload_n 2, 1) := by decide +kernel
theorem dX3_findStepsOf_66 : decode cX3_findStepsOf 66 = .ok (.iconst 5, 1) := by decide +kernel
theorem dX3_findStepsOf_67 : decode cX3_findStepsOf 67 = .ok (.imul, 1) := by decide +kernel
theorem dX3_findStepsOf_68 : decode cX3_findStepsOf 68 = .ok (.iload 4, 2) := by decide +kernel
theorem dX3_findStepsOf_70 : decode cX3_findStepsOf 70 = .ok (.iadd, 1) := by decide +kernel
theorem dX3_findStepsOf_71 : decode cX3_findStepsOf 71 = .ok (.iload 5, 2) := by decide +kernel
theorem dX3_findStepsOf_73 : decode cX3_findStepsOf 73 = .ok (.iload_n 3, 1) := by decide +kernel
theorem dX3_findStepsOf_74 : decode cX3_findStepsOf 74 = .ok (.isub, 1) := by decide +kernel
theorem dX3_findStepsOf_75 : decode cX3_findStepsOf 75 = .ok (.iastore, 1) := by decide +kernel
theorem dX3_findStepsOf_76 : decode cX3_findStepsOf 76 = .ok (.aload_n 0, 1) := by decide +kernel
theorem dX3_findStepsOf_77 : decode cX3_findStepsOf 77 = .ok (.getfield 30, 3) := by decide +kernel
theorem dX3_findStepsOf_80 : decode cX3_findStepsOf 80 = .ok (.iload_n 2, 1) := by decide +kernel
theorem dX3_findStepsOf_81 : decode cX3_findStepsOf 81 = .ok (.iconst 5, 1) := by decide +kernel
theorem dX3_findStepsOf_82 : decode cX3_findStepsOf 82 = .ok (.imul, 1) := by decide +kernel
theorem dX3_findStepsOf_83 : decode cX3_findStepsOf 83 = .ok (.iload 4, 2) := by decide +kernel
theorem dX3_findStepsOf_85 : decode cX3_findStepsOf 85 = .ok (.iadd, 1) := by decide +kernel
theorem dX3_findStepsOf_86 : decode cX3_findStepsOf 86 = .ok (.iload_n 1, 1) := by decide +kernel
theorem dX3_findStepsOf_87 : decode cX3_findStepsOf 87 = .ok (.iastore, 1) := by decide +kernel
theorem dX3_findStepsOf_88 : decode cX3_findStepsOf 88 = .ok (.iinc 4 1, 3) := by decide +kernel
theorem dX3_findStepsOf_91 : decode cX3_findStepsOf 91 = .ok (.goto (-77), 3) := by decide +kernel
theorem dX3_findStepsOf_94 : decode cX3_findStepsOf 94 = .ok (.return_, 1) := by decide +kernel
theorem dX3_startAt_0 : decode cX3_startAt 0 = .ok (.iconst 0, 1) := by decide +kernel
theorem dX3_startAt_1 : decode cX3_startAt 1 = .ok (.istore_n 2, 1) := by decide +kernel
theorem dX3_startAt_2 : decode cX3_startAt 2 = .ok (.iload_n 2, 1) := by decide +kernel
theorem dX3_startAt_3 : decode cX3_startAt 3 = .ok (.aload_n 0, 1) := by decide +kernel
theorem dX3_startAt_4 : decode cX3_startAt 4 = .ok (.getfield 52, 3) := by decide +kernel
theorem dX3_startAt_7 : decode cX3_startAt 7 = .ok (.if_icmp .ge 32, 3) := by decide +kernel
theorem dX3_startAt_10 : decode cX3_startAt 10 = .ok (.aload_n 0, 1) := by decide +kernel
theorem dX3_startAt_11 : decode cX3_startAt 11 = .ok (.getfield 33, 3) := by decide +kernel
theorem dX3_startAt_14 : decode cX3_startAt 14 = .ok (.iload_n 2, 1) := by decide +kernel
theorem dX3_startAt_15 : decode cX3_startAt 15 = .ok (.aload_n 0, 1) := by decide +kernel
theorem dX3_startAt_16 : decode cX3_startAt 16 = .ok (.getfield 9, 3) := by decide +kernel
theorem dX3_startAt_19 : decode cX3_startAt 19 = .ok (.iload_n 1, 1) := by decide +kernel
theorem dX3_startAt_20 : decode cX3_startAt 20 = .ok (.iconst 5, 1) := by decide +kernel
theorem dX3_startAt_21 : decode cX3_startAt 21 = .ok (.imul, 1) := by decide +kernel
theorem dX3_startAt_22 : decode cX3_startAt 22 = .ok (.iload_n 2, 1) := by decide +kernel
theorem dX3_startAt_23 : decode cX3_startAt 23 = .ok (.iadd, 1) := by decide +kernel
theorem dX3_startAt_24 : decode cX3_startAt 24 = .ok (.iaload, 1) := by decide +kernel
theorem dX3_startAt_25 : decode cX3_startAt 25 = .ok (.iastore, 1) := by decide +kernel
theorem dX3_startAt_26 : decode cX3_startAt 26 = .ok (.aload_n 0, 1) := by decide +kernel
theorem dX3_startAt_27 : decode cX3_startAt 27 = .ok (.getfield 36, 3) := by decide +kernel
theorem dX3_startAt_30 : decode cX3_startAt 30 = .ok (.iload_n 2, 1) := by decide +kernel
theorem dX3_startAt_31 : decode cX3_startAt 31 = .ok (.iconst (-1), 1) := by decide +kernel
theorem dX3_startAt_32 : decode cX3_startAt 32 = .ok (.iastore, 1) := by decide +kernel
theorem dX3_startAt_33 : decode cX3_startAt 33 = .ok (.iinc 2 1, 3) := by decide +kernel
theorem dX3_startAt_36 : decode cX3_startAt 36 = .ok (.goto (-34), 3) := by decide +kernel
theorem dX3_startAt_39 : decode cX3_startAt 39 = .ok (.return_, 1) := by decide +kernel
theorem dX3_spread_0 : decode cX3_spread 0 = .ok (.iconst 1, 1) := by decide +kernel
theorem dX3_spread_1 : decode cX3_spread 1 = .ok (.istore_n 1, 1) := by decide +kernel
theorem dX3_spread_2 : decode cX3_spread 2 = .ok (.iconst 0, 1) := by decide +kernel
theorem dX3_spread_3 : decode cX3_spread 3 = .ok (.istore_n 2, 1) := by decide +kernel
theorem dX3_spread_4 : decode cX3_spread 4 = .ok (.iload_n 2, 1) := by decide +kernel
theorem dX3_spread_5 : decode cX3_spread 5 = .ok (.aload_n 0, 1) := by decide +kernel
theorem dX3_spread_6 : decode cX3_spread 6 = .ok (.getfield 52, 3) := by decide +kernel
theorem dX3_spread_9 : decode cX3_spread 9 = .ok (.if_icmp .ge 52, 3) := by decide +kernel
theorem dX3_spread_12 : decode cX3_spread 12 = .ok (.iload_n 1, 1) := by decide +kernel
theorem dX3_spread_13 : decode cX3_spread 13 = .ok (.ifCond .eq 48, 3) := by decide +kernel
theorem dX3_spread_16 : decode cX3_spread 16 = .ok (.iconst 0, 1) := by decide +kernel
theorem dX3_spread_17 : decode cX3_spread 17 = .ok (.istore_n 1, 1) := by decide +kernel
theorem dX3_spread_18 : decode cX3_spread 18 = .ok (.iconst 0, 1) := by decide +kernel
theorem dX3_spread_19 : decode cX3_spread 19 = .ok (.istore_n 3, 1) := by decide +kernel
theorem dX3_spread_20 : decode cX3_spread 20 = .ok (.iload_n 3, 1) := by decide +kernel
theorem dX3_spread_21 : decode cX3_spread 21 = .ok (.aload_n 0, 1) := by decide +kernel
theorem dX3_spread_22 : decode cX3_spread 22 = .ok (.getfield 52, 3) := by decide +kernel
theorem dX3_spread_25 : decode cX3_spread 25 = .ok (.if_icmp .ge 30, 3) := by decide +kernel
theorem dX3_spread_28 : decode cX3_spread 28 = .ok (.aload_n 0, 1) := by decide +kernel
theorem dX3_spread_29 : decode cX3_spread 29 = .ok (.getfield 33, 3) := by decide +kernel
theorem dX3_spread_32 : decode cX3_spread 32 = .ok (.iload_n 3, 1) := by decide +kernel
theorem dX3_spread_33 : decode cX3_spread 33 = .ok (.iaload, 1) := by decide +kernel
theorem dX3_spread_34 : decode cX3_spread 34 = .ok (.ldc 84, 2) := by decide +kernel
theorem dX3_spread_36 : decode cX3_spread 36 = .ok (.if_icmp .ge 13, 3) := by decide +kernel
theorem dX3_spread_39 : decode cX3_spread 39 = .ok (.aload_n 0, 1) := by decide +kernel
theorem dX3_spread_40 : decode cX3_spread 40 = .ok (.iload_n 3, 1) := by decide +kernel
theorem dX3_spread_41 : decode cX3_spread 41 = .ok (.invokevirtual 114, 3) := by decide +kernel
theorem dX3_spread_44 : decode cX3_spread 44 = .ok (.ifCond .eq 5, 3) := by decide +kernel
theorem dX3_spread_47 : decode cX3_spread 47 = .ok (.iconst 1, 1) := by decide +kernel
theorem dX3_spread_48 : decode cX3_spread 48 = .ok (.istore_n 1, 1) := by decide +kernel
theorem dX3_spread_49 : decode cX3_spread 49 = .ok (.iinc 3 1, 3) := by decide +kernel
theorem dX3_spread_52 : decode cX3_spread 52 = .ok (.goto (-32), 3) := by decide +kernel
theorem dX3_spread_55 : decode cX3_spread 55 = .ok (.iinc 2 1, 3) := by decide +kernel
theorem dX3_spread_58 : decode cX3_spread 58 = .ok (.goto (-54), 3) := by decide +kernel
theorem dX3_spread_61 : decode cX3_spread 61 = .ok (.return_, 1) := by decide +kernel
theorem dX3_spreadFrom_0 : decode cX3_spreadFrom 0 = .ok (.iconst 0, 1) := by decide +kernel
theorem dX3_spreadFrom_1 : decode cX3_spreadFrom 1 = .ok (.istore_n 2, 1) := by decide +kernel
theorem dX3_spreadFrom_2 : decode cX3_spreadFrom 2 = .ok (.iconst 0, 1) := by decide +kernel
theorem dX3_spreadFrom_3 : decode cX3_spreadFrom 3 = .ok (.istore_n 3, 1) := by decide +kernel
theorem dX3_spreadFrom_4 : decode cX3_spreadFrom 4 = .ok (.iload_n 3, 1) := by decide +kernel
theorem dX3_spreadFrom_5 : decode cX3_spreadFrom 5 = .ok (.aload_n 0, 1) := by decide +kernel
theorem dX3_spreadFrom_6 : decode cX3_spreadFrom 6 = .ok (.getfield 52, 3) := by decide +kernel
theorem dX3_spreadFrom_9 : decode cX3_spreadFrom 9 = .ok (.if_icmp .ge 70, 3) := by decide +kernel
theorem dX3_spreadFrom_12 : decode cX3_spreadFrom 12 = .ok (.aload_n 0, 1) := by decide +kernel
theorem dX3_spreadFrom_13 : decode cX3_spreadFrom 13 = .ok (.getfield 27, 3) := by decide +kernel
theorem dX3_spreadFrom_16 : decode cX3_spreadFrom 16 = .ok (.iload_n 1, 1) := by decide +kernel
theorem dX3_spreadFrom_17 : decode cX3_spreadFrom 17 = .ok (.iconst 5, 1) := by decide +kernel
theorem dX3_spreadFrom_18 : decode cX3_spreadFrom 18 = .ok (.imul, 1) := by decide +kernel
theorem dX3_spreadFrom_19 : decode cX3_spreadFrom 19 = .ok (.iload_n 3, 1) := by decide +kernel
theorem dX3_spreadFrom_20 : decode cX3_spreadFrom 20 = .ok (.iadd, 1) := by decide +kernel
theorem dX3_spreadFrom_21 : decode cX3_spreadFrom 21 = .ok (.iaload, 1) := by decide +kernel
theorem dX3_spreadFrom_22 : decode cX3_spreadFrom 22 = .ok (.istore 4, 2) := by decide +kernel
theorem dX3_spreadFrom_24 : decode cX3_spreadFrom 24 = .ok (.iload 4, 2) := by decide +kernel
theorem dX3_spreadFrom_26 : decode cX3_spreadFrom 26 = .ok (.ldc 84, 2) := by decide +kernel
theorem dX3_spreadFrom_28 : decode cX3_spreadFrom 28 = .ok (.if_icmp .ge 45, 3) := by decide +kernel
theorem dX3_spreadFrom_31 : decode cX3_spreadFrom 31 = .ok (.aload_n 0, 1) := by decide +kernel
theorem dX3_spreadFrom_32 : decode cX3_spreadFrom 32 = .ok (.getfield 33, 3) := by decide +kernel
theorem dX3_spreadFrom_35 : decode cX3_spreadFrom 35 = .ok (.iload_n 1, 1) := by decide +kernel
theorem dX3_spreadFrom_36 : decode cX3_spreadFrom 36 = .ok (.iaload, 1) := by decide +kernel
theorem dX3_spreadFrom_37 : decode cX3_spreadFrom 37 = .ok (.iload 4, 2) := by decide +kernel
theorem dX3_spreadFrom_39 : decode cX3_spreadFrom 39 = .ok (.iadd, 1) := by decide +kernel
theorem dX3_spreadFrom_40 : decode cX3_spreadFrom 40 = .ok (.aload_n 0, 1) := by decide +kernel
theorem dX3_spreadFrom_41 : decode cX3_spreadFrom 41 = .ok (.getfield 33, 3) := by decide +kernel
theorem dX3_spreadFrom_44 : decode cX3_spreadFrom 44 = .ok (.iload_n 3, 1) := by decide +kernel
theorem dX3_spreadFrom_45 : decode cX3_spreadFrom 45 = .ok (.iaload, 1) := by decide +kernel
theorem dX3_spreadFrom_46 : decode cX3_spreadFrom 46 = .ok (.if_icmp .ge 27, 3) := by decide +kernel
theorem dX3_spreadFrom_49 : decode cX3_spreadFrom 49 = .ok (.aload_n 0, 1) := by decide +kernel
theorem dX3_spreadFrom_50 : decode cX3_spreadFrom 50 = .ok (.getfield 33, 3) := by decide +kernel
theorem dX3_spreadFrom_53 : decode cX3_spreadFrom 53 = .ok (.iload_n 3, 1) := by decide +kernel
theorem dX3_spreadFrom_54 : decode cX3_spreadFrom 54 = .ok (.aload_n 0, 1) := by decide +kernel
theorem dX3_spreadFrom_55 : decode cX3_spreadFrom 55 = .ok (.getfield 33, 3) := by decide +kernel
theorem dX3_spreadFrom_58 : decode cX3_spreadFrom 58 = .ok (.iload_n 1, 1) := by decide +kernel
theorem dX3_spreadFrom_59 : decode cX3_spreadFrom 59 = .ok (.iaload, 1) := by decide +kernel
theorem dX3_spreadFrom_60 : decode cX3_spreadFrom 60 = .ok (.iload 4, 2) := by decide +kernel
theorem dX3_spreadFrom_62 : decode cX3_spreadFrom 62 = .ok (.iadd, 1) := by decide +kernel
theorem dX3_spreadFrom_63 : decode cX3_spreadFrom 63 = .ok (.iastore, 1) := by decide +kernel
theorem dX3_spreadFrom_64 : decode cX3_spreadFrom 64 = .ok (.aload_n 0, 1) := by decide +kernel
theorem dX3_spreadFrom_65 : decode cX3_spreadFrom 65 = .ok (.getfield 36, 3) := by decide +kernel
theorem dX3_spreadFrom_68 : decode cX3_spreadFrom 68 = .ok (.iload_n 3, 1) := by decide +kernel
theorem dX3_spreadFrom_69 : decode cX3_spreadFrom 69 = .ok (.iload_n 1, 1) := by decide +kernel
theorem dX3_spreadFrom_70 : decode cX3_spreadFrom 70 = .ok (.iastore, 1) := by decide +kernel
theorem dX3_spreadFrom_71 : decode cX3_spreadFrom 71 = .ok (.iconst 1, 1) := by decide +kernel
theorem dX3_spreadFrom_72 : decode cX3_spreadFrom 72 = .ok (.istore_n 2, 1) := by decide +kernel
theorem dX3_spreadFrom_73 : decode cX3_spreadFrom 73 = .ok (.iinc 3 1, 3) := by decide +kernel
theorem dX3_spreadFrom_76 : decode cX3_spreadFrom 76 = .ok (.goto (-72), 3) := by decide +kernel
theorem dX3_spreadFrom_79 : decode cX3_spreadFrom 79 = .ok (.iload_n 2, 1) := by decide +kernel
theorem dX3_spreadFrom_80 : decode cX3_spreadFrom 80 = .ok (.ireturn, 1) := by decide +kernel
theorem dX3_cheapestWithRoom_0 : decode cX3_cheapestWithRoom 0 = .ok (.iconst (-1), 1) := by decide +kernel
theorem dX3_cheapestWithRoom_1 : decode cX3_cheapestWithRoom 1 = .ok (.istore_n 1, 1) := by decide +kernel
theorem dX3_cheapestWithRoom_2 : decode cX3_cheapestWithRoom 2 = .ok (.iconst 0, 1) := by decide +kernel
theorem dX3_cheapestWithRoom_3 : decode cX3_cheapestWithRoom 3 = .ok (.istore_n 2, 1) := by decide +kernel
theorem dX3_cheapestWithRoom_4 : decode cX3_cheapestWithRoom 4 = .ok (.iload_n 2, 1) := by decide +kernel
theorem dX3_cheapestWithRoom_5 : decode cX3_cheapestWithRoom 5 = .ok (.aload_n 0, 1) := by decide +kernel
theorem dX3_cheapestWithRoom_6 : decode cX3_cheapestWithRoom 6 = .ok (.getfield 52, 3) := by decide +kernel
theorem dX3_cheapestWithRoom_9 : decode cX3_cheapestWithRoom 9 = .ok (.if_icmp .ge 66, 3) := by decide +kernel
theorem dX3_cheapestWithRoom_12 : decode cX3_cheapestWithRoom 12 = .ok (.aload_n 0, 1) := by decide +kernel
theorem dX3_cheapestWithRoom_13 : decode cX3_cheapestWithRoom 13 = .ok (.getfield 24, 3) := by decide +kernel
theorem dX3_cheapestWithRoom_16 : decode cX3_cheapestWithRoom 16 = .ok (.iload_n 2, 1) := by decide +kernel
theorem dX3_cheapestWithRoom_17 : decode cX3_cheapestWithRoom 17 = .ok (.iaload, 1) := by decide +kernel
theorem dX3_cheapestWithRoom_18 : decode cX3_cheapestWithRoom 18 = .ok (.aload_n 0, 1) := by decide +kernel
theorem dX3_cheapestWithRoom_19 : decode cX3_cheapestWithRoom 19 = .ok (.getfield 21, 3) := by decide +kernel
theorem dX3_cheapestWithRoom_22 : decode cX3_cheapestWithRoom 22 = .ok (.iload_n 2, 1) := by decide +kernel
theorem dX3_cheapestWithRoom_23 : decode cX3_cheapestWithRoom 23 = .ok (.iaload, 1) := by decide +kernel
theorem dX3_cheapestWithRoom_24 : decode cX3_cheapestWithRoom 24 = .ok (.if_icmp .ge 18, 3) := by decide +kernel
theorem dX3_cheapestWithRoom_27 : decode cX3_cheapestWithRoom 27 = .ok (.aload_n 0, 1) := by decide +kernel
theorem dX3_cheapestWithRoom_28 : decode cX3_cheapestWithRoom 28 = .ok (.getfield 33, 3) := by decide +kernel
theorem dX3_cheapestWithRoom_31 : decode cX3_cheapestWithRoom 31 = .ok (.iload_n 2, 1) := by decide +kernel
theorem dX3_cheapestWithRoom_32 : decode cX3_cheapestWithRoom 32 = .ok (.iaload, 1) := by decide +kernel
theorem dX3_cheapestWithRoom_33 : decode cX3_cheapestWithRoom 33 = .ok (.ldc 84, 2) := by decide +kernel
theorem dX3_cheapestWithRoom_35 : decode cX3_cheapestWithRoom 35 = .ok (.if_icmp .ge 7, 3) := by decide +kernel
theorem dX3_cheapestWithRoom_38 : decode cX3_cheapestWithRoom 38 = .ok (.iconst 1, 1) := by decide +kernel
theorem dX3_cheapestWithRoom_39 : decode cX3_cheapestWithRoom 39 = .ok (.goto 4, 3) := by decide +kernel
theorem dX3_cheapestWithRoom_42 : decode cX3_cheapestWithRoom 42 = .ok (.iconst 0, 1) := by decide +kernel
theorem dX3_cheapestWithRoom_43 : decode cX3_cheapestWithRoom 43 = .ok (.istore_n 3, 1) := by decide +kernel
theorem dX3_cheapestWithRoom_44 : decode cX3_cheapestWithRoom 44 = .ok (.iload_n 3, 1) := by decide +kernel
theorem dX3_cheapestWithRoom_45 : decode cX3_cheapestWithRoom 45 = .ok (.ifCond .eq 24, 3) := by decide +kernel
theorem dX3_cheapestWithRoom_48 : decode cX3_cheapestWithRoom 48 = .ok (.iload_n 1, 1) := by decide +kernel
theorem dX3_cheapestWithRoom_49 : decode cX3_cheapestWithRoom 49 = .ok (.ifCond .lt 18, 3) := by decide +kernel
theorem dX3_cheapestWithRoom_52 : decode cX3_cheapestWithRoom 52 = .ok (.aload_n 0, 1) := by decide +kernel
theorem dX3_cheapestWithRoom_53 : decode cX3_cheapestWithRoom 53 = .ok (.getfield 33, 3) := by decide +kernel
theorem dX3_cheapestWithRoom_56 : decode cX3_cheapestWithRoom 56 = .ok (.iload_n 2, 1) := by decide +kernel
theorem dX3_cheapestWithRoom_57 : decode cX3_cheapestWithRoom 57 = .ok (.iaload, 1) := by decide +kernel
theorem dX3_cheapestWithRoom_58 : decode cX3_cheapestWithRoom 58 = .ok (.aload_n 0, 1) := by decide +kernel
theorem dX3_cheapestWithRoom_59 : decode cX3_cheapestWithRoom 59 = .ok (.getfield 33, 3) := by decide +kernel
theorem dX3_cheapestWithRoom_62 : decode cX3_cheapestWithRoom 62 = .ok (.iload_n 1, 1) := by decide +kernel
theorem dX3_cheapestWithRoom_63 : decode cX3_cheapestWithRoom 63 = .ok (.iaload, 1) := by decide +kernel
theorem dX3_cheapestWithRoom_64 : decode cX3_cheapestWithRoom 64 = .ok (.if_icmp .ge 5, 3) := by decide +kernel
theorem dX3_cheapestWithRoom_67 : decode cX3_cheapestWithRoom 67 = .ok (.iload_n 2, 1) := by decide +kernel
theorem dX3_cheapestWithRoom_68 : decode cX3_cheapestWithRoom 68 = .ok (.istore_n 1, 1) := by decide +kernel
theorem dX3_cheapestWithRoom_69 : decode cX3_cheapestWithRoom 69 = .ok (.iinc 2 1, 3) := by decide +kernel
theorem dX3_cheapestWithRoom_72 : decode cX3_cheapestWithRoom 72 = .ok (.goto (-68), 3) := by decide +kernel
theorem dX3_cheapestWithRoom_75 : decode cX3_cheapestWithRoom 75 = .ok (.iload_n 1, 1) := by decide +kernel
theorem dX3_cheapestWithRoom_76 : decode cX3_cheapestWithRoom 76 = .ok (.ireturn, 1) := by decide +kernel
theorem dX3_seatAlong_0 : decode cX3_seatAlong 0 = .ok (.iload_n 3, 1) := by decide +kernel
theorem dX3_seatAlong_1 : decode cX3_seatAlong 1 = .ok (.aload_n 0, 1) := by decide +kernel
theorem dX3_seatAlong_2 : decode cX3_seatAlong 2 = .ok (.getfield 21, 3) := by decide +kernel
theorem dX3_seatAlong_5 : decode cX3_seatAlong 5 = .ok (.iload_n 2, 1) := by decide +kernel
theorem dX3_seatAlong_6 : decode cX3_seatAlong 6 = .ok (.iaload, 1) := by decide +kernel
theorem dX3_seatAlong_7 : decode cX3_seatAlong 7 = .ok (.aload_n 0, 1) := by decide +kernel
theorem dX3_seatAlong_8 : decode cX3_seatAlong 8 = .ok (.getfield 24, 3) := by decide +kernel
theorem dX3_seatAlong_11 : decode cX3_seatAlong 11 = .ok (.iload_n 2, 1) := by decide +kernel
theorem dX3_seatAlong_12 : decode cX3_seatAlong 12 = .ok (.iaload, 1) := by decide +kernel
theorem dX3_seatAlong_13 : decode cX3_seatAlong 13 = .ok (.isub, 1) := by decide +kernel
theorem dX3_seatAlong_14 : decode cX3_seatAlong 14 = .ok (.invokestatic 117, 3) := by decide +kernel
theorem dX3_seatAlong_17 : decode cX3_seatAlong 17 = .ok (.istore 4, 2) := by decide +kernel
theorem dX3_seatAlong_19 : decode cX3_seatAlong 19 = .ok (.iload_n 2, 1) := by decide +kernel
theorem dX3_seatAlong_20 : decode cX3_seatAlong 20 = .ok (.istore 5, 2) := by decide +kernel
theorem dX3_seatAlong_22 : decode cX3_seatAlong 22 = .ok (.iconst 0, 1) := by decide +kernel
theorem dX3_seatAlong_23 : decode cX3_seatAlong 23 = .ok (.istore 6, 2) := by decide +kernel
theorem dX3_seatAlong_25 : decode cX3_seatAlong 25 = .ok (.iload 6, 2) := by decide +kernel
theorem dX3_seatAlong_27 : decode cX3_seatAlong 27 = .ok (.aload_n 0, 1) := by decide +kernel
theorem dX3_seatAlong_28 : decode cX3_seatAlong 28 = .ok (.getfield 52, 3) := by decide +kernel
theorem dX3_seatAlong_31 : decode cX3_seatAlong 31 = .ok (.if_icmp .ge 56, 3) := by decide +kernel
theorem dX3_seatAlong_34 : decode cX3_seatAlong 34 = .ok (.aload_n 0, 1) := by decide +kernel
theorem dX3_seatAlong_35 : decode cX3_seatAlong 35 = .ok (.getfield 36, 3) := by decide +kernel
theorem dX3_seatAlong_38 : decode cX3_seatAlong 38 = .ok (.iload 5, 2) := by decide +kernel
theorem dX3_seatAlong_40 : decode cX3_seatAlong 40 = .ok (.iaload, 1) := by decide +kernel
theorem dX3_seatAlong_41 : decode cX3_seatAlong 41 = .ok (.ifCond .lt 46, 3) := by decide +kernel
theorem dX3_seatAlong_44 : decode cX3_seatAlong 44 = .ok (.iload 4, 2) := by decide +kernel
theorem dX3_seatAlong_46 : decode cX3_seatAlong 46 = .ok (.aload_n 0, 1) := by decide +kernel
theorem dX3_seatAlong_47 : decode cX3_seatAlong 47 = .ok (.getfield 15, 3) := by decide +kernel
theorem dX3_seatAlong_50 : decode cX3_seatAlong 50 = .ok (.aload_n 0, 1) := by decide +kernel
theorem dX3_seatAlong_51 : decode cX3_seatAlong 51 = .ok (.iload 5, 2) := by decide +kernel
theorem dX3_seatAlong_53 : decode cX3_seatAlong 53 = .ok (.invokevirtual 123, 3) := by decide +kernel
theorem dX3_seatAlong_56 : decode cX3_seatAlong 56 = .ok (.iconst 5, 1) := by decide +kernel
theorem dX3_seatAlong_57 : decode cX3_seatAlong 57 = .ok (.imul, 1) := by decide +kernel
theorem dX3_seatAlong_58 : decode cX3_seatAlong 58 = .ok (.aload_n 0, 1) := by decide +kernel
theorem dX3_seatAlong_59 : decode cX3_seatAlong 59 = .ok (.getfield 36, 3) := by decide +kernel
theorem dX3_seatAlong_62 : decode cX3_seatAlong 62 = .ok (.iload 5, 2) := by decide +kernel
theorem dX3_seatAlong_64 : decode cX3_seatAlong 64 = .ok (.iaload, 1) := by decide +kernel
theorem dX3_seatAlong_65 : decode cX3_seatAlong 65 = .ok (.iadd, 1) := by decide +kernel
theorem dX3_seatAlong_66 : decode cX3_seatAlong 66 = .ok (.iaload, 1) := by decide +kernel
theorem dX3_seatAlong_67 : decode cX3_seatAlong 67 = .ok (.invokestatic 117, 3) := by decide +kernel
theorem dX3_seatAlong_70 : decode cX3_seatAlong 70 = .ok (.istore 4, 2) := by decide +kernel
theorem dX3_seatAlong_72 : decode cX3_seatAlong 72 = .ok (.aload_n 0, 1) := by decide +kernel
theorem dX3_seatAlong_73 : decode cX3_seatAlong 73 = .ok (.getfield 36, 3) := by decide +kernel
theorem dX3_seatAlong_76 : decode cX3_seatAlong 76 = .ok (.iload 5, 2) := by decide +kernel
theorem dX3_seatAlong_78 : decode cX3_seatAlong 78 = .ok (.iaload, 1) := by decide +kernel
theorem dX3_seatAlong_79 : decode cX3_seatAlong 79 = .ok (.istore 5, 2) := by decide +kernel
theorem dX3_seatAlong_81 : decode cX3_seatAlong 81 = .ok (.iinc 6 1, 3) := by decide +kernel
theorem dX3_seatAlong_84 : decode cX3_seatAlong 84 = .ok (.goto (-59), 3) := by decide +kernel
theorem dX3_seatAlong_87 : decode cX3_seatAlong 87 = .ok (.iload_n 2, 1) := by decide +kernel
theorem dX3_seatAlong_88 : decode cX3_seatAlong 88 = .ok (.istore 5, 2) := by decide +kernel
theorem dX3_seatAlong_90 : decode cX3_seatAlong 90 = .ok (.iconst 0, 1) := by decide +kernel
theorem dX3_seatAlong_91 : decode cX3_seatAlong 91 = .ok (.istore 6, 2) := by decide +kernel
theorem dX3_seatAlong_93 : decode cX3_seatAlong 93 = .ok (.iload 6, 2) := by decide +kernel
theorem dX3_seatAlong_95 : decode cX3_seatAlong 95 = .ok (.aload_n 0, 1) := by decide +kernel
theorem dX3_seatAlong_96 : decode cX3_seatAlong 96 = .ok (.getfield 52, 3) := by decide +kernel
theorem dX3_seatAlong_99 : decode cX3_seatAlong 99 = .ok (.if_icmp .ge 68, 3) := by decide +kernel
theorem dX3_seatAlong_102 : decode cX3_seatAlong 102 = .ok (.aload_n 0, 1) := by decide +kernel
theorem dX3_seatAlong_103 : decode cX3_seatAlong 103 = .ok (.getfield 36, 3) := by decide +kernel
theorem dX3_seatAlong_106 : decode cX3_seatAlong 106 = .ok (.iload 5, 2) := by decide +kernel
theorem dX3_seatAlong_108 : decode cX3_seatAlong 108 = .ok (.iaload, 1) := by decide +kernel
theorem dX3_seatAlong_109 : decode cX3_seatAlong 109 = .ok (.ifCond .lt 58, 3) := by decide +kernel
theorem dX3_seatAlong_112 : decode cX3_seatAlong 112 = .ok (.aload_n 0, 1) := by decide +kernel
theorem dX3_seatAlong_113 : decode cX3_seatAlong 113 = .ok (.iload 5, 2) := by decide +kernel
theorem dX3_seatAlong_115 : decode cX3_seatAlong 115 = .ok (.invokevirtual 123, 3) := by decide +kernel
theorem dX3_seatAlong_118 : decode cX3_seatAlong 118 = .ok (.iconst 5, 1) := by decide +kernel
theorem dX3_seatAlong_119 : decode cX3_seatAlong 119 = .ok (.imul, 1) := by decide +kernel
theorem dX3_seatAlong_120 : decode cX3_seatAlong 120 = .ok (.istore 7, 2) := by decide +kernel
theorem dX3_seatAlong_122 : decode cX3_seatAlong 122 = .ok (.aload_n 0, 1) := by decide +kernel
theorem dX3_seatAlong_123 : decode cX3_seatAlong 123 = .ok (.getfield 15, 3) := by decide +kernel
theorem dX3_seatAlong_126 : decode cX3_seatAlong 126 = .ok (.iload 7, 2) := by decide +kernel
theorem dX3_seatAlong_128 : decode cX3_seatAlong 128 = .ok (.iload 5, 2) := by decide +kernel
theorem dX3_seatAlong_130 : decode cX3_seatAlong 130 = .ok (.iadd, 1) := by decide +kernel
theorem dX3_seatAlong_131 : decode cX3_seatAlong 131 = .ok (.dup2, 1) := by decide +kernel
theorem dX3_seatAlong_132 : decode cX3_seatAlong 132 = .ok (.iaload, 1) := by decide +kernel
theorem dX3_seatAlong_133 : decode cX3_seatAlong 133 = .ok (.iload 4, 2) := by decide +kernel
theorem dX3_seatAlong_135 : decode cX3_seatAlong 135 = .ok (.iadd, 1) := by decide +kernel
theorem dX3_seatAlong_136 : decode cX3_seatAlong 136 = .ok (.iastore, 1) := by decide +kernel
theorem dX3_seatAlong_137 : decode cX3_seatAlong 137 = .ok (.aload_n 0, 1) := by decide +kernel
theorem dX3_seatAlong_138 : decode cX3_seatAlong 138 = .ok (.getfield 36, 3) := by decide +kernel
theorem dX3_seatAlong_141 : decode cX3_seatAlong 141 = .ok (.iload 5, 2) := by decide +kernel
theorem dX3_seatAlong_143 : decode cX3_seatAlong 143 = .ok (.iaload, 1) := by decide +kernel
theorem dX3_seatAlong_144 : decode cX3_seatAlong 144 = .ok (.istore 5, 2) := by decide +kernel
theorem dX3_seatAlong_146 : decode cX3_seatAlong 146 = .ok (.aload_n 0, 1) := by decide +kernel
theorem dX3_seatAlong_147 : decode cX3_seatAlong 147 = .ok (.getfield 15, 3) := by decide +kernel
theorem dX3_seatAlong_150 : decode cX3_seatAlong 150 = .ok (.iload 7, 2) := by decide +kernel
theorem dX3_seatAlong_152 : decode cX3_seatAlong 152 = .ok (.iload 5, 2) := by decide +kernel
theorem dX3_seatAlong_154 : decode cX3_seatAlong 154 = .ok (.iadd, 1) := by decide +kernel
theorem dX3_seatAlong_155 : decode cX3_seatAlong 155 = .ok (.dup2, 1) := by decide +kernel
theorem dX3_seatAlong_156 : decode cX3_seatAlong 156 = .ok (.iaload, 1) := by decide +kernel
theorem dX3_seatAlong_157 : decode cX3_seatAlong 157 = .ok (.iload 4, 2) := by decide +kernel
theorem dX3_seatAlong_159 : decode cX3_seatAlong 159 = .ok (.isub, 1) := by decide +kernel
theorem dX3_seatAlong_160 : decode cX3_seatAlong 160 = .ok (.iastore, 1) := by decide +kernel
theorem dX3_seatAlong_161 : decode cX3_seatAlong 161 = .ok (.iinc 6 1, 3) := by decide +kernel
theorem dX3_seatAlong_164 : decode cX3_seatAlong 164 = .ok (.goto (-71), 3) := by decide +kernel
theorem dX3_seatAlong_167 : decode cX3_seatAlong 167 = .ok (.aload_n 0, 1) := by decide +kernel
theorem dX3_seatAlong_168 : decode cX3_seatAlong 168 = .ok (.getfield 15, 3) := by decide +kernel
theorem dX3_seatAlong_171 : decode cX3_seatAlong 171 = .ok (.iload_n 1, 1) := by decide +kernel
theorem dX3_seatAlong_172 : decode cX3_seatAlong 172 = .ok (.iconst 5, 1) := by decide +kernel
theorem dX3_seatAlong_173 : decode cX3_seatAlong 173 = .ok (.imul, 1) := by decide +kernel
theorem dX3_seatAlong_174 : decode cX3_seatAlong 174 = .ok (.iload 5, 2) := by decide +kernel
theorem dX3_seatAlong_176 : decode cX3_seatAlong 176 = .ok (.iadd, 1) := by decide +kernel
theorem dX3_seatAlong_177 : decode cX3_seatAlong 177 = .ok (.dup2, 1) := by decide +kernel
theorem dX3_seatAlong_178 : decode cX3_seatAlong 178 = .ok (.iaload, 1) := by decide +kernel
theorem dX3_seatAlong_179 : decode cX3_seatAlong 179 = .ok (.iload 4, 2) := by decide +kernel
theorem dX3_seatAlong_181 : decode cX3_seatAlong 181 = .ok (.iadd, 1) := by decide +kernel
theorem dX3_seatAlong_182 : decode cX3_seatAlong 182 = .ok (.iastore, 1) := by decide +kernel
theorem dX3_seatAlong_183 : decode cX3_seatAlong 183 = .ok (.aload_n 0, 1) := by decide +kernel
theorem dX3_seatAlong_184 : decode cX3_seatAlong 184 = .ok (.getfield 24, 3) := by decide +kernel
theorem dX3_seatAlong_187 : decode cX3_seatAlong 187 = .ok (.iload_n 2, 1) := by decide +kernel
theorem dX3_seatAlong_188 : decode cX3_seatAlong 188 = .ok (.dup2, 1) := by decide +kernel
theorem dX3_seatAlong_189 : decode cX3_seatAlong 189 = .ok (.iaload, 1) := by decide +kernel
theorem dX3_seatAlong_190 : decode cX3_seatAlong 190 = .ok (.iload 4, 2) := by decide +kernel
theorem dX3_seatAlong_192 : decode cX3_seatAlong 192 = .ok (.iadd, 1) := by decide +kernel
theorem dX3_seatAlong_193 : decode cX3_seatAlong 193 = .ok (.iastore, 1) := by decide +kernel
theorem dX3_seatAlong_194 : decode cX3_seatAlong 194 = .ok (.iload 4, 2) := by decide +kernel
theorem dX3_seatAlong_196 : decode cX3_seatAlong 196 = .ok (.ireturn, 1) := by decide +kernel
theorem dX3_moverTo_0 : decode cX3_moverTo 0 = .ok (.aload_n 0, 1) := by decide +kernel
theorem dX3_moverTo_1 : decode cX3_moverTo 1 = .ok (.getfield 30, 3) := by decide +kernel
theorem dX3_moverTo_4 : decode cX3_moverTo 4 = .ok (.aload_n 0, 1) := by decide +kernel
theorem dX3_moverTo_5 : decode cX3_moverTo 5 = .ok (.getfield 36, 3) := by decide +kernel
theorem dX3_moverTo_8 : decode cX3_moverTo 8 = .ok (.iload_n 1, 1) := by decide +kernel
theorem dX3_moverTo_9 : decode cX3_moverTo 9 = .ok (.iaload, 1) := by decide +kernel
theorem dX3_moverTo_10 : decode cX3_moverTo 10 = .ok (.iconst 5, 1) := by decide +kernel
theorem dX3_moverTo_11 : decode cX3_moverTo 11 = .ok (.imul, 1) := by decide +kernel
theorem dX3_moverTo_12 : decode cX3_moverTo 12 = .ok (.iload_n 1, 1) := by decide +kernel
theorem dX3_moverTo_13 : decode cX3_moverTo 13 = .ok (.iadd, 1) := by decide +kernel
theorem dX3_moverTo_14 : decode cX3_moverTo 14 = .ok (.iaload, 1) := by decide +kernel
theorem dX3_moverTo_15 : decode cX3_moverTo 15 = .ok (.ireturn, 1) := by decide +kernel
theorem dX3_weigh_0 : decode cX3_weigh 0 = .ok (.aload_n 0, 1) := by decide +kernel
theorem dX3_weigh_1 : decode cX3_weigh 1 = .ok (.invokevirtual 93, 3) := by decide +kernel
theorem dX3_weigh_4 : decode cX3_weigh 4 = .ok (.iconst 0, 1) := by decide +kernel
theorem dX3_weigh_5 : decode cX3_weigh 5 = .ok (.istore_n 1, 1) := by decide +kernel
theorem dX3_weigh_6 : decode cX3_weigh 6 = .ok (.iload_n 1, 1) := by decide +kernel
theorem dX3_weigh_7 : decode cX3_weigh 7 = .ok (.aload_n 0, 1) := by decide +kernel
theorem dX3_weigh_8 : decode cX3_weigh 8 = .ok (.getfield 52, 3) := by decide +kernel
theorem dX3_weigh_11 : decode cX3_weigh 11 = .ok (.if_icmp .ge 37, 3) := by decide +kernel
theorem dX3_weigh_14 : decode cX3_weigh 14 = .ok (.aload_n 0, 1) := by decide +kernel
theorem dX3_weigh_15 : decode cX3_weigh 15 = .ok (.getfield 33, 3) := by decide +kernel
theorem dX3_weigh_18 : decode cX3_weigh 18 = .ok (.iload_n 1, 1) := by decide +kernel
theorem dX3_weigh_19 : decode cX3_weigh 19 = .ok (.aload_n 0, 1) := by decide +kernel
theorem dX3_weigh_20 : decode cX3_weigh 20 = .ok (.getfield 24, 3) := by decide +kernel
theorem dX3_weigh_23 : decode cX3_weigh 23 = .ok (.iload_n 1, 1) := by decide +kernel
theorem dX3_weigh_24 : decode cX3_weigh 24 = .ok (.iaload, 1) := by decide +kernel
theorem dX3_weigh_25 : decode cX3_weigh 25 = .ok (.ifCond .le 7, 3) := by decide +kernel
theorem dX3_weigh_28 : decode cX3_weigh 28 = .ok (.iconst 0, 1) := by decide +kernel
theorem dX3_weigh_29 : decode cX3_weigh 29 = .ok (.goto 5, 3) := by decide +kernel
theorem dX3_weigh_32 : decode cX3_weigh 32 = .ok (.ldc 84, 2) := by decide +kernel
theorem dX3_weigh_34 : decode cX3_weigh 34 = .ok (.iastore, 1) := by decide +kernel
theorem dX3_weigh_35 : decode cX3_weigh 35 = .ok (.aload_n 0, 1) := by decide +kernel
theorem dX3_weigh_36 : decode cX3_weigh 36 = .ok (.getfield 36, 3) := by decide +kernel
theorem dX3_weigh_39 : decode cX3_weigh 39 = .ok (.iload_n 1, 1) := by decide +kernel
theorem dX3_weigh_40 : decode cX3_weigh 40 = .ok (.iconst (-1), 1) := by decide +kernel
theorem dX3_weigh_41 : decode cX3_weigh 41 = .ok (.iastore, 1) := by decide +kernel
theorem dX3_weigh_42 : decode cX3_weigh 42 = .ok (.iinc 1 1, 3) := by decide +kernel
theorem dX3_weigh_45 : decode cX3_weigh 45 = .ok (.goto (-39), 3) := by decide +kernel
theorem dX3_weigh_48 : decode cX3_weigh 48 = .ok (.aload_n 0, 1) := by decide +kernel
theorem dX3_weigh_49 : decode cX3_weigh 49 = .ok (.invokevirtual 100, 3) := by decide +kernel
theorem dX3_weigh_52 : decode cX3_weigh 52 = .ok (.iconst 0, 1) := by decide +kernel
theorem dX3_weigh_53 : decode cX3_weigh 53 = .ok (.istore_n 1, 1) := by decide +kernel
theorem dX3_weigh_54 : decode cX3_weigh 54 = .ok (.iload_n 1, 1) := by decide +kernel
theorem dX3_weigh_55 : decode cX3_weigh 55 = .ok (.aload_n 0, 1) := by decide +kernel
theorem dX3_weigh_56 : decode cX3_weigh 56 = .ok (.getfield 52, 3) := by decide +kernel
theorem dX3_weigh_59 : decode cX3_weigh 59 = .ok (.if_icmp .ge 26, 3) := by decide +kernel
theorem dX3_weigh_62 : decode cX3_weigh 62 = .ok (.aload_n 0, 1) := by decide +kernel
theorem dX3_weigh_63 : decode cX3_weigh 63 = .ok (.getfield 39, 3) := by decide +kernel
theorem dX3_weigh_66 : decode cX3_weigh 66 = .ok (.iload_n 1, 1) := by decide +kernel
theorem dX3_weigh_67 : decode cX3_weigh 67 = .ok (.iconst 0, 1) := by decide +kernel
theorem dX3_weigh_68 : decode cX3_weigh 68 = .ok (.aload_n 0, 1) := by decide +kernel
theorem dX3_weigh_69 : decode cX3_weigh 69 = .ok (.getfield 33, 3) := by decide +kernel
theorem dX3_weigh_72 : decode cX3_weigh 72 = .ok (.iload_n 1, 1) := by decide +kernel
theorem dX3_weigh_73 : decode cX3_weigh 73 = .ok (.iaload, 1) := by decide +kernel
theorem dX3_weigh_74 : decode cX3_weigh 74 = .ok (.ineg, 1) := by decide +kernel
theorem dX3_weigh_75 : decode cX3_weigh 75 = .ok (.invokestatic 127, 3) := by decide +kernel
theorem dX3_weigh_78 : decode cX3_weigh 78 = .ok (.iastore, 1) := by decide +kernel
theorem dX3_weigh_79 : decode cX3_weigh 79 = .ok (.iinc 1 1, 3) := by decide +kernel
theorem dX3_weigh_82 : decode cX3_weigh 82 = .ok (.goto (-28), 3) := by decide +kernel
theorem dX3_weigh_85 : decode cX3_weigh 85 = .ok (.return_, 1) := by decide +kernel
theorem dX3_lineOf_0 : decode cX3_lineOf 0 = .ok (.ldc 84, 2) := by decide +kernel
theorem dX3_lineOf_2 : decode cX3_lineOf 2 = .ok (.istore_n 2, 1) := by decide +kernel
theorem dX3_lineOf_3 : decode cX3_lineOf 3 = .ok (.iconst 0, 1) := by decide +kernel
theorem dX3_lineOf_4 : decode cX3_lineOf 4 = .ok (.istore_n 3, 1) := by decide +kernel
theorem dX3_lineOf_5 : decode cX3_lineOf 5 = .ok (.iconst 0, 1) := by decide +kernel
theorem dX3_lineOf_6 : decode cX3_lineOf 6 = .ok (.istore 4, 2) := by decide +kernel
theorem dX3_lineOf_8 : decode cX3_lineOf 8 = .ok (.iload 4, 2) := by decide +kernel
theorem dX3_lineOf_10 : decode cX3_lineOf 10 = .ok (.aload_n 0, 1) := by decide +kernel
theorem dX3_lineOf_11 : decode cX3_lineOf 11 = .ok (.getfield 52, 3) := by decide +kernel
theorem dX3_lineOf_14 : decode cX3_lineOf 14 = .ok (.if_icmp .ge 75, 3) := by decide +kernel
theorem dX3_lineOf_17 : decode cX3_lineOf 17 = .ok (.aload_n 0, 1) := by decide +kernel
theorem dX3_lineOf_18 : decode cX3_lineOf 18 = .ok (.getfield 9, 3) := by decide +kernel
theorem dX3_lineOf_21 : decode cX3_lineOf 21 = .ok (.iload_n 1, 1) := by decide +kernel
theorem dX3_lineOf_22 : decode cX3_lineOf 22 = .ok (.iconst 5, 1) := by decide +kernel
theorem dX3_lineOf_23 : decode cX3_lineOf 23 = .ok (.imul, 1) := by decide +kernel
theorem dX3_lineOf_24 : decode cX3_lineOf 24 = .ok (.iload 4, 2) := by decide +kernel
theorem dX3_lineOf_26 : decode cX3_lineOf 26 = .ok (.iadd, 1) := by decide +kernel
theorem dX3_lineOf_27 : decode cX3_lineOf 27 = .ok (.iaload, 1) := by decide +kernel
theorem dX3_lineOf_28 : decode cX3_lineOf 28 = .ok (.aload_n 0, 1) := by decide +kernel
theorem dX3_lineOf_29 : decode cX3_lineOf 29 = .ok (.getfield 39, 3) := by decide +kernel
theorem dX3_lineOf_32 : decode cX3_lineOf 32 = .ok (.iload 4, 2) := by decide +kernel
theorem dX3_lineOf_34 : decode cX3_lineOf 34 = .ok (.iaload, 1) := by decide +kernel
theorem dX3_lineOf_35 : decode cX3_lineOf 35 = .ok (.iadd, 1) := by decide +kernel
theorem dX3_lineOf_36 : decode cX3_lineOf 36 = .ok (.istore 5, 2) := by decide +kernel
theorem dX3_lineOf_38 : decode cX3_lineOf 38 = .ok (.aload_n 0, 1) := by decide +kernel
theorem dX3_lineOf_39 : decode cX3_lineOf 39 = .ok (.getfield 9, 3) := by decide +kernel
theorem dX3_lineOf_42 : decode cX3_lineOf 42 = .ok (.iload_n 1, 1) := by decide +kernel
theorem dX3_lineOf_43 : decode cX3_lineOf 43 = .ok (.iconst 5, 1) := by decide +kernel
theorem dX3_lineOf_44 : decode cX3_lineOf 44 = .ok (.imul, 1) := by decide +kernel
theorem dX3_lineOf_45 : decode cX3_lineOf 45 = .ok (.iload 4, 2) := by decide +kernel
theorem dX3_lineOf_47 : decode cX3_lineOf 47 = .ok (.iadd, 1) := by decide +kernel
theorem dX3_lineOf_48 : decode cX3_lineOf 48 = .ok (.iaload, 1) := by decide +kernel
theorem dX3_lineOf_49 : decode cX3_lineOf 49 = .ok (.ldc 84, 2) := by decide +kernel
theorem dX3_lineOf_51 : decode cX3_lineOf 51 = .ok (.if_icmp .ge 32, 3) := by decide +kernel
theorem dX3_lineOf_54 : decode cX3_lineOf 54 = .ok (.iload 5, 2) := by decide +kernel
theorem dX3_lineOf_56 : decode cX3_lineOf 56 = .ok (.iload_n 2, 1) := by decide +kernel
theorem dX3_lineOf_57 : decode cX3_lineOf 57 = .ok (.if_icmp .gt 26, 3) := by decide +kernel
theorem dX3_lineOf_60 : decode cX3_lineOf 60 = .ok (.iload 5, 2) := by decide +kernel
theorem dX3_lineOf_62 : decode cX3_lineOf 62 = .ok (.iload_n 2, 1) := by decide +kernel
theorem dX3_lineOf_63 : decode cX3_lineOf 63 = .ok (.if_icmp .ge 10, 3) := by decide +kernel
theorem dX3_lineOf_66 : decode cX3_lineOf 66 = .ok (.iconst 1, 1) := by decide +kernel
theorem dX3_lineOf_67 : decode cX3_lineOf 67 = .ok (.iload 4, 2) := by decide +kernel
theorem dX3_lineOf_69 : decode cX3_lineOf 69 = .ok (.ishl, 1) := by decide +kernel
theorem dX3_lineOf_70 : decode cX3_lineOf 70 = .ok (.goto 9, 3) := by decide +kernel
theorem dX3_lineOf_73 : decode cX3_lineOf 73 = .ok (.iload_n 3, 1) := by decide +kernel
theorem dX3_lineOf_74 : decode cX3_lineOf 74 = .ok (.iconst 1, 1) := by decide +kernel
theorem dX3_lineOf_75 : decode cX3_lineOf 75 = .ok (.iload 4, 2) := by decide +kernel
theorem dX3_lineOf_77 : decode cX3_lineOf 77 = .ok (.ishl, 1) := by decide +kernel
theorem dX3_lineOf_78 : decode cX3_lineOf 78 = .ok (.ior, 1) := by decide +kernel
theorem dX3_lineOf_79 : decode cX3_lineOf 79 = .ok (.istore_n 3, 1) := by decide +kernel
theorem dX3_lineOf_80 : decode cX3_lineOf 80 = .ok (.iload 5, 2) := by decide +kernel
theorem dX3_lineOf_82 : decode cX3_lineOf 82 = .ok (.istore_n 2, 1) := by decide +kernel
theorem dX3_lineOf_83 : decode cX3_lineOf 83 = .ok (.iinc 4 1, 3) := by decide +kernel
theorem dX3_lineOf_86 : decode cX3_lineOf 86 = .ok (.goto (-78), 3) := by decide +kernel
theorem dX3_lineOf_89 : decode cX3_lineOf 89 = .ok (.iload_n 3, 1) := by decide +kernel
theorem dX3_lineOf_90 : decode cX3_lineOf 90 = .ok (.ireturn, 1) := by decide +kernel
theorem dX3_longest_0 : decode cX3_longest 0 = .ok (.iconst 0, 1) := by decide +kernel
theorem dX3_longest_1 : decode cX3_longest 1 = .ok (.istore_n 1, 1) := by decide +kernel
theorem dX3_longest_2 : decode cX3_longest 2 = .ok (.iconst 0, 1) := by decide +kernel
theorem dX3_longest_3 : decode cX3_longest 3 = .ok (.istore_n 2, 1) := by decide +kernel
theorem dX3_longest_4 : decode cX3_longest 4 = .ok (.iload_n 2, 1) := by decide +kernel
theorem dX3_longest_5 : decode cX3_longest 5 = .ok (.aload_n 0, 1) := by decide +kernel
theorem dX3_longest_6 : decode cX3_longest 6 = .ok (.getfield 15, 3) := by decide +kernel
theorem dX3_longest_9 : decode cX3_longest 9 = .ok (.arraylength, 1) := by decide +kernel
theorem dX3_longest_10 : decode cX3_longest 10 = .ok (.if_icmp .ge 29, 3) := by decide +kernel
theorem dX3_longest_13 : decode cX3_longest 13 = .ok (.aload_n 0, 1) := by decide +kernel
theorem dX3_longest_14 : decode cX3_longest 14 = .ok (.getfield 15, 3) := by decide +kernel
theorem dX3_longest_17 : decode cX3_longest 17 = .ok (.iload_n 2, 1) := by decide +kernel
theorem dX3_longest_18 : decode cX3_longest 18 = .ok (.iaload, 1) := by decide +kernel
theorem dX3_longest_19 : decode cX3_longest 19 = .ok (.ifCond .le 14, 3) := by decide +kernel
theorem dX3_longest_22 : decode cX3_longest 22 = .ok (.iload_n 1, 1) := by decide +kernel
theorem dX3_longest_23 : decode cX3_longest 23 = .ok (.aload_n 0, 1) := by decide +kernel
theorem dX3_longest_24 : decode cX3_longest 24 = .ok (.getfield 9, 3) := by decide +kernel
theorem dX3_longest_27 : decode cX3_longest 27 = .ok (.iload_n 2, 1) := by decide +kernel
theorem dX3_longest_28 : decode cX3_longest 28 = .ok (.iaload, 1) := by decide +kernel
theorem dX3_longest_29 : decode cX3_longest 29 = .ok (.invokestatic 127, 3) := by decide +kernel
theorem dX3_longest_32 : decode cX3_longest 32 = .ok (.istore_n 1, 1) := by decide +kernel
theorem dX3_longest_33 : decode cX3_longest 33 = .ok (.iinc 2 1, 3) := by decide +kernel
theorem dX3_longest_36 : decode cX3_longest 36 = .ok (.goto (-32), 3) := by decide +kernel
theorem dX3_longest_39 : decode cX3_longest 39 = .ok (.iload_n 1, 1) := by decide +kernel
theorem dX3_longest_40 : decode cX3_longest 40 = .ok (.ireturn, 1) := by decide +kernel
theorem dX4_init_0 : decode cX4_init 0 = .ok (.aload_n 0, 1) := by decide +kernel
theorem dX4_init_1 : decode cX4_init 1 = .ok (.invokespecial 3, 3) := by decide +kernel
theorem dX4_init_4 : decode cX4_init 4 = .ok (.aload_n 0, 1) := by decide +kernel
theorem dX4_init_5 : decode cX4_init 5 = .ok (.bipush 80, 2) := by decide +kernel
theorem dX4_init_7 : decode cX4_init 7 = .ok (.newarray .int, 2) := by decide +kernel
theorem dX4_init_9 : decode cX4_init 9 = .ok (.putfield 9, 3) := by decide +kernel
theorem dX4_init_12 : decode cX4_init 12 = .ok (.return_, 1) := by decide +kernel
theorem dX4_renew_0 : decode cX4_renew 0 = .ok (.iconst 0, 1) := by decide +kernel
theorem dX4_renew_1 : decode cX4_renew 1 = .ok (.istore_n 3, 1) := by decide +kernel
theorem dX4_renew_2 : decode cX4_renew 2 = .ok (.iload_n 3, 1) := by decide +kernel
theorem dX4_renew_3 : decode cX4_renew 3 = .ok (.aload_n 0, 1) := by decide +kernel
theorem dX4_renew_4 : decode cX4_renew 4 = .ok (.getfield 9, 3) := by decide +kernel
theorem dX4_renew_7 : decode cX4_renew 7 = .ok (.arraylength, 1) := by decide +kernel
theorem dX4_renew_8 : decode cX4_renew 8 = .ok (.if_icmp .ge 16, 3) := by decide +kernel
theorem dX4_renew_11 : decode cX4_renew 11 = .ok (.aload_n 0, 1) := by decide +kernel
theorem dX4_renew_12 : decode cX4_renew 12 = .ok (.getfield 9, 3) := by decide +kernel
theorem dX4_renew_15 : decode cX4_renew 15 = .ok (.iload_n 3, 1) := by decide +kernel
theorem dX4_renew_16 : decode cX4_renew 16 = .ok (.iconst 0, 1) := by decide +kernel
theorem dX4_renew_17 : decode cX4_renew 17 = .ok (.iastore, 1) := by decide +kernel
theorem dX4_renew_18 : decode cX4_renew 18 = .ok (.iinc 3 1, 3) := by decide +kernel
theorem dX4_renew_21 : decode cX4_renew 21 = .ok (.goto (-19), 3) := by decide +kernel
theorem dX4_renew_24 : decode cX4_renew 24 = .ok (.aload_n 0, 1) := by decide +kernel
theorem dX4_renew_25 : decode cX4_renew 25 = .ok (.iconst 1, 1) := by decide +kernel
theorem dX4_renew_26 : decode cX4_renew 26 = .ok (.putfield 15, 3) := by decide +kernel
theorem dX4_renew_29 : decode cX4_renew 29 = .ok (.aload_n 0, 1) := by decide +kernel
theorem dX4_renew_30 : decode cX4_renew 30 = .ok (.iload_n 1, 1) := by decide +kernel
theorem dX4_renew_31 : decode cX4_renew 31 = .ok (.putfield 19, 3) := by decide +kernel
theorem dX4_renew_34 : decode cX4_renew 34 = .ok (.aload_n 0, 1) := by decide +kernel
theorem dX4_renew_35 : decode cX4_renew 35 = .ok (.iload_n 2, 1) := by decide +kernel
theorem dX4_renew_36 : decode cX4_renew 36 = .ok (.putfield 23, 3) := by decide +kernel
theorem dX4_renew_39 : decode cX4_renew 39 = .ok (.return_, 1) := by decide +kernel
theorem dX4_hasCell_0 : decode cX4_hasCell 0 = .ok (.iload_n 1, 1) := by decide +kernel
theorem dX4_hasCell_1 : decode cX4_hasCell 1 = .ok (.ifCond .lt 15, 3) := by decide +kernel
theorem dX4_hasCell_4 : decode cX4_hasCell 4 = .ok (.iload_n 1, 1) := by decide +kernel
theorem dX4_hasCell_5 : decode cX4_hasCell 5 = .ok (.aload_n 0, 1) := by decide +kernel
theorem dX4_hasCell_6 : decode cX4_hasCell 6 = .ok (.getfield 23, 3) := by decide +kernel
theorem dX4_hasCell_9 : decode cX4_hasCell 9 = .ok (.if_icmp .ge 7, 3) := by decide +kernel
theorem dX4_hasCell_12 : decode cX4_hasCell 12 = .ok (.iconst 1, 1) := by decide +kernel
theorem dX4_hasCell_13 : decode cX4_hasCell 13 = .ok (.goto 4, 3) := by decide +kernel
theorem dX4_hasCell_16 : decode cX4_hasCell 16 = .ok (.iconst 0, 1) := by decide +kernel
theorem dX4_hasCell_17 : decode cX4_hasCell 17 = .ok (.ireturn, 1) := by decide +kernel
theorem dX4_hasCells_0 : decode cX4_hasCells 0 = .ok (.iload_n 1, 1) := by decide +kernel
theorem dX4_hasCells_1 : decode cX4_hasCells 1 = .ok (.ifCond .lt 25, 3) := by decide +kernel
theorem dX4_hasCells_4 : decode cX4_hasCells 4 = .ok (.iload_n 1, 1) := by decide +kernel
theorem dX4_hasCells_5 : decode cX4_hasCells 5 = .ok (.aload_n 0, 1) := by decide +kernel
theorem dX4_hasCells_6 : decode cX4_hasCells 6 = .ok (.getfield 23, 3) := by decide +kernel
theorem dX4_hasCells_9 : decode cX4_hasCells 9 = .ok (.if_icmp .gt 17, 3) := by decide +kernel
theorem dX4_hasCells_12 : decode cX4_hasCells 12 = .ok (.iload_n 2, 1) := by decide +kernel
theorem dX4_hasCells_13 : decode cX4_hasCells 13 = .ok (.aload_n 0, 1) := by decide +kernel
theorem dX4_hasCells_14 : decode cX4_hasCells 14 = .ok (.getfield 23, 3) := by decide +kernel
theorem dX4_hasCells_17 : decode cX4_hasCells 17 = .ok (.iload_n 1, 1) := by decide +kernel
theorem dX4_hasCells_18 : decode cX4_hasCells 18 = .ok (.isub, 1) := by decide +kernel
theorem dX4_hasCells_19 : decode cX4_hasCells 19 = .ok (.if_icmp .gt 7, 3) := by decide +kernel
theorem dX4_hasCells_22 : decode cX4_hasCells 22 = .ok (.iconst 1, 1) := by decide +kernel
theorem dX4_hasCells_23 : decode cX4_hasCells 23 = .ok (.goto 4, 3) := by decide +kernel
theorem dX4_hasCells_26 : decode cX4_hasCells 26 = .ok (.iconst 0, 1) := by decide +kernel
theorem dX4_hasCells_27 : decode cX4_hasCells 27 = .ok (.ireturn, 1) := by decide +kernel
theorem dX4_setCell_0 : decode cX4_setCell 0 = .ok (.aload_n 0, 1) := by decide +kernel
theorem dX4_setCell_1 : decode cX4_setCell 1 = .ok (.getfield 19, 3) := by decide +kernel
theorem dX4_setCell_4 : decode cX4_setCell 4 = .ok (.lookupswitch 50 #[(0, 28), (1, 39)], 28) := by decide +kernel
theorem dX4_setCell_32 : decode cX4_setCell 32 = .ok (.aload_n 0, 1) := by decide +kernel
theorem dX4_setCell_33 : decode cX4_setCell 33 = .ok (.getfield 9, 3) := by decide +kernel
theorem dX4_setCell_36 : decode cX4_setCell 36 = .ok (.iload_n 1, 1) := by decide +kernel
theorem dX4_setCell_37 : decode cX4_setCell 37 = .ok (.iload_n 2, 1) := by decide +kernel
theorem dX4_setCell_38 : decode cX4_setCell 38 = .ok (.i2b, 1) := by decide +kernel
theorem dX4_setCell_39 : decode cX4_setCell 39 = .ok (.iastore, 1) := by decide +kernel
theorem dX4_setCell_40 : decode cX4_setCell 40 = .ok (.goto 21, 3) := by decide +kernel
theorem dX4_setCell_43 : decode cX4_setCell 43 = .ok (.aload_n 0, 1) := by decide +kernel
theorem dX4_setCell_44 : decode cX4_setCell 44 = .ok (.getfield 9, 3) := by decide +kernel
theorem dX4_setCell_47 : decode cX4_setCell 47 = .ok (.iload_n 1, 1) := by decide +kernel
theorem dX4_setCell_48 : decode cX4_setCell 48 = .ok (.iload_n 2, 1) := by decide +kernel
theorem dX4_setCell_49 : decode cX4_setCell 49 = .ok (.i2s, 1) := by decide +kernel
theorem dX4_setCell_50 : decode cX4_setCell 50 = .ok (.iastore, 1) := by decide +kernel
theorem dX4_setCell_51 : decode cX4_setCell 51 = .ok (.goto 10, 3) := by decide +kernel
theorem dX4_setCell_54 : decode cX4_setCell 54 = .ok (.aload_n 0, 1) := by decide +kernel
theorem dX4_setCell_55 : decode cX4_setCell 55 = .ok (.getfield 9, 3) := by decide +kernel
theorem dX4_setCell_58 : decode cX4_setCell 58 = .ok (.iload_n 1, 1) := by decide +kernel
theorem dX4_setCell_59 : decode cX4_setCell 59 = .ok (.iload_n 2, 1) := by decide +kernel
theorem dX4_setCell_60 : decode cX4_setCell 60 = .ok (.iastore, 1) := by decide +kernel
theorem dX4_setCell_61 : decode cX4_setCell 61 = .ok (.return_, 1) := by decide +kernel
theorem dX5_init_0 : decode cX5_init 0 = .ok (.aload_n 0, 1) := by decide +kernel
theorem dX5_init_1 : decode cX5_init 1 = .ok (.invokespecial 3, 3) := by decide +kernel
theorem dX5_init_4 : decode cX5_init 4 = .ok (.return_, 1) := by decide +kernel
theorem dX5_tellOf_0 : decode cX5_tellOf 0 = .ok (.iload_n 1, 1) := by decide +kernel
theorem dX5_tellOf_1 : decode cX5_tellOf 1 = .ok (.lookupswitch 39 #[(0, 27), (1, 33)], 27) := by decide +kernel
theorem dX5_tellOf_28 : decode cX5_tellOf 28 = .ok (.aload_n 0, 1) := by decide +kernel
theorem dX5_tellOf_29 : decode cX5_tellOf 29 = .ok (.iload_n 2, 1) := by decide +kernel
theorem dX5_tellOf_30 : decode cX5_tellOf 30 = .ok (.invokevirtual 9, 3) := by decide +kernel
theorem dX5_tellOf_33 : decode cX5_tellOf 33 = .ok (.ireturn, 1) := by decide +kernel
theorem dX5_tellOf_34 : decode cX5_tellOf 34 = .ok (.aload_n 0, 1) := by decide +kernel
theorem dX5_tellOf_35 : decode cX5_tellOf 35 = .ok (.iload_n 2, 1) := by decide +kernel
theorem dX5_tellOf_36 : decode cX5_tellOf 36 = .ok (.invokevirtual 15, 3) := by decide +kernel
theorem dX5_tellOf_39 : decode cX5_tellOf 39 = .ok (.ireturn, 1) := by decide +kernel
theorem dX5_tellOf_40 : decode cX5_tellOf 40 = .ok (.aload_n 0, 1) := by decide +kernel
theorem dX5_tellOf_41 : decode cX5_tellOf 41 = .ok (.iload_n 2, 1) := by decide +kernel
theorem dX5_tellOf_42 : decode cX5_tellOf 42 = .ok (.invokevirtual 18, 3) := by decide +kernel
theorem dX5_tellOf_45 : decode cX5_tellOf 45 = .ok (.ireturn, 1) := by decide +kernel
theorem dX5_ringOf_0 : decode cX5_ringOf 0 = .ok (.aload_n 0, 1) := by decide +kernel
theorem dX5_ringOf_1 : decode cX5_ringOf 1 = .ok (.iload_n 1, 1) := by decide +kernel
theorem dX5_ringOf_2 : decode cX5_ringOf 2 = .ok (.iconst 2, 1) := by decide +kernel
theorem dX5_ringOf_3 : decode cX5_ringOf 3 = .ok (.if_icmp .ne 7, 3) := by decide +kernel
theorem dX5_ringOf_6 : decode cX5_ringOf 6 = .ok (.iconst 5, 1) := by decide +kernel
theorem dX5_ringOf_7 : decode cX5_ringOf 7 = .ok (.goto 4, 3) := by decide +kernel
theorem dX5_ringOf_10 : decode cX5_ringOf 10 = .ok (.iconst 4, 1) := by decide +kernel
theorem dX5_ringOf_11 : decode cX5_ringOf 11 = .ok (.invokevirtual 21, 3) := by decide +kernel
theorem dX5_ringOf_14 : decode cX5_ringOf 14 = .ok (.iload_n 1, 1) := by decide +kernel
theorem dX5_ringOf_15 : decode cX5_ringOf 15 = .ok (.iconst 2, 1) := by decide +kernel
theorem dX5_ringOf_16 : decode cX5_ringOf 16 = .ok (.if_icmp .ne 8, 3) := by decide +kernel
theorem dX5_ringOf_19 : decode cX5_ringOf 19 = .ok (.bipush 44, 2) := by decide +kernel
theorem dX5_ringOf_21 : decode cX5_ringOf 21 = .ok (.goto 4, 3) := by decide +kernel
theorem dX5_ringOf_24 : decode cX5_ringOf 24 = .ok (.iload_n 2, 1) := by decide +kernel
theorem dX5_ringOf_25 : decode cX5_ringOf 25 = .ok (.ireturn, 1) := by decide +kernel
theorem dX5_squareTells_0 : decode cX5_squareTells 0 = .ok (.aload_n 0, 1) := by decide +kernel
theorem dX5_squareTells_1 : decode cX5_squareTells 1 = .ok (.iconst 1, 1) := by decide +kernel
theorem dX5_squareTells_2 : decode cX5_squareTells 2 = .ok (.invokevirtual 21, 3) := by decide +kernel
theorem dX5_squareTells_5 : decode cX5_squareTells 5 = .ok (.iload_n 1, 1) := by decide +kernel
theorem dX5_squareTells_6 : decode cX5_squareTells 6 = .ok (.ireturn, 1) := by decide +kernel
theorem dX5_stepsTells_0 : decode cX5_stepsTells 0 = .ok (.aload_n 0, 1) := by decide +kernel
theorem dX5_stepsTells_1 : decode cX5_stepsTells 1 = .ok (.iconst 2, 1) := by decide +kernel
theorem dX5_stepsTells_2 : decode cX5_stepsTells 2 = .ok (.invokevirtual 21, 3) := by decide +kernel
theorem dX5_stepsTells_5 : decode cX5_stepsTells 5 = .ok (.aload_n 0, 1) := by decide +kernel
theorem dX5_stepsTells_6 : decode cX5_stepsTells 6 = .ok (.iload_n 1, 1) := by decide +kernel
theorem dX5_stepsTells_7 : decode cX5_stepsTells 7 = .ok (.invokevirtual 9, 3) := by decide +kernel
theorem dX5_stepsTells_10 : decode cX5_stepsTells 10 = .ok (.bipush 100, 2) := by decide +kernel
theorem dX5_stepsTells_12 : decode cX5_stepsTells 12 = .ok (.iadd, 1) := by decide +kernel
theorem dX5_stepsTells_13 : decode cX5_stepsTells 13 = .ok (.ireturn, 1) := by decide +kernel
theorem dX5_ferryTells_0 : decode cX5_ferryTells 0 = .ok (.aload_n 0, 1) := by decide +kernel
theorem dX5_ferryTells_1 : decode cX5_ferryTells 1 = .ok (.iconst 3, 1) := by decide +kernel
theorem dX5_ferryTells_2 : decode cX5_ferryTells 2 = .ok (.invokevirtual 21, 3) := by decide +kernel
theorem dX5_ferryTells_5 : decode cX5_ferryTells 5 = .ok (.aload_n 0, 1) := by decide +kernel
theorem dX5_ferryTells_6 : decode cX5_ferryTells 6 = .ok (.iload_n 1, 1) := by decide +kernel
theorem dX5_ferryTells_7 : decode cX5_ferryTells 7 = .ok (.invokevirtual 15, 3) := by decide +kernel
theorem dX5_ferryTells_10 : decode cX5_ferryTells 10 = .ok (.aload_n 0, 1) := by decide +kernel
theorem dX5_ferryTells_11 : decode cX5_ferryTells 11 = .ok (.iload_n 1, 1) := by decide +kernel
theorem dX5_ferryTells_12 : decode cX5_ferryTells 12 = .ok (.invokevirtual 9, 3) := by decide +kernel
theorem dX5_ferryTells_15 : decode cX5_ferryTells 15 = .ok (.iadd, 1) := by decide +kernel
theorem dX5_ferryTells_16 : decode cX5_ferryTells 16 = .ok (.ireturn, 1) := by decide +kernel
theorem dX5_leave_0 : decode cX5_leave 0 = .ok (.aload_n 0, 1) := by decide +kernel
theorem dX5_leave_1 : decode cX5_leave 1 = .ok (.bipush 31, 2) := by decide +kernel
theorem dX5_leave_3 : decode cX5_leave 3 = .ok (.aload_n 0, 1) := by decide +kernel
theorem dX5_leave_4 : decode cX5_leave 4 = .ok (.getfield 25, 3) := by decide +kernel
theorem dX5_leave_7 : decode cX5_leave 7 = .ok (.imul, 1) := by decide +kernel
theorem dX5_leave_8 : decode cX5_leave 8 = .ok (.iload_n 1, 1) := by decide +kernel
theorem dX5_leave_9 : decode cX5_leave 9 = .ok (.iadd, 1) := by decide +kernel
theorem dX5_leave_10 : decode cX5_leave 10 = .ok (.putfield 25, 3) := by decide +kernel
theorem dX5_leave_13 : decode cX5_leave 13 = .ok (.return_, 1) := by decide +kernel
end
section
theorem dX6_init_0 : decode cX6_init 0 = .ok (.aload_n 0, 1) := by decide +kernel
theorem dX6_init_1 : decode cX6_init 1 = .ok (.invokespecial 3, 3) := by decide +kernel
theorem dX6_init_4 : decode cX6_init 4 = .ok (.aload_n 0, 1) := by decide +kernel
theorem dX6_init_5 : decode cX6_init 5 = .ok (.new 9, 3) := by decide +kernel
theorem dX6_init_8 : decode cX6_init 8 = .ok (.dup, 1) := by decide +kernel
theorem dX6_init_9 : decode cX6_init 9 = .ok (.invokespecial 11, 3) := by decide +kernel
theorem dX6_init_12 : decode cX6_init 12 = .ok (.putfield 12, 3) := by decide +kernel
theorem dX6_init_15 : decode cX6_init 15 = .ok (.aload_n 0, 1) := by decide +kernel
theorem dX6_init_16 : decode cX6_init 16 = .ok (.new 18, 3) := by decide +kernel
theorem dX6_init_19 : decode cX6_init 19 = .ok (.dup, 1) := by decide +kernel
theorem dX6_init_20 : decode cX6_init 20 = .ok (.invokespecial 20, 3) := by decide +kernel
theorem dX6_init_23 : decode cX6_init 23 = .ok (.putfield 21, 3) := by decide +kernel
theorem dX6_init_26 : decode cX6_init 26 = .ok (.aload_n 0, 1) := by decide +kernel
theorem dX6_init_27 : decode cX6_init 27 = .ok (.new 25, 3) := by decide +kernel
theorem dX6_init_30 : decode cX6_init 30 = .ok (.dup, 1) := by decide +kernel
theorem dX6_init_31 : decode cX6_init 31 = .ok (.invokespecial 27, 3) := by decide +kernel
theorem dX6_init_34 : decode cX6_init 34 = .ok (.putfield 28, 3) := by decide +kernel
theorem dX6_init_37 : decode cX6_init 37 = .ok (.aload_n 0, 1) := by decide +kernel
theorem dX6_init_38 : decode cX6_init 38 = .ok (.new 25, 3) := by decide +kernel
theorem dX6_init_41 : decode cX6_init 41 = .ok (.dup, 1) := by decide +kernel
theorem dX6_init_42 : decode cX6_init 42 = .ok (.invokespecial 27, 3) := by decide +kernel
theorem dX6_init_45 : decode cX6_init 45 = .ok (.putfield 32, 3) := by decide +kernel
theorem dX6_init_48 : decode cX6_init 48 = .ok (.aload_n 0, 1) := by decide +kernel
theorem dX6_init_49 : decode cX6_init 49 = .ok (.new 35, 3) := by decide +kernel
theorem dX6_init_52 : decode cX6_init 52 = .ok (.dup, 1) := by decide +kernel
theorem dX6_init_53 : decode cX6_init 53 = .ok (.invokespecial 37, 3) := by decide +kernel
theorem dX6_init_56 : decode cX6_init 56 = .ok (.putfield 38, 3) := by decide +kernel
theorem dX6_init_59 : decode cX6_init 59 = .ok (.aload_n 0, 1) := by decide +kernel
theorem dX6_init_60 : decode cX6_init 60 = .ok (.new 42, 3) := by decide +kernel
theorem dX6_init_63 : decode cX6_init 63 = .ok (.dup, 1) := by decide +kernel
theorem dX6_init_64 : decode cX6_init 64 = .ok (.invokespecial 44, 3) := by decide +kernel
theorem dX6_init_67 : decode cX6_init 67 = .ok (.putfield 45, 3) := by decide +kernel
theorem dX6_init_70 : decode cX6_init 70 = .ok (.aload_n 0, 1) := by decide +kernel
theorem dX6_init_71 : decode cX6_init 71 = .ok (.iconst 4, 1) := by decide +kernel
theorem dX6_init_72 : decode cX6_init 72 = .ok (.anewarray 49, 3) := by decide +kernel
theorem dX6_init_75 : decode cX6_init 75 = .ok (.putfield 51, 3) := by decide +kernel
theorem dX6_init_78 : decode cX6_init 78 = .ok (.aload_n 0, 1) := by decide +kernel
theorem dX6_init_79 : decode cX6_init 79 = .ok (.bipush 8, 2) := by decide +kernel
theorem dX6_init_81 : decode cX6_init 81 = .ok (.newarray .int, 2) := by decide +kernel
theorem dX6_init_83 : decode cX6_init 83 = .ok (.putfield 55, 3) := by decide +kernel
theorem dX6_init_86 : decode cX6_init 86 = .ok (.aload_n 0, 1) := by decide +kernel
theorem dX6_init_87 : decode cX6_init 87 = .ok (.bipush 8, 2) := by decide +kernel
theorem dX6_init_89 : decode cX6_init 89 = .ok (.newarray .int, 2) := by decide +kernel
theorem dX6_init_91 : decode cX6_init 91 = .ok (.putfield 59, 3) := by decide +kernel
theorem dX6_init_94 : decode cX6_init 94 = .ok (.aload_n 0, 1) := by decide +kernel
theorem dX6_init_95 : decode cX6_init 95 = .ok (.iconst (-1), 1) := by decide +kernel
theorem dX6_init_96 : decode cX6_init 96 = .ok (.putfield 62, 3) := by decide +kernel
theorem dX6_init_99 : decode cX6_init 99 = .ok (.aload_n 0, 1) := by decide +kernel
theorem dX6_init_100 : decode cX6_init 100 = .ok (.iconst (-1), 1) := by decide +kernel
theorem dX6_init_101 : decode cX6_init 101 = .ok (.putfield 66, 3) := by decide +kernel
theorem dX6_init_104 : decode cX6_init 104 = .ok (.aload_n 0, 1) := by decide +kernel
theorem dX6_init_105 : decode cX6_init 105 = .ok (.iconst (-1), 1) := by decide +kernel
theorem dX6_init_106 : decode cX6_init 106 = .ok (.putfield 69, 3) := by decide +kernel
theorem dX6_init_109 : decode cX6_init 109 = .ok (.iconst 0, 1) := by decide +kernel
theorem dX6_init_110 : decode cX6_init 110 = .ok (.istore_n 1, 1) := by decide +kernel
theorem dX6_init_111 : decode cX6_init 111 = .ok (.iload_n 1, 1) := by decide +kernel
theorem dX6_init_112 : decode cX6_init 112 = .ok (.iconst 4, 1) := by decide +kernel
theorem dX6_init_113 : decode cX6_init 113 = .ok (.if_icmp .ge 22, 3) := by decide +kernel
theorem dX6_init_116 : decode cX6_init 116 = .ok (.aload_n 0, 1) := by decide +kernel
theorem dX6_init_117 : decode cX6_init 117 = .ok (.getfield 51, 3) := by decide +kernel
theorem dX6_init_120 : decode cX6_init 120 = .ok (.iload_n 1, 1) := by decide +kernel
theorem dX6_init_121 : decode cX6_init 121 = .ok (.new 49, 3) := by decide +kernel
theorem dX6_init_124 : decode cX6_init 124 = .ok (.dup, 1) := by decide +kernel
theorem dX6_init_125 : decode cX6_init 125 = .ok (.invokespecial 72, 3) := by decide +kernel
theorem dX6_init_128 : decode cX6_init 128 = .ok (.aastore, 1) := by decide +kernel
theorem dX6_init_129 : decode cX6_init 129 = .ok (.iinc 1 1, 3) := by decide +kernel
theorem dX6_init_132 : decode cX6_init 132 = .ok (.goto (-21), 3) := by decide +kernel
theorem dX6_init_135 : decode cX6_init 135 = .ok (.return_, 1) := by decide +kernel
theorem dX6_home_0 : decode cX6_home 0 = .ok (.iload_n 1, 1) := by decide +kernel
theorem dX6_home_1 : decode cX6_home 1 = .ok (.iload_n 2, 1) := by decide +kernel
theorem dX6_home_2 : decode cX6_home 2 = .ok (.invokestatic 73, 3) := by decide +kernel
theorem dX6_home_5 : decode cX6_home 5 = .ok (.ifCond .eq 12, 3) := by decide +kernel
theorem dX6_home_8 : decode cX6_home 8 = .ok (.iload_n 3, 1) := by decide +kernel
theorem dX6_home_9 : decode cX6_home 9 = .ok (.iconst 1, 1) := by decide +kernel
theorem dX6_home_10 : decode cX6_home 10 = .ok (.iconst 5, 1) := by decide +kernel
theorem dX6_home_11 : decode cX6_home 11 = .ok (.invokestatic 77, 3) := by decide +kernel
theorem dX6_home_14 : decode cX6_home 14 = .ok (.ifCond .ne 6, 3) := by decide +kernel
theorem dX6_home_17 : decode cX6_home 17 = .ok (.bipush (-2), 2) := by decide +kernel
theorem dX6_home_19 : decode cX6_home 19 = .ok (.ireturn, 1) := by decide +kernel
theorem dX6_home_20 : decode cX6_home 20 = .ok (.aload_n 0, 1) := by decide +kernel
theorem dX6_home_21 : decode cX6_home 21 = .ok (.getfield 12, 3) := by decide +kernel
theorem dX6_home_24 : decode cX6_home 24 = .ok (.getfield 81, 3) := by decide +kernel
theorem dX6_home_27 : decode cX6_home 27 = .ok (.bipush 10, 2) := by decide +kernel
theorem dX6_home_29 : decode cX6_home 29 = .ok (.if_icmp .lt 8, 3) := by decide +kernel
theorem dX6_home_32 : decode cX6_home 32 = .ok (.bipush (-4), 2) := by decide +kernel
theorem dX6_home_34 : decode cX6_home 34 = .ok (.goto 13, 3) := by decide +kernel
theorem dX6_home_37 : decode cX6_home 37 = .ok (.aload_n 0, 1) := by decide +kernel
theorem dX6_home_38 : decode cX6_home 38 = .ok (.getfield 12, 3) := by decide +kernel
theorem dX6_home_41 : decode cX6_home 41 = .ok (.iload_n 1, 1) := by decide +kernel
theorem dX6_home_42 : decode cX6_home 42 = .ok (.iload_n 2, 1) := by decide +kernel
theorem dX6_home_43 : decode cX6_home 43 = .ok (.iload_n 3, 1) := by decide +kernel
theorem dX6_home_44 : decode cX6_home 44 = .ok (.invokevirtual 84, 3) := by decide +kernel
theorem dX6_home_47 : decode cX6_home 47 = .ok (.ireturn, 1) := by decide +kernel
theorem dX6_church_0 : decode cX6_church 0 = .ok (.iload_n 1, 1) := by decide +kernel
theorem dX6_church_1 : decode cX6_church 1 = .ok (.iconst 0, 1) := by decide +kernel
theorem dX6_church_2 : decode cX6_church 2 = .ok (.iconst 2, 1) := by decide +kernel
theorem dX6_church_3 : decode cX6_church 3 = .ok (.invokestatic 77, 3) := by decide +kernel
theorem dX6_church_6 : decode cX6_church 6 = .ok (.ifCond .eq 22, 3) := by decide +kernel
theorem dX6_church_9 : decode cX6_church 9 = .ok (.iload_n 2, 1) := by decide +kernel
theorem dX6_church_10 : decode cX6_church 10 = .ok (.iload_n 3, 1) := by decide +kernel
theorem dX6_church_11 : decode cX6_church 11 = .ok (.invokestatic 73, 3) := by decide +kernel
theorem dX6_church_14 : decode cX6_church 14 = .ok (.ifCond .eq 14, 3) := by decide +kernel
theorem dX6_church_17 : decode cX6_church 17 = .ok (.iload 4, 2) := by decide +kernel
theorem dX6_church_19 : decode cX6_church 19 = .ok (.iconst 0, 1) := by decide +kernel
theorem dX6_church_20 : decode cX6_church 20 = .ok (.bipush 50, 2) := by decide +kernel
theorem dX6_church_22 : decode cX6_church 22 = .ok (.invokestatic 77, 3) := by decide +kernel
theorem dX6_church_25 : decode cX6_church 25 = .ok (.ifCond .ne 6, 3) := by decide +kernel
theorem dX6_church_28 : decode cX6_church 28 = .ok (.bipush (-2), 2) := by decide +kernel
theorem dX6_church_30 : decode cX6_church 30 = .ok (.ireturn, 1) := by decide +kernel
theorem dX6_church_31 : decode cX6_church 31 = .ok (.aload_n 0, 1) := by decide +kernel
theorem dX6_church_32 : decode cX6_church 32 = .ok (.getfield 12, 3) := by decide +kernel
theorem dX6_church_35 : decode cX6_church 35 = .ok (.getfield 88, 3) := by decide +kernel
theorem dX6_church_38 : decode cX6_church 38 = .ok (.iconst 5, 1) := by decide +kernel
theorem dX6_church_39 : decode cX6_church 39 = .ok (.if_icmp .lt 8, 3) := by decide +kernel
theorem dX6_church_42 : decode cX6_church 42 = .ok (.bipush (-4), 2) := by decide +kernel
theorem dX6_church_44 : decode cX6_church 44 = .ok (.goto 15, 3) := by decide +kernel
theorem dX6_church_47 : decode cX6_church 47 = .ok (.aload_n 0, 1) := by decide +kernel
theorem dX6_church_48 : decode cX6_church 48 = .ok (.getfield 12, 3) := by decide +kernel
theorem dX6_church_51 : decode cX6_church 51 = .ok (.iload_n 1, 1) := by decide +kernel
theorem dX6_church_52 : decode cX6_church 52 = .ok (.iload_n 2, 1) := by decide +kernel
theorem dX6_church_53 : decode cX6_church 53 = .ok (.iload_n 3, 1) := by decide +kernel
theorem dX6_church_54 : decode cX6_church 54 = .ok (.iload 4, 2) := by decide +kernel
theorem dX6_church_56 : decode cX6_church 56 = .ok (.invokevirtual 91, 3) := by decide +kernel
theorem dX6_church_59 : decode cX6_church 59 = .ok (.ireturn, 1) := by decide +kernel
theorem dX6_land_0 : decode cX6_land 0 = .ok (.aload_n 0, 1) := by decide +kernel
theorem dX6_land_1 : decode cX6_land 1 = .ok (.iload_n 1, 1) := by decide +kernel
theorem dX6_land_2 : decode cX6_land 2 = .ok (.iload_n 2, 1) := by decide +kernel
theorem dX6_land_3 : decode cX6_land 3 = .ok (.iload_n 3, 1) := by decide +kernel
theorem dX6_land_4 : decode cX6_land 4 = .ok (.iload 4, 2) := by decide +kernel
theorem dX6_land_6 : decode cX6_land 6 = .ok (.invokevirtual 95, 3) := by decide +kernel
theorem dX6_land_9 : decode cX6_land 9 = .ok (.istore 5, 2) := by decide +kernel
theorem dX6_land_11 : decode cX6_land 11 = .ok (.iload 5, 2) := by decide +kernel
theorem dX6_land_13 : decode cX6_land 13 = .ok (.ifCond .eq 6, 3) := by decide +kernel
theorem dX6_land_16 : decode cX6_land 16 = .ok (.iload 5, 2) := by decide +kernel
theorem dX6_land_18 : decode cX6_land 18 = .ok (.ireturn, 1) := by decide +kernel
theorem dX6_land_19 : decode cX6_land 19 = .ok (.aload_n 0, 1) := by decide +kernel
theorem dX6_land_20 : decode cX6_land 20 = .ok (.getfield 21, 3) := by decide +kernel
theorem dX6_land_23 : decode cX6_land 23 = .ok (.aload_n 0, 1) := by decide +kernel
theorem dX6_land_24 : decode cX6_land 24 = .ok (.getfield 51, 3) := by decide +kernel
theorem dX6_land_27 : decode cX6_land 27 = .ok (.iload_n 1, 1) := by decide +kernel
theorem dX6_land_28 : decode cX6_land 28 = .ok (.aaload, 1) := by decide +kernel
theorem dX6_land_29 : decode cX6_land 29 = .ok (.getfield 98, 3) := by decide +kernel
theorem dX6_land_32 : decode cX6_land 32 = .ok (.iload_n 3, 1) := by decide +kernel
theorem dX6_land_33 : decode cX6_land 33 = .ok (.iload 4, 2) := by decide +kernel
theorem dX6_land_35 : decode cX6_land 35 = .ok (.invokevirtual 101, 3) := by decide +kernel
theorem dX6_land_38 : decode cX6_land 38 = .ok (.istore 6, 2) := by decide +kernel
theorem dX6_land_40 : decode cX6_land 40 = .ok (.iload 6, 2) := by decide +kernel
theorem dX6_land_42 : decode cX6_land 42 = .ok (.ifCond .ge 14, 3) := by decide +kernel
theorem dX6_land_45 : decode cX6_land 45 = .ok (.bipush (-100), 2) := by decide +kernel
theorem dX6_land_47 : decode cX6_land 47 = .ok (.aload_n 0, 1) := by decide +kernel
theorem dX6_land_48 : decode cX6_land 48 = .ok (.getfield 21, 3) := by decide +kernel
theorem dX6_land_51 : decode cX6_land 51 = .ok (.getfield 105, 3) := by decide +kernel
theorem dX6_land_54 : decode cX6_land 54 = .ok (.isub, 1) := by decide +kernel
theorem dX6_land_55 : decode cX6_land 55 = .ok (.ireturn, 1) := by decide +kernel
theorem dX6_land_56 : decode cX6_land 56 = .ok (.aload_n 0, 1) := by decide +kernel
theorem dX6_land_57 : decode cX6_land 57 = .ok (.getfield 21, 3) := by decide +kernel
theorem dX6_land_60 : decode cX6_land 60 = .ok (.aload_n 0, 1) := by decide +kernel
theorem dX6_land_61 : decode cX6_land 61 = .ok (.getfield 12, 3) := by decide +kernel
theorem dX6_land_64 : decode cX6_land 64 = .ok (.iload 6, 2) := by decide +kernel
theorem dX6_land_66 : decode cX6_land 66 = .ok (.invokevirtual 108, 3) := by decide +kernel
theorem dX6_land_69 : decode cX6_land 69 = .ok (.iload 6, 2) := by decide +kernel
theorem dX6_land_71 : decode cX6_land 71 = .ok (.ireturn, 1) := by decide +kernel
theorem dX6_ofHome_0 : decode cX6_ofHome 0 = .ok (.aload_n 0, 1) := by decide +kernel
theorem dX6_ofHome_1 : decode cX6_ofHome 1 = .ok (.getfield 12, 3) := by decide +kernel
theorem dX6_ofHome_4 : decode cX6_ofHome 4 = .ok (.iload_n 1, 1) := by decide +kernel
theorem dX6_ofHome_5 : decode cX6_ofHome 5 = .ok (.invokevirtual 112, 3) := by decide +kernel
theorem dX6_ofHome_8 : decode cX6_ofHome 8 = .ok (.ifCond .ne 5, 3) := by decide +kernel
theorem dX6_ofHome_11 : decode cX6_ofHome 11 = .ok (.iconst (-1), 1) := by decide +kernel
theorem dX6_ofHome_12 : decode cX6_ofHome 12 = .ok (.ireturn, 1) := by decide +kernel
theorem dX6_ofHome_13 : decode cX6_ofHome 13 = .ok (.iload_n 2, 1) := by decide +kernel
theorem dX6_ofHome_14 : decode cX6_ofHome 14 = .ok (.tableswitch 56 0 2 #[26, 36, 46], 26) := by decide +kernel
theorem dX6_ofHome_40 : decode cX6_ofHome 40 = .ok (.aload_n 0, 1) := by decide +kernel
theorem dX6_ofHome_41 : decode cX6_ofHome 41 = .ok (.getfield 12, 3) := by decide +kernel
theorem dX6_ofHome_44 : decode cX6_ofHome 44 = .ok (.getfield 116, 3) := by decide +kernel
theorem dX6_ofHome_47 : decode cX6_ofHome 47 = .ok (.iload_n 1, 1) := by decide +kernel
theorem dX6_ofHome_48 : decode cX6_ofHome 48 = .ok (.iaload, 1) := by decide +kernel
theorem dX6_ofHome_49 : decode cX6_ofHome 49 = .ok (.ireturn, 1) := by decide +kernel
theorem dX6_ofHome_50 : decode cX6_ofHome 50 = .ok (.aload_n 0, 1) := by decide +kernel
theorem dX6_ofHome_51 : decode cX6_ofHome 51 = .ok (.getfield 12, 3) := by decide +kernel
theorem dX6_ofHome_54 : decode cX6_ofHome 54 = .ok (.getfield 119, 3) := by decide +kernel
theorem dX6_ofHome_57 : decode cX6_ofHome 57 = .ok (.iload_n 1, 1) := by decide +kernel
theorem dX6_ofHome_58 : decode cX6_ofHome 58 = .ok (.iaload, 1) := by decide +kernel
theorem dX6_ofHome_59 : decode cX6_ofHome 59 = .ok (.ireturn, 1) := by decide +kernel
theorem dX6_ofHome_60 : decode cX6_ofHome 60 = .ok (.aload_n 0, 1) := by decide +kernel
theorem dX6_ofHome_61 : decode cX6_ofHome 61 = .ok (.getfield 12, 3) := by decide +kernel
theorem dX6_ofHome_64 : decode cX6_ofHome 64 = .ok (.getfield 122, 3) := by decide +kernel
theorem dX6_ofHome_67 : decode cX6_ofHome 67 = .ok (.iload_n 1, 1) := by decide +kernel
theorem dX6_ofHome_68 : decode cX6_ofHome 68 = .ok (.iaload, 1) := by decide +kernel
theorem dX6_ofHome_69 : decode cX6_ofHome 69 = .ok (.ireturn, 1) := by decide +kernel
theorem dX6_ofHome_70 : decode cX6_ofHome 70 = .ok (.bipush (-2), 2) := by decide +kernel
theorem dX6_ofHome_72 : decode cX6_ofHome 72 = .ok (.ireturn, 1) := by decide +kernel
theorem dX6_ofChurch_0 : decode cX6_ofChurch 0 = .ok (.aload_n 0, 1) := by decide +kernel
theorem dX6_ofChurch_1 : decode cX6_ofChurch 1 = .ok (.getfield 12, 3) := by decide +kernel
theorem dX6_ofChurch_4 : decode cX6_ofChurch 4 = .ok (.iload_n 1, 1) := by decide +kernel
theorem dX6_ofChurch_5 : decode cX6_ofChurch 5 = .ok (.invokevirtual 125, 3) := by decide +kernel
theorem dX6_ofChurch_8 : decode cX6_ofChurch 8 = .ok (.ifCond .ne 5, 3) := by decide +kernel
theorem dX6_ofChurch_11 : decode cX6_ofChurch 11 = .ok (.iconst (-1), 1) := by decide +kernel
theorem dX6_ofChurch_12 : decode cX6_ofChurch 12 = .ok (.ireturn, 1) := by decide +kernel
theorem dX6_ofChurch_13 : decode cX6_ofChurch 13 = .ok (.iload_n 2, 1) := by decide +kernel
theorem dX6_ofChurch_14 : decode cX6_ofChurch 14 = .ok (.tableswitch 70 0 3 #[30, 40, 50, 60], 30) := by decide +kernel
theorem dX6_ofChurch_44 : decode cX6_ofChurch 44 = .ok (.aload_n 0, 1) := by decide +kernel
theorem dX6_ofChurch_45 : decode cX6_ofChurch 45 = .ok (.getfield 12, 3) := by decide +kernel
theorem dX6_ofChurch_48 : decode cX6_ofChurch 48 = .ok (.getfield 128, 3) := by decide +kernel
theorem dX6_ofChurch_51 : decode cX6_ofChurch 51 = .ok (.iload_n 1, 1) := by decide +kernel
theorem dX6_ofChurch_52 : decode cX6_ofChurch 52 = .ok (.iaload, 1) := by decide +kernel
theorem dX6_ofChurch_53 : decode cX6_ofChurch 53 = .ok (.ireturn, 1) := by decide +kernel
theorem dX6_ofChurch_54 : decode cX6_ofChurch 54 = .ok (.aload_n 0, 1) := by decide +kernel
theorem dX6_ofChurch_55 : decode cX6_ofChurch 55 = .ok (.getfield 12, 3) := by decide +kernel
theorem dX6_ofChurch_58 : decode cX6_ofChurch 58 = .ok (.getfield 131, 3) := by decide +kernel
theorem dX6_ofChurch_61 : decode cX6_ofChurch 61 = .ok (.iload_n 1, 1) := by decide +kernel
theorem dX6_ofChurch_62 : decode cX6_ofChurch 62 = .ok (.iaload, 1) := by decide +kernel
theorem dX6_ofChurch_63 : decode cX6_ofChurch 63 = .ok (.ireturn, 1) := by decide +kernel
theorem dX6_ofChurch_64 : decode cX6_ofChurch 64 = .ok (.aload_n 0, 1) := by decide +kernel
theorem dX6_ofChurch_65 : decode cX6_ofChurch 65 = .ok (.getfield 12, 3) := by decide +kernel
theorem dX6_ofChurch_68 : decode cX6_ofChurch 68 = .ok (.getfield 134, 3) := by decide +kernel
theorem dX6_ofChurch_71 : decode cX6_ofChurch 71 = .ok (.iload_n 1, 1) := by decide +kernel
theorem dX6_ofChurch_72 : decode cX6_ofChurch 72 = .ok (.iaload, 1) := by decide +kernel
theorem dX6_ofChurch_73 : decode cX6_ofChurch 73 = .ok (.ireturn, 1) := by decide +kernel
theorem dX6_ofChurch_74 : decode cX6_ofChurch 74 = .ok (.aload_n 0, 1) := by decide +kernel
theorem dX6_ofChurch_75 : decode cX6_ofChurch 75 = .ok (.getfield 12, 3) := by decide +kernel
theorem dX6_ofChurch_78 : decode cX6_ofChurch 78 = .ok (.getfield 137, 3) := by decide +kernel
theorem dX6_ofChurch_81 : decode cX6_ofChurch 81 = .ok (.iload_n 1, 1) := by decide +kernel
theorem dX6_ofChurch_82 : decode cX6_ofChurch 82 = .ok (.iaload, 1) := by decide +kernel
theorem dX6_ofChurch_83 : decode cX6_ofChurch 83 = .ok (.ireturn, 1) := by decide +kernel
theorem dX6_ofChurch_84 : decode cX6_ofChurch 84 = .ok (.bipush (-2), 2) := by decide +kernel
theorem dX6_ofChurch_86 : decode cX6_ofChurch 86 = .ok (.ireturn, 1) := by decide +kernel
theorem dX6_bar_0 : decode cX6_bar 0 = .ok (.aload_n 0, 1) := by decide +kernel
theorem dX6_bar_1 : decode cX6_bar 1 = .ok (.getfield 12, 3) := by decide +kernel
theorem dX6_bar_4 : decode cX6_bar 4 = .ok (.iload_n 1, 1) := by decide +kernel
theorem dX6_bar_5 : decode cX6_bar 5 = .ok (.invokevirtual 112, 3) := by decide +kernel
theorem dX6_bar_8 : decode cX6_bar 8 = .ok (.ifCond .eq 14, 3) := by decide +kernel
theorem dX6_bar_11 : decode cX6_bar 11 = .ok (.aload_n 0, 1) := by decide +kernel
theorem dX6_bar_12 : decode cX6_bar 12 = .ok (.getfield 12, 3) := by decide +kernel
theorem dX6_bar_15 : decode cX6_bar 15 = .ok (.iload_n 2, 1) := by decide +kernel
theorem dX6_bar_16 : decode cX6_bar 16 = .ok (.invokevirtual 125, 3) := by decide +kernel
theorem dX6_bar_19 : decode cX6_bar 19 = .ok (.ifCond .ne 5, 3) := by decide +kernel
theorem dX6_bar_22 : decode cX6_bar 22 = .ok (.iconst (-1), 1) := by decide +kernel
theorem dX6_bar_23 : decode cX6_bar 23 = .ok (.ireturn, 1) := by decide +kernel
theorem dX6_bar_24 : decode cX6_bar 24 = .ok (.aload_n 0, 1) := by decide +kernel
theorem dX6_bar_25 : decode cX6_bar 25 = .ok (.getfield 12, 3) := by decide +kernel
theorem dX6_bar_28 : decode cX6_bar 28 = .ok (.iload_n 1, 1) := by decide +kernel
theorem dX6_bar_29 : decode cX6_bar 29 = .ok (.iload_n 2, 1) := by decide +kernel
theorem dX6_bar_30 : decode cX6_bar 30 = .ok (.invokevirtual 140, 3) := by decide +kernel
theorem dX6_bar_33 : decode cX6_bar 33 = .ok (.iload_n 3, 1) := by decide +kernel
theorem dX6_bar_34 : decode cX6_bar 34 = .ok (.if_icmp .ne 5, 3) := by decide +kernel
theorem dX6_bar_37 : decode cX6_bar 37 = .ok (.iconst 0, 1) := by decide +kernel
theorem dX6_bar_38 : decode cX6_bar 38 = .ok (.ireturn, 1) := by decide +kernel
theorem dX6_bar_39 : decode cX6_bar 39 = .ok (.aload_n 0, 1) := by decide +kernel
theorem dX6_bar_40 : decode cX6_bar 40 = .ok (.getfield 12, 3) := by decide +kernel
theorem dX6_bar_43 : decode cX6_bar 43 = .ok (.iload_n 1, 1) := by decide +kernel
theorem dX6_bar_44 : decode cX6_bar 44 = .ok (.iload_n 2, 1) := by decide +kernel
theorem dX6_bar_45 : decode cX6_bar 45 = .ok (.invokevirtual 143, 3) := by decide +kernel
theorem dX6_bar_48 : decode cX6_bar 48 = .ok (.iconst 1, 1) := by decide +kernel
theorem dX6_bar_49 : decode cX6_bar 49 = .ok (.ireturn, 1) := by decide +kernel
theorem dX6_seats_0 : decode cX6_seats 0 = .ok (.aload_n 0, 1) := by decide +kernel
theorem dX6_seats_1 : decode cX6_seats 1 = .ok (.getfield 12, 3) := by decide +kernel
theorem dX6_seats_4 : decode cX6_seats 4 = .ok (.iload_n 1, 1) := by decide +kernel
theorem dX6_seats_5 : decode cX6_seats 5 = .ok (.invokevirtual 125, 3) := by decide +kernel
theorem dX6_seats_8 : decode cX6_seats 8 = .ok (.ifCond .ne 5, 3) := by decide +kernel
theorem dX6_seats_11 : decode cX6_seats 11 = .ok (.iconst (-1), 1) := by decide +kernel
theorem dX6_seats_12 : decode cX6_seats 12 = .ok (.ireturn, 1) := by decide +kernel
theorem dX6_seats_13 : decode cX6_seats 13 = .ok (.iload_n 2, 1) := by decide +kernel
theorem dX6_seats_14 : decode cX6_seats 14 = .ok (.iconst 0, 1) := by decide +kernel
theorem dX6_seats_15 : decode cX6_seats 15 = .ok (.bipush 50, 2) := by decide +kernel
theorem dX6_seats_17 : decode cX6_seats 17 = .ok (.invokestatic 77, 3) := by decide +kernel
theorem dX6_seats_20 : decode cX6_seats 20 = .ok (.ifCond .eq 15, 3) := by decide +kernel
theorem dX6_seats_23 : decode cX6_seats 23 = .ok (.aload_n 0, 1) := by decide +kernel
theorem dX6_seats_24 : decode cX6_seats 24 = .ok (.getfield 12, 3) := by decide +kernel
theorem dX6_seats_27 : decode cX6_seats 27 = .ok (.iload_n 1, 1) := by decide +kernel
theorem dX6_seats_28 : decode cX6_seats 28 = .ok (.iload_n 2, 1) := by decide +kernel
theorem dX6_seats_29 : decode cX6_seats 29 = .ok (.invokevirtual 147, 3) := by decide +kernel
theorem dX6_seats_32 : decode cX6_seats 32 = .ok (.goto 5, 3) := by decide +kernel
theorem dX6_seats_35 : decode cX6_seats 35 = .ok (.bipush (-2), 2) := by decide +kernel
theorem dX6_seats_37 : decode cX6_seats 37 = .ok (.ireturn, 1) := by decide +kernel
theorem dX6_toll_0 : decode cX6_toll 0 = .ok (.iload_n 1, 1) := by decide +kernel
theorem dX6_toll_1 : decode cX6_toll 1 = .ok (.iconst 0, 1) := by decide +kernel
theorem dX6_toll_2 : decode cX6_toll 2 = .ok (.sipush 999, 3) := by decide +kernel
theorem dX6_toll_5 : decode cX6_toll 5 = .ok (.invokestatic 77, 3) := by decide +kernel
theorem dX6_toll_8 : decode cX6_toll 8 = .ok (.ifCond .eq 14, 3) := by decide +kernel
theorem dX6_toll_11 : decode cX6_toll 11 = .ok (.aload_n 0, 1) := by decide +kernel
theorem dX6_toll_12 : decode cX6_toll 12 = .ok (.getfield 12, 3) := by decide +kernel
theorem dX6_toll_15 : decode cX6_toll 15 = .ok (.iload_n 1, 1) := by decide +kernel
theorem dX6_toll_16 : decode cX6_toll 16 = .ok (.invokevirtual 151, 3) := by decide +kernel
theorem dX6_toll_19 : decode cX6_toll 19 = .ok (.goto 5, 3) := by decide +kernel
theorem dX6_toll_22 : decode cX6_toll 22 = .ok (.bipush (-2), 2) := by decide +kernel
theorem dX6_toll_24 : decode cX6_toll 24 = .ok (.ireturn, 1) := by decide +kernel
theorem dX6_far_0 : decode cX6_far 0 = .ok (.aload_n 0, 1) := by decide +kernel
theorem dX6_far_1 : decode cX6_far 1 = .ok (.getfield 12, 3) := by decide +kernel
theorem dX6_far_4 : decode cX6_far 4 = .ok (.iload_n 3, 1) := by decide +kernel
theorem dX6_far_5 : decode cX6_far 5 = .ok (.invokevirtual 125, 3) := by decide +kernel
theorem dX6_far_8 : decode cX6_far 8 = .ok (.ifCond .ne 5, 3) := by decide +kernel
theorem dX6_far_11 : decode cX6_far 11 = .ok (.iconst (-1), 1) := by decide +kernel
theorem dX6_far_12 : decode cX6_far 12 = .ok (.ireturn, 1) := by decide +kernel
theorem dX6_far_13 : decode cX6_far 13 = .ok (.iload_n 1, 1) := by decide +kernel
theorem dX6_far_14 : decode cX6_far 14 = .ok (.iload_n 2, 1) := by decide +kernel
theorem dX6_far_15 : decode cX6_far 15 = .ok (.invokestatic 73, 3) := by decide +kernel
theorem dX6_far_18 : decode cX6_far 18 = .ok (.ifCond .eq 16, 3) := by decide +kernel
theorem dX6_far_21 : decode cX6_far 21 = .ok (.aload_n 0, 1) := by decide +kernel
theorem dX6_far_22 : decode cX6_far 22 = .ok (.getfield 12, 3) := by decide +kernel
theorem dX6_far_25 : decode cX6_far 25 = .ok (.iload_n 3, 1) := by decide +kernel
theorem dX6_far_26 : decode cX6_far 26 = .ok (.iload_n 1, 1) := by decide +kernel
theorem dX6_far_27 : decode cX6_far 27 = .ok (.iload_n 2, 1) := by decide +kernel
theorem dX6_far_28 : decode cX6_far 28 = .ok (.invokevirtual 155, 3) := by decide +kernel
theorem dX6_far_31 : decode cX6_far 31 = .ok (.goto 5, 3) := by decide +kernel
theorem dX6_far_34 : decode cX6_far 34 = .ok (.bipush (-2), 2) := by decide +kernel
theorem dX6_far_36 : decode cX6_far 36 = .ok (.ireturn, 1) := by decide +kernel
theorem dX6_miles_0 : decode cX6_miles 0 = .ok (.aload_n 0, 1) := by decide +kernel
theorem dX6_miles_1 : decode cX6_miles 1 = .ok (.invokevirtual 158, 3) := by decide +kernel
theorem dX6_miles_4 : decode cX6_miles 4 = .ok (.ireturn, 1) := by decide +kernel
theorem dX6_few_0 : decode cX6_few 0 = .ok (.iconst 1, 1) := by decide +kernel
theorem dX6_few_1 : decode cX6_few 1 = .ok (.istore_n 1, 1) := by decide +kernel
theorem dX6_few_2 : decode cX6_few 2 = .ok (.iload_n 1, 1) := by decide +kernel
theorem dX6_few_3 : decode cX6_few 3 = .ok (.iconst 1, 1) := by decide +kernel
theorem dX6_few_4 : decode cX6_few 4 = .ok (.aload_n 0, 1) := by decide +kernel
theorem dX6_few_5 : decode cX6_few 5 = .ok (.getfield 12, 3) := by decide +kernel
theorem dX6_few_8 : decode cX6_few 8 = .ok (.getfield 81, 3) := by decide +kernel
theorem dX6_few_11 : decode cX6_few 11 = .ok (.ishl, 1) := by decide +kernel
theorem dX6_few_12 : decode cX6_few 12 = .ok (.if_icmp .ge 22, 3) := by decide +kernel
theorem dX6_few_15 : decode cX6_few 15 = .ok (.aload_n 0, 1) := by decide +kernel
theorem dX6_few_16 : decode cX6_few 16 = .ok (.getfield 12, 3) := by decide +kernel
theorem dX6_few_19 : decode cX6_few 19 = .ok (.iload_n 1, 1) := by decide +kernel
theorem dX6_few_20 : decode cX6_few 20 = .ok (.invokevirtual 162, 3) := by decide +kernel
theorem dX6_few_23 : decode cX6_few 23 = .ok (.ifCond .eq 5, 3) := by decide +kernel
theorem dX6_few_26 : decode cX6_few 26 = .ok (.iload_n 1, 1) := by decide +kernel
theorem dX6_few_27 : decode cX6_few 27 = .ok (.ireturn, 1) := by decide +kernel
theorem dX6_few_28 : decode cX6_few 28 = .ok (.iinc 1 1, 3) := by decide +kernel
theorem dX6_few_31 : decode cX6_few 31 = .ok (.goto (-29), 3) := by decide +kernel
theorem dX6_few_34 : decode cX6_few 34 = .ok (.iconst 0, 1) := by decide +kernel
theorem dX6_few_35 : decode cX6_few 35 = .ok (.ireturn, 1) := by decide +kernel
theorem dX6_weight_0 : decode cX6_weight 0 = .ok (.aload_n 0, 1) := by decide +kernel
theorem dX6_weight_1 : decode cX6_weight 1 = .ok (.getfield 12, 3) := by decide +kernel
theorem dX6_weight_4 : decode cX6_weight 4 = .ok (.iload_n 1, 1) := by decide +kernel
theorem dX6_weight_5 : decode cX6_weight 5 = .ok (.invokevirtual 125, 3) := by decide +kernel
theorem dX6_weight_8 : decode cX6_weight 8 = .ok (.ifCond .ne 5, 3) := by decide +kernel
theorem dX6_weight_11 : decode cX6_weight 11 = .ok (.iconst (-1), 1) := by decide +kernel
theorem dX6_weight_12 : decode cX6_weight 12 = .ok (.ireturn, 1) := by decide +kernel
theorem dX6_weight_13 : decode cX6_weight 13 = .ok (.aload_n 0, 1) := by decide +kernel
theorem dX6_weight_14 : decode cX6_weight 14 = .ok (.invokevirtual 158, 3) := by decide +kernel
theorem dX6_weight_17 : decode cX6_weight 17 = .ok (.bipush (-9), 2) := by decide +kernel
theorem dX6_weight_19 : decode cX6_weight 19 = .ok (.if_icmp .ne 8, 3) := by decide +kernel
theorem dX6_weight_22 : decode cX6_weight 22 = .ok (.bipush (-9), 2) := by decide +kernel
theorem dX6_weight_24 : decode cX6_weight 24 = .ok (.goto 12, 3) := by decide +kernel
theorem dX6_weight_27 : decode cX6_weight 27 = .ok (.aload_n 0, 1) := by decide +kernel
theorem dX6_weight_28 : decode cX6_weight 28 = .ok (.getfield 28, 3) := by decide +kernel
theorem dX6_weight_31 : decode cX6_weight 31 = .ok (.getfield 165, 3) := by decide +kernel
theorem dX6_weight_34 : decode cX6_weight 34 = .ok (.iload_n 1, 1) := by decide +kernel
theorem dX6_weight_35 : decode cX6_weight 35 = .ok (.iaload, 1) := by decide +kernel
theorem dX6_weight_36 : decode cX6_weight 36 = .ok (.ireturn, 1) := by decide +kernel
theorem dX6_line_0 : decode cX6_line 0 = .ok (.aload_n 0, 1) := by decide +kernel
theorem dX6_line_1 : decode cX6_line 1 = .ok (.getfield 12, 3) := by decide +kernel
theorem dX6_line_4 : decode cX6_line 4 = .ok (.iload_n 1, 1) := by decide +kernel
theorem dX6_line_5 : decode cX6_line 5 = .ok (.invokevirtual 112, 3) := by decide +kernel
theorem dX6_line_8 : decode cX6_line 8 = .ok (.ifCond .ne 5, 3) := by decide +kernel
theorem dX6_line_11 : decode cX6_line 11 = .ok (.iconst (-1), 1) := by decide +kernel
theorem dX6_line_12 : decode cX6_line 12 = .ok (.ireturn, 1) := by decide +kernel
theorem dX6_line_13 : decode cX6_line 13 = .ok (.aload_n 0, 1) := by decide +kernel
theorem dX6_line_14 : decode cX6_line 14 = .ok (.invokevirtual 158, 3) := by decide +kernel
theorem dX6_line_17 : decode cX6_line 17 = .ok (.bipush (-9), 2) := by decide +kernel
theorem dX6_line_19 : decode cX6_line 19 = .ok (.if_icmp .ne 8, 3) := by decide +kernel
theorem dX6_line_22 : decode cX6_line 22 = .ok (.bipush (-9), 2) := by decide +kernel
theorem dX6_line_24 : decode cX6_line 24 = .ok (.goto 11, 3) := by decide +kernel
theorem dX6_line_27 : decode cX6_line 27 = .ok (.aload_n 0, 1) := by decide +kernel
theorem dX6_line_28 : decode cX6_line 28 = .ok (.getfield 28, 3) := by decide +kernel
theorem dX6_line_31 : decode cX6_line 31 = .ok (.iload_n 1, 1) := by decide +kernel
theorem dX6_line_32 : decode cX6_line 32 = .ok (.invokevirtual 168, 3) := by decide +kernel
theorem dX6_line_35 : decode cX6_line 35 = .ok (.ireturn, 1) := by decide +kernel
theorem dX6_check_0 : decode cX6_check 0 = .ok (.aload_n 0, 1) := by decide +kernel
theorem dX6_check_1 : decode cX6_check 1 = .ok (.iload_n 1, 1) := by decide +kernel
theorem dX6_check_2 : decode cX6_check 2 = .ok (.iload_n 2, 1) := by decide +kernel
theorem dX6_check_3 : decode cX6_check 3 = .ok (.iload_n 3, 1) := by decide +kernel
theorem dX6_check_4 : decode cX6_check 4 = .ok (.iload 4, 2) := by decide +kernel
theorem dX6_check_6 : decode cX6_check 6 = .ok (.invokevirtual 95, 3) := by decide +kernel
theorem dX6_check_9 : decode cX6_check 9 = .ok (.istore 5, 2) := by decide +kernel
theorem dX6_check_11 : decode cX6_check 11 = .ok (.iload 5, 2) := by decide +kernel
theorem dX6_check_13 : decode cX6_check 13 = .ok (.ifCond .eq 6, 3) := by decide +kernel
theorem dX6_check_16 : decode cX6_check 16 = .ok (.iload 5, 2) := by decide +kernel
theorem dX6_check_18 : decode cX6_check 18 = .ok (.ireturn, 1) := by decide +kernel
theorem dX6_check_19 : decode cX6_check 19 = .ok (.iload 4, 2) := by decide +kernel
theorem dX6_check_21 : decode cX6_check 21 = .ok (.aload_n 0, 1) := by decide +kernel
theorem dX6_check_22 : decode cX6_check 22 = .ok (.getfield 12, 3) := by decide +kernel
theorem dX6_check_25 : decode cX6_check 25 = .ok (.getfield 81, 3) := by decide +kernel
theorem dX6_check_28 : decode cX6_check 28 = .ok (.aload_n 0, 1) := by decide +kernel
theorem dX6_check_29 : decode cX6_check 29 = .ok (.getfield 12, 3) := by decide +kernel
theorem dX6_check_32 : decode cX6_check 32 = .ok (.getfield 88, 3) := by decide +kernel
theorem dX6_check_35 : decode cX6_check 35 = .ok (.imul, 1) := by decide +kernel
theorem dX6_check_36 : decode cX6_check 36 = .ok (.aload_n 0, 1) := by decide +kernel
theorem dX6_check_37 : decode cX6_check 37 = .ok (.getfield 12, 3) := by decide +kernel
theorem dX6_check_40 : decode cX6_check 40 = .ok (.getfield 88, 3) := by decide +kernel
theorem dX6_check_43 : decode cX6_check 43 = .ok (.iadd, 1) := by decide +kernel
theorem dX6_check_44 : decode cX6_check 44 = .ok (.if_icmp .eq 6, 3) := by decide +kernel
theorem dX6_check_47 : decode cX6_check 47 = .ok (.bipush (-2), 2) := by decide +kernel
theorem dX6_check_49 : decode cX6_check 49 = .ok (.ireturn, 1) := by decide +kernel
theorem dX6_check_50 : decode cX6_check 50 = .ok (.aload_n 0, 1) := by decide +kernel
theorem dX6_check_51 : decode cX6_check 51 = .ok (.getfield 12, 3) := by decide +kernel
theorem dX6_check_54 : decode cX6_check 54 = .ok (.aload_n 0, 1) := by decide +kernel
theorem dX6_check_55 : decode cX6_check 55 = .ok (.getfield 51, 3) := by decide +kernel
theorem dX6_check_58 : decode cX6_check 58 = .ok (.iload_n 1, 1) := by decide +kernel
theorem dX6_check_59 : decode cX6_check 59 = .ok (.aaload, 1) := by decide +kernel
theorem dX6_check_60 : decode cX6_check 60 = .ok (.getfield 98, 3) := by decide +kernel
theorem dX6_check_63 : decode cX6_check 63 = .ok (.iload_n 3, 1) := by decide +kernel
theorem dX6_check_64 : decode cX6_check 64 = .ok (.invokevirtual 171, 3) := by decide +kernel
theorem dX6_check_67 : decode cX6_check 67 = .ok (.ifCond .eq 7, 3) := by decide +kernel
theorem dX6_check_70 : decode cX6_check 70 = .ok (.iconst 1, 1) := by decide +kernel
theorem dX6_check_71 : decode cX6_check 71 = .ok (.goto 4, 3) := by decide +kernel
theorem dX6_check_74 : decode cX6_check 74 = .ok (.iconst 0, 1) := by decide +kernel
theorem dX6_check_75 : decode cX6_check 75 = .ok (.ireturn, 1) := by decide +kernel
theorem dX6_family_0 : decode cX6_family 0 = .ok (.iload_n 1, 1) := by decide +kernel
theorem dX6_family_1 : decode cX6_family 1 = .ok (.iconst (-1), 1) := by decide +kernel
theorem dX6_family_2 : decode cX6_family 2 = .ok (.if_icmp .eq 16, 3) := by decide +kernel
theorem dX6_family_5 : decode cX6_family 5 = .ok (.aload_n 0, 1) := by decide +kernel
theorem dX6_family_6 : decode cX6_family 6 = .ok (.getfield 12, 3) := by decide +kernel
theorem dX6_family_9 : decode cX6_family 9 = .ok (.iload_n 1, 1) := by decide +kernel
theorem dX6_family_10 : decode cX6_family 10 = .ok (.invokevirtual 112, 3) := by decide +kernel
theorem dX6_family_13 : decode cX6_family 13 = .ok (.ifCond .ne 5, 3) := by decide +kernel
theorem dX6_family_16 : decode cX6_family 16 = .ok (.iconst (-1), 1) := by decide +kernel
theorem dX6_family_17 : decode cX6_family 17 = .ok (.ireturn, 1) := by decide +kernel
theorem dX6_family_18 : decode cX6_family 18 = .ok (.aload_n 0, 1) := by decide +kernel
theorem dX6_family_19 : decode cX6_family 19 = .ok (.getfield 12, 3) := by decide +kernel
theorem dX6_family_22 : decode cX6_family 22 = .ok (.getfield 81, 3) := by decide +kernel
theorem dX6_family_25 : decode cX6_family 25 = .ok (.bipush 7, 2) := by decide +kernel
theorem dX6_family_27 : decode cX6_family 27 = .ok (.if_icmp .le 6, 3) := by decide +kernel
theorem dX6_family_30 : decode cX6_family 30 = .ok (.bipush (-3), 2) := by decide +kernel
theorem dX6_family_32 : decode cX6_family 32 = .ok (.ireturn, 1) := by decide +kernel
theorem dX6_family_33 : decode cX6_family 33 = .ok (.aload_n 0, 1) := by decide +kernel
theorem dX6_family_34 : decode cX6_family 34 = .ok (.invokevirtual 175, 3) := by decide +kernel
theorem dX6_family_37 : decode cX6_family 37 = .ok (.aload_n 0, 1) := by decide +kernel
theorem dX6_family_38 : decode cX6_family 38 = .ok (.getfield 38, 3) := by decide +kernel
theorem dX6_family_41 : decode cX6_family 41 = .ok (.getfield 178, 3) := by decide +kernel
theorem dX6_family_44 : decode cX6_family 44 = .ok (.ldc 181, 2) := by decide +kernel
theorem dX6_family_46 : decode cX6_family 46 = .ok (.if_icmp .ne 6, 3) := by decide +kernel
theorem dX6_family_49 : decode cX6_family 49 = .ok (.bipush (-9), 2) := by decide +kernel
theorem dX6_family_51 : decode cX6_family 51 = .ok (.ireturn, 1) := by decide +kernel
theorem dX6_family_52 : decode cX6_family 52 = .ok (.iload_n 1, 1) := by decide +kernel
theorem dX6_family_53 : decode cX6_family 53 = .ok (.iconst (-1), 1) := by decide +kernel
theorem dX6_family_54 : decode cX6_family 54 = .ok (.if_icmp .ne 13, 3) := by decide +kernel
theorem dX6_family_57 : decode cX6_family 57 = .ok (.aload_n 0, 1) := by decide +kernel
theorem dX6_family_58 : decode cX6_family 58 = .ok (.getfield 38, 3) := by decide +kernel
theorem dX6_family_61 : decode cX6_family 61 = .ok (.getfield 178, 3) := by decide +kernel
theorem dX6_family_64 : decode cX6_family 64 = .ok (.goto 12, 3) := by decide +kernel
theorem dX6_family_67 : decode cX6_family 67 = .ok (.aload_n 0, 1) := by decide +kernel
theorem dX6_family_68 : decode cX6_family 68 = .ok (.getfield 38, 3) := by decide +kernel
theorem dX6_family_71 : decode cX6_family 71 = .ok (.getfield 182, 3) := by decide +kernel
theorem dX6_family_74 : decode cX6_family 74 = .ok (.iload_n 1, 1) := by decide +kernel
theorem dX6_family_75 : decode cX6_family 75 = .ok (.iaload, 1) := by decide +kernel
theorem dX6_family_76 : decode cX6_family 76 = .ok (.ireturn, 1) := by decide +kernel
theorem dX6_even_0 : decode cX6_even 0 = .ok (.iload_n 1, 1) := by decide +kernel
theorem dX6_even_1 : decode cX6_even 1 = .ok (.iconst 0, 1) := by decide +kernel
theorem dX6_even_2 : decode cX6_even 2 = .ok (.iconst 1, 1) := by decide +kernel
theorem dX6_even_3 : decode cX6_even 3 = .ok (.invokestatic 77, 3) := by decide +kernel
theorem dX6_even_6 : decode cX6_even 6 = .ok (.ifCond .ne 6, 3) := by decide +kernel
theorem dX6_even_9 : decode cX6_even 9 = .ok (.bipush (-2), 2) := by decide +kernel
theorem dX6_even_11 : decode cX6_even 11 = .ok (.ireturn, 1) := by decide +kernel
theorem dX6_even_12 : decode cX6_even 12 = .ok (.aload_n 0, 1) := by decide +kernel
theorem dX6_even_13 : decode cX6_even 13 = .ok (.invokevirtual 185, 3) := by decide +kernel
theorem dX6_even_16 : decode cX6_even 16 = .ok (.iload_n 1, 1) := by decide +kernel
theorem dX6_even_17 : decode cX6_even 17 = .ok (.ifCond .ne 10, 3) := by decide +kernel
theorem dX6_even_20 : decode cX6_even 20 = .ok (.aload_n 0, 1) := by decide +kernel
theorem dX6_even_21 : decode cX6_even 21 = .ok (.getfield 188, 3) := by decide +kernel
theorem dX6_even_24 : decode cX6_even 24 = .ok (.goto 7, 3) := by decide +kernel
theorem dX6_even_27 : decode cX6_even 27 = .ok (.aload_n 0, 1) := by decide +kernel
theorem dX6_even_28 : decode cX6_even 28 = .ok (.getfield 191, 3) := by decide +kernel
theorem dX6_even_31 : decode cX6_even 31 = .ok (.ireturn, 1) := by decide +kernel
theorem dX6_border_0 : decode cX6_border 0 = .ok (.aload_n 0, 1) := by decide +kernel
theorem dX6_border_1 : decode cX6_border 1 = .ok (.getfield 12, 3) := by decide +kernel
theorem dX6_border_4 : decode cX6_border 4 = .ok (.iload_n 1, 1) := by decide +kernel
theorem dX6_border_5 : decode cX6_border 5 = .ok (.invokevirtual 125, 3) := by decide +kernel
theorem dX6_border_8 : decode cX6_border 8 = .ok (.ifCond .eq 28, 3) := by decide +kernel
theorem dX6_border_11 : decode cX6_border 11 = .ok (.aload_n 0, 1) := by decide +kernel
theorem dX6_border_12 : decode cX6_border 12 = .ok (.getfield 12, 3) := by decide +kernel
theorem dX6_border_15 : decode cX6_border 15 = .ok (.iload_n 2, 1) := by decide +kernel
theorem dX6_border_16 : decode cX6_border 16 = .ok (.invokevirtual 125, 3) := by decide +kernel
theorem dX6_border_19 : decode cX6_border 19 = .ok (.ifCond .eq 17, 3) := by decide +kernel
theorem dX6_border_22 : decode cX6_border 22 = .ok (.iload_n 3, 1) := by decide +kernel
theorem dX6_border_23 : decode cX6_border 23 = .ok (.iconst 0, 1) := by decide +kernel
theorem dX6_border_24 : decode cX6_border 24 = .ok (.iconst 2, 1) := by decide +kernel
theorem dX6_border_25 : decode cX6_border 25 = .ok (.invokestatic 77, 3) := by decide +kernel
theorem dX6_border_28 : decode cX6_border 28 = .ok (.ifCond .eq 8, 3) := by decide +kernel
theorem dX6_border_31 : decode cX6_border 31 = .ok (.iload_n 1, 1) := by decide +kernel
theorem dX6_border_32 : decode cX6_border 32 = .ok (.iload_n 2, 1) := by decide +kernel
theorem dX6_border_33 : decode cX6_border 33 = .ok (.if_icmp .ne 7, 3) := by decide +kernel
theorem dX6_border_36 : decode cX6_border 36 = .ok (.ldc2_w 194, 3) := by decide +kernel
theorem dX6_border_39 : decode cX6_border 39 = .ok (.lreturn, 1) := by decide +kernel
theorem dX6_border_40 : decode cX6_border 40 = .ok (.aload_n 0, 1) := by decide +kernel
theorem dX6_border_41 : decode cX6_border 41 = .ok (.getfield 12, 3) := by decide +kernel
theorem dX6_border_44 : decode cX6_border 44 = .ok (.getfield 128, 3) := by decide +kernel
theorem dX6_border_47 : decode cX6_border 47 = .ok (.iload_n 1, 1) := by decide +kernel
theorem dX6_border_48 : decode cX6_border 48 = .ok (.iaload, 1) := by decide +kernel
theorem dX6_border_49 : decode cX6_border 49 = .ok (.ifCond .ne 27, 3) := by decide +kernel
theorem dX6_border_52 : decode cX6_border 52 = .ok (.aload_n 0, 1) := by decide +kernel
theorem dX6_border_53 : decode cX6_border 53 = .ok (.getfield 12, 3) := by decide +kernel
theorem dX6_border_56 : decode cX6_border 56 = .ok (.getfield 128, 3) := by decide +kernel
theorem dX6_border_59 : decode cX6_border 59 = .ok (.iload_n 2, 1) := by decide +kernel
theorem dX6_border_60 : decode cX6_border 60 = .ok (.iaload, 1) := by decide +kernel
theorem dX6_border_61 : decode cX6_border 61 = .ok (.ifCond .ne 15, 3) := by decide +kernel
theorem dX6_border_64 : decode cX6_border 64 = .ok (.aload_n 0, 1) := by decide +kernel
theorem dX6_border_65 : decode cX6_border 65 = .ok (.getfield 12, 3) := by decide +kernel
theorem dX6_border_68 : decode cX6_border 68 = .ok (.iload_n 1, 1) := by decide +kernel
theorem dX6_border_69 : decode cX6_border 69 = .ok (.iload_n 2, 1) := by decide +kernel
theorem dX6_border_70 : decode cX6_border 70 = .ok (.invokevirtual 196, 3) := by decide +kernel
theorem dX6_border_73 : decode cX6_border 73 = .ok (.ifCond .eq 7, 3) := by decide +kernel
theorem dX6_border_76 : decode cX6_border 76 = .ok (.ldc2_w 194, 3) := by decide +kernel
theorem dX6_border_79 : decode cX6_border 79 = .ok (.lreturn, 1) := by decide +kernel
theorem dX6_border_80 : decode cX6_border 80 = .ok (.aload_n 0, 1) := by decide +kernel
theorem dX6_border_81 : decode cX6_border 81 = .ok (.invokevirtual 158, 3) := by decide +kernel
theorem dX6_border_84 : decode cX6_border 84 = .ok (.bipush (-9), 2) := by decide +kernel
theorem dX6_border_86 : decode cX6_border 86 = .ok (.if_icmp .ne 9, 3) := by decide +kernel
theorem dX6_border_89 : decode cX6_border 89 = .ok (.ldc2_w 194, 3) := by decide +kernel
theorem dX6_border_92 : decode cX6_border 92 = .ok (.goto 10, 3) := by decide +kernel
theorem dX6_border_95 : decode cX6_border 95 = .ok (.aload_n 0, 1) := by decide +kernel
theorem dX6_border_96 : decode cX6_border 96 = .ok (.iload_n 1, 1) := by decide +kernel
theorem dX6_border_97 : decode cX6_border 97 = .ok (.iload_n 2, 1) := by decide +kernel
theorem dX6_border_98 : decode cX6_border 98 = .ok (.iload_n 3, 1) := by decide +kernel
theorem dX6_border_99 : decode cX6_border 99 = .ok (.invokevirtual 199, 3) := by decide +kernel
theorem dX6_border_102 : decode cX6_border 102 = .ok (.lreturn, 1) := by decide +kernel
theorem dX6_who_0 : decode cX6_who 0 = .ok (.iload_n 1, 1) := by decide +kernel
theorem dX6_who_1 : decode cX6_who 1 = .ok (.iload_n 2, 1) := by decide +kernel
theorem dX6_who_2 : decode cX6_who 2 = .ok (.invokestatic 73, 3) := by decide +kernel
theorem dX6_who_5 : decode cX6_who 5 = .ok (.ifCond .ne 6, 3) := by decide +kernel
theorem dX6_who_8 : decode cX6_who 8 = .ok (.bipush (-2), 2) := by decide +kernel
theorem dX6_who_10 : decode cX6_who 10 = .ok (.ireturn, 1) := by decide +kernel
theorem dX6_who_11 : decode cX6_who 11 = .ok (.aload_n 0, 1) := by decide +kernel
theorem dX6_who_12 : decode cX6_who 12 = .ok (.invokevirtual 158, 3) := by decide +kernel
theorem dX6_who_15 : decode cX6_who 15 = .ok (.bipush (-9), 2) := by decide +kernel
theorem dX6_who_17 : decode cX6_who 17 = .ok (.if_icmp .ne 6, 3) := by decide +kernel
theorem dX6_who_20 : decode cX6_who 20 = .ok (.bipush (-3), 2) := by decide +kernel
theorem dX6_who_22 : decode cX6_who 22 = .ok (.ireturn, 1) := by decide +kernel
theorem dX6_who_23 : decode cX6_who 23 = .ok (.aload_n 0, 1) := by decide +kernel
theorem dX6_who_24 : decode cX6_who 24 = .ok (.iload_n 1, 1) := by decide +kernel
theorem dX6_who_25 : decode cX6_who 25 = .ok (.iload_n 2, 1) := by decide +kernel
theorem dX6_who_26 : decode cX6_who 26 = .ok (.invokevirtual 203, 3) := by decide +kernel
theorem dX6_who_29 : decode cX6_who 29 = .ok (.ireturn, 1) := by decide +kernel
theorem dX6_place_0 : decode cX6_place 0 = .ok (.iload_n 1, 1) := by decide +kernel
theorem dX6_place_1 : decode cX6_place 1 = .ok (.iload_n 2, 1) := by decide +kernel
theorem dX6_place_2 : decode cX6_place 2 = .ok (.invokestatic 73, 3) := by decide +kernel
theorem dX6_place_5 : decode cX6_place 5 = .ok (.ifCond .ne 6, 3) := by decide +kernel
theorem dX6_place_8 : decode cX6_place 8 = .ok (.bipush (-2), 2) := by decide +kernel
theorem dX6_place_10 : decode cX6_place 10 = .ok (.ireturn, 1) := by decide +kernel
theorem dX6_place_11 : decode cX6_place 11 = .ok (.aload_n 0, 1) := by decide +kernel
theorem dX6_place_12 : decode cX6_place 12 = .ok (.getfield 206, 3) := by decide +kernel
theorem dX6_place_15 : decode cX6_place 15 = .ok (.bipush 8, 2) := by decide +kernel
theorem dX6_place_17 : decode cX6_place 17 = .ok (.if_icmp .lt 6, 3) := by decide +kernel
theorem dX6_place_20 : decode cX6_place 20 = .ok (.bipush (-4), 2) := by decide +kernel
theorem dX6_place_22 : decode cX6_place 22 = .ok (.ireturn, 1) := by decide +kernel
theorem dX6_place_23 : decode cX6_place 23 = .ok (.aload_n 0, 1) := by decide +kernel
theorem dX6_place_24 : decode cX6_place 24 = .ok (.getfield 55, 3) := by decide +kernel
theorem dX6_place_27 : decode cX6_place 27 = .ok (.aload_n 0, 1) := by decide +kernel
theorem dX6_place_28 : decode cX6_place 28 = .ok (.getfield 206, 3) := by decide +kernel
theorem dX6_place_31 : decode cX6_place 31 = .ok (.iload_n 1, 1) := by decide +kernel
theorem dX6_place_32 : decode cX6_place 32 = .ok (.iastore, 1) := by decide +kernel
theorem dX6_place_33 : decode cX6_place 33 = .ok (.aload_n 0, 1) := by decide +kernel
theorem dX6_place_34 : decode cX6_place 34 = .ok (.getfield 59, 3) := by decide +kernel
theorem dX6_place_37 : decode cX6_place 37 = .ok (.aload_n 0, 1) := by decide +kernel
theorem dX6_place_38 : decode cX6_place 38 = .ok (.getfield 206, 3) := by decide +kernel
theorem dX6_place_41 : decode cX6_place 41 = .ok (.iload_n 2, 1) := by decide +kernel
theorem dX6_place_42 : decode cX6_place 42 = .ok (.iastore, 1) := by decide +kernel
theorem dX6_place_43 : decode cX6_place 43 = .ok (.aload_n 0, 1) := by decide +kernel
theorem dX6_place_44 : decode cX6_place 44 = .ok (.dup, 1) := by decide +kernel
theorem dX6_place_45 : decode cX6_place 45 = .ok (.getfield 206, 3) := by decide +kernel
theorem dX6_place_48 : decode cX6_place 48 = .ok (.dup_x1, 1) := by decide +kernel
theorem dX6_place_49 : decode cX6_place 49 = .ok (.iconst 1, 1) := by decide +kernel
theorem dX6_place_50 : decode cX6_place 50 = .ok (.iadd, 1) := by decide +kernel
theorem dX6_place_51 : decode cX6_place 51 = .ok (.putfield 206, 3) := by decide +kernel
theorem dX6_place_54 : decode cX6_place 54 = .ok (.ireturn, 1) := by decide +kernel
theorem dX6_move_0 : decode cX6_move 0 = .ok (.aload_n 0, 1) := by decide +kernel
theorem dX6_move_1 : decode cX6_move 1 = .ok (.getfield 12, 3) := by decide +kernel
theorem dX6_move_4 : decode cX6_move 4 = .ok (.iload_n 1, 1) := by decide +kernel
theorem dX6_move_5 : decode cX6_move 5 = .ok (.invokevirtual 125, 3) := by decide +kernel
theorem dX6_move_8 : decode cX6_move 8 = .ok (.ifCond .ne 5, 3) := by decide +kernel
theorem dX6_move_11 : decode cX6_move 11 = .ok (.iconst (-1), 1) := by decide +kernel
theorem dX6_move_12 : decode cX6_move 12 = .ok (.ireturn, 1) := by decide +kernel
theorem dX6_move_13 : decode cX6_move 13 = .ok (.aload_n 0, 1) := by decide +kernel
theorem dX6_move_14 : decode cX6_move 14 = .ok (.iload_n 1, 1) := by decide +kernel
theorem dX6_move_15 : decode cX6_move 15 = .ok (.invokevirtual 209, 3) := by decide +kernel
theorem dX6_move_18 : decode cX6_move 18 = .ok (.istore_n 2, 1) := by decide +kernel
theorem dX6_move_19 : decode cX6_move 19 = .ok (.iload_n 2, 1) := by decide +kernel
theorem dX6_move_20 : decode cX6_move 20 = .ok (.ifCond .ge 6, 3) := by decide +kernel
theorem dX6_move_23 : decode cX6_move 23 = .ok (.bipush (-9), 2) := by decide +kernel
theorem dX6_move_25 : decode cX6_move 25 = .ok (.ireturn, 1) := by decide +kernel
theorem dX6_move_26 : decode cX6_move 26 = .ok (.aload_n 0, 1) := by decide +kernel
theorem dX6_move_27 : decode cX6_move 27 = .ok (.getfield 12, 3) := by decide +kernel
theorem dX6_move_30 : decode cX6_move 30 = .ok (.iload_n 1, 1) := by decide +kernel
theorem dX6_move_31 : decode cX6_move 31 = .ok (.aload_n 0, 1) := by decide +kernel
theorem dX6_move_32 : decode cX6_move 32 = .ok (.getfield 55, 3) := by decide +kernel
theorem dX6_move_35 : decode cX6_move 35 = .ok (.iload_n 2, 1) := by decide +kernel
theorem dX6_move_36 : decode cX6_move 36 = .ok (.iaload, 1) := by decide +kernel
theorem dX6_move_37 : decode cX6_move 37 = .ok (.aload_n 0, 1) := by decide +kernel
theorem dX6_move_38 : decode cX6_move 38 = .ok (.getfield 59, 3) := by decide +kernel
theorem dX6_move_41 : decode cX6_move 41 = .ok (.iload_n 2, 1) := by decide +kernel
theorem dX6_move_42 : decode cX6_move 42 = .ok (.iaload, 1) := by decide +kernel
theorem dX6_move_43 : decode cX6_move 43 = .ok (.invokevirtual 212, 3) := by decide +kernel
theorem dX6_move_46 : decode cX6_move 46 = .ok (.iload_n 2, 1) := by decide +kernel
theorem dX6_move_47 : decode cX6_move 47 = .ok (.ireturn, 1) := by decide +kernel
theorem dX6_open_0 : decode cX6_open 0 = .ok (.iload_n 1, 1) := by decide +kernel
theorem dX6_open_1 : decode cX6_open 1 = .ok (.iconst 0, 1) := by decide +kernel
theorem dX6_open_2 : decode cX6_open 2 = .ok (.iconst 1, 1) := by decide +kernel
theorem dX6_open_3 : decode cX6_open 3 = .ok (.aload_n 0, 1) := by decide +kernel
theorem dX6_open_4 : decode cX6_open 4 = .ok (.getfield 12, 3) := by decide +kernel
theorem dX6_open_7 : decode cX6_open 7 = .ok (.getfield 88, 3) := by decide +kernel
theorem dX6_open_10 : decode cX6_open 10 = .ok (.ishl, 1) := by decide +kernel
theorem dX6_open_11 : decode cX6_open 11 = .ok (.iconst 1, 1) := by decide +kernel
theorem dX6_open_12 : decode cX6_open 12 = .ok (.isub, 1) := by decide +kernel
theorem dX6_open_13 : decode cX6_open 13 = .ok (.invokestatic 77, 3) := by decide +kernel
theorem dX6_open_16 : decode cX6_open 16 = .ok (.ifCond .eq 11, 3) := by decide +kernel
theorem dX6_open_19 : decode cX6_open 19 = .ok (.aload_n 0, 1) := by decide +kernel
theorem dX6_open_20 : decode cX6_open 20 = .ok (.iload_n 1, 1) := by decide +kernel
theorem dX6_open_21 : decode cX6_open 21 = .ok (.invokevirtual 216, 3) := by decide +kernel
theorem dX6_open_24 : decode cX6_open 24 = .ok (.goto 5, 3) := by decide +kernel
theorem dX6_open_27 : decode cX6_open 27 = .ok (.bipush (-2), 2) := by decide +kernel
theorem dX6_open_29 : decode cX6_open 29 = .ok (.ireturn, 1) := by decide +kernel
theorem dX6_best_0 : decode cX6_best 0 = .ok (.iload_n 1, 1) := by decide +kernel
theorem dX6_best_1 : decode cX6_best 1 = .ok (.iconst 0, 1) := by decide +kernel
theorem dX6_best_2 : decode cX6_best 2 = .ok (.aload_n 0, 1) := by decide +kernel
theorem dX6_best_3 : decode cX6_best 3 = .ok (.getfield 12, 3) := by decide +kernel
theorem dX6_best_6 : decode cX6_best 6 = .ok (.getfield 88, 3) := by decide +kernel
theorem dX6_best_9 : decode cX6_best 9 = .ok (.invokestatic 77, 3) := by decide +kernel
theorem dX6_best_12 : decode cX6_best 12 = .ok (.ifCond .ne 6, 3) := by decide +kernel
theorem dX6_best_15 : decode cX6_best 15 = .ok (.bipush (-2), 2) := by decide +kernel
theorem dX6_best_17 : decode cX6_best 17 = .ok (.ireturn, 1) := by decide +kernel
theorem dX6_best_18 : decode cX6_best 18 = .ok (.bipush (-9), 2) := by decide +kernel
theorem dX6_best_20 : decode cX6_best 20 = .ok (.istore_n 2, 1) := by decide +kernel
theorem dX6_best_21 : decode cX6_best 21 = .ok (.ldc 181, 2) := by decide +kernel
theorem dX6_best_23 : decode cX6_best 23 = .ok (.istore_n 3, 1) := by decide +kernel
theorem dX6_best_24 : decode cX6_best 24 = .ok (.iconst 0, 1) := by decide +kernel
theorem dX6_best_25 : decode cX6_best 25 = .ok (.istore 4, 2) := by decide +kernel
theorem dX6_best_27 : decode cX6_best 27 = .ok (.iload 4, 2) := by decide +kernel
theorem dX6_best_29 : decode cX6_best 29 = .ok (.iconst 1, 1) := by decide +kernel
theorem dX6_best_30 : decode cX6_best 30 = .ok (.aload_n 0, 1) := by decide +kernel
theorem dX6_best_31 : decode cX6_best 31 = .ok (.getfield 12, 3) := by decide +kernel
theorem dX6_best_34 : decode cX6_best 34 = .ok (.getfield 88, 3) := by decide +kernel
theorem dX6_best_37 : decode cX6_best 37 = .ok (.ishl, 1) := by decide +kernel
theorem dX6_best_38 : decode cX6_best 38 = .ok (.if_icmp .ge 45, 3) := by decide +kernel
theorem dX6_best_41 : decode cX6_best 41 = .ok (.iload 4, 2) := by decide +kernel
theorem dX6_best_43 : decode cX6_best 43 = .ok (.invokestatic 219, 3) := by decide +kernel
theorem dX6_best_46 : decode cX6_best 46 = .ok (.iload_n 1, 1) := by decide +kernel
theorem dX6_best_47 : decode cX6_best 47 = .ok (.if_icmp .ne 30, 3) := by decide +kernel
theorem dX6_best_50 : decode cX6_best 50 = .ok (.aload_n 0, 1) := by decide +kernel
theorem dX6_best_51 : decode cX6_best 51 = .ok (.iload 4, 2) := by decide +kernel
theorem dX6_best_53 : decode cX6_best 53 = .ok (.invokevirtual 216, 3) := by decide +kernel
theorem dX6_best_56 : decode cX6_best 56 = .ok (.istore 5, 2) := by decide +kernel
theorem dX6_best_58 : decode cX6_best 58 = .ok (.iload 5, 2) := by decide +kernel
theorem dX6_best_60 : decode cX6_best 60 = .ok (.bipush (-9), 2) := by decide +kernel
theorem dX6_best_62 : decode cX6_best 62 = .ok (.if_icmp .eq 15, 3) := by decide +kernel
theorem dX6_best_65 : decode cX6_best 65 = .ok (.iload 5, 2) := by decide +kernel
theorem dX6_best_67 : decode cX6_best 67 = .ok (.iload_n 3, 1) := by decide +kernel
theorem dX6_best_68 : decode cX6_best 68 = .ok (.if_icmp .ge 9, 3) := by decide +kernel
theorem dX6_best_71 : decode cX6_best 71 = .ok (.iload 5, 2) := by decide +kernel
theorem dX6_best_73 : decode cX6_best 73 = .ok (.istore_n 3, 1) := by decide +kernel
theorem dX6_best_74 : decode cX6_best 74 = .ok (.iload 4, 2) := by decide +kernel
theorem dX6_best_76 : decode cX6_best 76 = .ok (.istore_n 2, 1) := by decide +kernel
theorem dX6_best_77 : decode cX6_best 77 = .ok (.iinc 4 1, 3) := by decide +kernel
theorem dX6_best_80 : decode cX6_best 80 = .ok (.goto (-53), 3) := by decide +kernel
theorem dX6_best_83 : decode cX6_best 83 = .ok (.iload_n 2, 1) := by decide +kernel
theorem dX6_best_84 : decode cX6_best 84 = .ok (.ireturn, 1) := by decide +kernel
theorem dX6_sheet_0 : decode cX6_sheet 0 = .ok (.aload_n 0, 1) := by decide +kernel
theorem dX6_sheet_1 : decode cX6_sheet 1 = .ok (.iconst 0, 1) := by decide +kernel
theorem dX6_sheet_2 : decode cX6_sheet 2 = .ok (.putfield 224, 3) := by decide +kernel
theorem dX6_sheet_5 : decode cX6_sheet 5 = .ok (.iload_n 1, 1) := by decide +kernel
theorem dX6_sheet_6 : decode cX6_sheet 6 = .ok (.invokestatic 227, 3) := by decide +kernel
theorem dX6_sheet_9 : decode cX6_sheet 9 = .ok (.ifCond .ne 5, 3) := by decide +kernel
theorem dX6_sheet_12 : decode cX6_sheet 12 = .ok (.iconst (-1), 1) := by decide +kernel
theorem dX6_sheet_13 : decode cX6_sheet 13 = .ok (.ireturn, 1) := by decide +kernel
theorem dX6_sheet_14 : decode cX6_sheet 14 = .ok (.iload_n 2, 1) := by decide +kernel
theorem dX6_sheet_15 : decode cX6_sheet 15 = .ok (.invokestatic 230, 3) := by decide +kernel
theorem dX6_sheet_18 : decode cX6_sheet 18 = .ok (.ifCond .eq 9, 3) := by decide +kernel
theorem dX6_sheet_21 : decode cX6_sheet 21 = .ok (.iload_n 3, 1) := by decide +kernel
theorem dX6_sheet_22 : decode cX6_sheet 22 = .ok (.bipush 80, 2) := by decide +kernel
theorem dX6_sheet_24 : decode cX6_sheet 24 = .ok (.if_icmp .le 6, 3) := by decide +kernel
theorem dX6_sheet_27 : decode cX6_sheet 27 = .ok (.bipush (-2), 2) := by decide +kernel
theorem dX6_sheet_29 : decode cX6_sheet 29 = .ok (.ireturn, 1) := by decide +kernel
theorem dX6_sheet_30 : decode cX6_sheet 30 = .ok (.iload_n 3, 1) := by decide +kernel
theorem dX6_sheet_31 : decode cX6_sheet 31 = .ok (.ifCond .ge 9, 3) := by decide +kernel
theorem dX6_sheet_34 : decode cX6_sheet 34 = .ok (.aload_n 0, 1) := by decide +kernel
theorem dX6_sheet_35 : decode cX6_sheet 35 = .ok (.iconst 4, 1) := by decide +kernel
theorem dX6_sheet_36 : decode cX6_sheet 36 = .ok (.invokevirtual 233, 3) := by decide +kernel
theorem dX6_sheet_39 : decode cX6_sheet 39 = .ok (.ireturn, 1) := by decide +kernel
theorem dX6_sheet_40 : decode cX6_sheet 40 = .ok (.aload_n 0, 1) := by decide +kernel
theorem dX6_sheet_41 : decode cX6_sheet 41 = .ok (.getfield 51, 3) := by decide +kernel
theorem dX6_sheet_44 : decode cX6_sheet 44 = .ok (.iload_n 1, 1) := by decide +kernel
theorem dX6_sheet_45 : decode cX6_sheet 45 = .ok (.aaload, 1) := by decide +kernel
theorem dX6_sheet_46 : decode cX6_sheet 46 = .ok (.iload_n 2, 1) := by decide +kernel
theorem dX6_sheet_47 : decode cX6_sheet 47 = .ok (.iload_n 3, 1) := by decide +kernel
theorem dX6_sheet_48 : decode cX6_sheet 48 = .ok (.invokevirtual 236, 3) := by decide +kernel
theorem dX6_sheet_51 : decode cX6_sheet 51 = .ok (.iconst 1, 1) := by decide +kernel
theorem dX6_sheet_52 : decode cX6_sheet 52 = .ok (.ireturn, 1) := by decide +kernel
theorem dX6_lose_0 : decode cX6_lose 0 = .ok (.iload_n 1, 1) := by decide +kernel
theorem dX6_lose_1 : decode cX6_lose 1 = .ok (.invokestatic 227, 3) := by decide +kernel
theorem dX6_lose_4 : decode cX6_lose 4 = .ok (.ifCond .ne 5, 3) := by decide +kernel
theorem dX6_lose_7 : decode cX6_lose 7 = .ok (.iconst (-1), 1) := by decide +kernel
theorem dX6_lose_8 : decode cX6_lose 8 = .ok (.ireturn, 1) := by decide +kernel
theorem dX6_lose_9 : decode cX6_lose 9 = .ok (.aload_n 0, 1) := by decide +kernel
theorem dX6_lose_10 : decode cX6_lose 10 = .ok (.getfield 51, 3) := by decide +kernel
theorem dX6_lose_13 : decode cX6_lose 13 = .ok (.iload_n 1, 1) := by decide +kernel
theorem dX6_lose_14 : decode cX6_lose 14 = .ok (.aaload, 1) := by decide +kernel
theorem dX6_lose_15 : decode cX6_lose 15 = .ok (.getfield 239, 3) := by decide +kernel
theorem dX6_lose_18 : decode cX6_lose 18 = .ok (.ifCond .ne 5, 3) := by decide +kernel
theorem dX6_lose_21 : decode cX6_lose 21 = .ok (.iconst 0, 1) := by decide +kernel
theorem dX6_lose_22 : decode cX6_lose 22 = .ok (.ireturn, 1) := by decide +kernel
theorem dX6_lose_23 : decode cX6_lose 23 = .ok (.aload_n 0, 1) := by decide +kernel
theorem dX6_lose_24 : decode cX6_lose 24 = .ok (.getfield 51, 3) := by decide +kernel
theorem dX6_lose_27 : decode cX6_lose 27 = .ok (.iload_n 1, 1) := by decide +kernel
theorem dX6_lose_28 : decode cX6_lose 28 = .ok (.aaload, 1) := by decide +kernel
theorem dX6_lose_29 : decode cX6_lose 29 = .ok (.iconst 0, 1) := by decide +kernel
theorem dX6_lose_30 : decode cX6_lose 30 = .ok (.putfield 239, 3) := by decide +kernel
theorem dX6_lose_33 : decode cX6_lose 33 = .ok (.iconst 1, 1) := by decide +kernel
theorem dX6_lose_34 : decode cX6_lose 34 = .ok (.ireturn, 1) := by decide +kernel
theorem dX6_put_0 : decode cX6_put 0 = .ok (.aload_n 0, 1) := by decide +kernel
theorem dX6_put_1 : decode cX6_put 1 = .ok (.iconst 0, 1) := by decide +kernel
theorem dX6_put_2 : decode cX6_put 2 = .ok (.putfield 224, 3) := by decide +kernel
theorem dX6_put_5 : decode cX6_put 5 = .ok (.iload_n 1, 1) := by decide +kernel
theorem dX6_put_6 : decode cX6_put 6 = .ok (.invokestatic 227, 3) := by decide +kernel
theorem dX6_put_9 : decode cX6_put 9 = .ok (.ifCond .ne 5, 3) := by decide +kernel
theorem dX6_put_12 : decode cX6_put 12 = .ok (.iconst (-1), 1) := by decide +kernel
theorem dX6_put_13 : decode cX6_put 13 = .ok (.ireturn, 1) := by decide +kernel
theorem dX6_put_14 : decode cX6_put 14 = .ok (.aload_n 0, 1) := by decide +kernel
theorem dX6_put_15 : decode cX6_put 15 = .ok (.getfield 51, 3) := by decide +kernel
theorem dX6_put_18 : decode cX6_put 18 = .ok (.iload_n 1, 1) := by decide +kernel
theorem dX6_put_19 : decode cX6_put 19 = .ok (.aaload, 1) := by decide +kernel
theorem dX6_put_20 : decode cX6_put 20 = .ok (.getfield 239, 3) := by decide +kernel
theorem dX6_put_23 : decode cX6_put 23 = .ok (.ifCond .ne 9, 3) := by decide +kernel
theorem dX6_put_26 : decode cX6_put 26 = .ok (.aload_n 0, 1) := by decide +kernel
theorem dX6_put_27 : decode cX6_put 27 = .ok (.iconst 1, 1) := by decide +kernel
theorem dX6_put_28 : decode cX6_put 28 = .ok (.invokevirtual 233, 3) := by decide +kernel
theorem dX6_put_31 : decode cX6_put 31 = .ok (.ireturn, 1) := by decide +kernel
theorem dX6_put_32 : decode cX6_put 32 = .ok (.aload_n 0, 1) := by decide +kernel
theorem dX6_put_33 : decode cX6_put 33 = .ok (.getfield 51, 3) := by decide +kernel
theorem dX6_put_36 : decode cX6_put 36 = .ok (.iload_n 1, 1) := by decide +kernel
theorem dX6_put_37 : decode cX6_put 37 = .ok (.aaload, 1) := by decide +kernel
theorem dX6_put_38 : decode cX6_put 38 = .ok (.iload_n 2, 1) := by decide +kernel
theorem dX6_put_39 : decode cX6_put 39 = .ok (.invokevirtual 243, 3) := by decide +kernel
theorem dX6_put_42 : decode cX6_put 42 = .ok (.ifCond .ne 9, 3) := by decide +kernel
theorem dX6_put_45 : decode cX6_put 45 = .ok (.aload_n 0, 1) := by decide +kernel
theorem dX6_put_46 : decode cX6_put 46 = .ok (.iconst 3, 1) := by decide +kernel
theorem dX6_put_47 : decode cX6_put 47 = .ok (.invokevirtual 233, 3) := by decide +kernel
theorem dX6_put_50 : decode cX6_put 50 = .ok (.ireturn, 1) := by decide +kernel
theorem dX6_put_51 : decode cX6_put 51 = .ok (.aload_n 0, 1) := by decide +kernel
theorem dX6_put_52 : decode cX6_put 52 = .ok (.getfield 51, 3) := by decide +kernel
theorem dX6_put_55 : decode cX6_put 55 = .ok (.iload_n 1, 1) := by decide +kernel
theorem dX6_put_56 : decode cX6_put 56 = .ok (.aaload, 1) := by decide +kernel
theorem dX6_put_57 : decode cX6_put 57 = .ok (.iload_n 2, 1) := by decide +kernel
theorem dX6_put_58 : decode cX6_put 58 = .ok (.iload_n 3, 1) := by decide +kernel
theorem dX6_put_59 : decode cX6_put 59 = .ok (.invokevirtual 246, 3) := by decide +kernel
theorem dX6_put_62 : decode cX6_put 62 = .ok (.iconst 1, 1) := by decide +kernel
theorem dX6_put_63 : decode cX6_put 63 = .ok (.ireturn, 1) := by decide +kernel
theorem dX6_cell_0 : decode cX6_cell 0 = .ok (.aload_n 0, 1) := by decide +kernel
theorem dX6_cell_1 : decode cX6_cell 1 = .ok (.iconst 0, 1) := by decide +kernel
theorem dX6_cell_2 : decode cX6_cell 2 = .ok (.putfield 224, 3) := by decide +kernel
theorem dX6_cell_5 : decode cX6_cell 5 = .ok (.iload_n 1, 1) := by decide +kernel
theorem dX6_cell_6 : decode cX6_cell 6 = .ok (.invokestatic 227, 3) := by decide +kernel
theorem dX6_cell_9 : decode cX6_cell 9 = .ok (.ifCond .eq 10, 3) := by decide +kernel
theorem dX6_cell_12 : decode cX6_cell 12 = .ok (.iload_n 3, 1) := by decide +kernel
theorem dX6_cell_13 : decode cX6_cell 13 = .ok (.invokestatic 230, 3) := by decide +kernel
theorem dX6_cell_16 : decode cX6_cell 16 = .ok (.ifCond .ne 7, 3) := by decide +kernel
theorem dX6_cell_19 : decode cX6_cell 19 = .ok (.ldc2_w 194, 3) := by decide +kernel
theorem dX6_cell_22 : decode cX6_cell 22 = .ok (.lreturn, 1) := by decide +kernel
theorem dX6_cell_23 : decode cX6_cell 23 = .ok (.aload_n 0, 1) := by decide +kernel
theorem dX6_cell_24 : decode cX6_cell 24 = .ok (.getfield 51, 3) := by decide +kernel
theorem dX6_cell_27 : decode cX6_cell 27 = .ok (.iload_n 1, 1) := by decide +kernel
theorem dX6_cell_28 : decode cX6_cell 28 = .ok (.aaload, 1) := by decide +kernel
theorem dX6_cell_29 : decode cX6_cell 29 = .ok (.astore 4, 2) := by decide +kernel
theorem dX6_cell_31 : decode cX6_cell 31 = .ok (.aload 4, 2) := by decide +kernel
theorem dX6_cell_33 : decode cX6_cell 33 = .ok (.getfield 239, 3) := by decide +kernel
theorem dX6_cell_36 : decode cX6_cell 36 = .ok (.ifCond .ne 11, 3) := by decide +kernel
theorem dX6_cell_39 : decode cX6_cell 39 = .ok (.aload_n 0, 1) := by decide +kernel
theorem dX6_cell_40 : decode cX6_cell 40 = .ok (.iconst 1, 1) := by decide +kernel
theorem dX6_cell_41 : decode cX6_cell 41 = .ok (.putfield 224, 3) := by decide +kernel
theorem dX6_cell_44 : decode cX6_cell 44 = .ok (.goto 46, 3) := by decide +kernel
theorem dX6_cell_47 : decode cX6_cell 47 = .ok (.aload 4, 2) := by decide +kernel
theorem dX6_cell_49 : decode cX6_cell 49 = .ok (.getfield 249, 3) := by decide +kernel
theorem dX6_cell_52 : decode cX6_cell 52 = .ok (.iload_n 3, 1) := by decide +kernel
theorem dX6_cell_53 : decode cX6_cell 53 = .ok (.if_icmp .eq 11, 3) := by decide +kernel
theorem dX6_cell_56 : decode cX6_cell 56 = .ok (.aload_n 0, 1) := by decide +kernel
theorem dX6_cell_57 : decode cX6_cell 57 = .ok (.iconst 2, 1) := by decide +kernel
theorem dX6_cell_58 : decode cX6_cell 58 = .ok (.putfield 224, 3) := by decide +kernel
theorem dX6_cell_61 : decode cX6_cell 61 = .ok (.goto 29, 3) := by decide +kernel
theorem dX6_cell_64 : decode cX6_cell 64 = .ok (.aload 4, 2) := by decide +kernel
theorem dX6_cell_66 : decode cX6_cell 66 = .ok (.iload_n 2, 1) := by decide +kernel
theorem dX6_cell_67 : decode cX6_cell 67 = .ok (.invokevirtual 243, 3) := by decide +kernel
theorem dX6_cell_70 : decode cX6_cell 70 = .ok (.ifCond .ne 11, 3) := by decide +kernel
theorem dX6_cell_73 : decode cX6_cell 73 = .ok (.aload_n 0, 1) := by decide +kernel
theorem dX6_cell_74 : decode cX6_cell 74 = .ok (.iconst 3, 1) := by decide +kernel
theorem dX6_cell_75 : decode cX6_cell 75 = .ok (.putfield 224, 3) := by decide +kernel
theorem dX6_cell_78 : decode cX6_cell 78 = .ok (.goto 12, 3) := by decide +kernel
theorem dX6_cell_81 : decode cX6_cell 81 = .ok (.aload 4, 2) := by decide +kernel
theorem dX6_cell_83 : decode cX6_cell 83 = .ok (.getfield 98, 3) := by decide +kernel
theorem dX6_cell_86 : decode cX6_cell 86 = .ok (.iload_n 2, 1) := by decide +kernel
theorem dX6_cell_87 : decode cX6_cell 87 = .ok (.iaload, 1) := by decide +kernel
theorem dX6_cell_88 : decode cX6_cell 88 = .ok (.i2l, 1) := by decide +kernel
theorem dX6_cell_89 : decode cX6_cell 89 = .ok (.lreturn, 1) := by decide +kernel
theorem dX6_cell_90 : decode cX6_cell 90 = .ok (.ldc2_w 194, 3) := by decide +kernel
theorem dX6_cell_93 : decode cX6_cell 93 = .ok (.lreturn, 1) := by decide +kernel
theorem dX6_copy_0 : decode cX6_copy 0 = .ok (.aload_n 0, 1) := by decide +kernel
theorem dX6_copy_1 : decode cX6_copy 1 = .ok (.iconst 0, 1) := by decide +kernel
theorem dX6_copy_2 : decode cX6_copy 2 = .ok (.putfield 224, 3) := by decide +kernel
theorem dX6_copy_5 : decode cX6_copy 5 = .ok (.iload_n 1, 1) := by decide +kernel
theorem dX6_copy_6 : decode cX6_copy 6 = .ok (.invokestatic 227, 3) := by decide +kernel
theorem dX6_copy_9 : decode cX6_copy 9 = .ok (.ifCond .eq 10, 3) := by decide +kernel
theorem dX6_copy_12 : decode cX6_copy 12 = .ok (.iload_n 3, 1) := by decide +kernel
theorem dX6_copy_13 : decode cX6_copy 13 = .ok (.invokestatic 227, 3) := by decide +kernel
theorem dX6_copy_16 : decode cX6_copy 16 = .ok (.ifCond .ne 5, 3) := by decide +kernel
theorem dX6_copy_19 : decode cX6_copy 19 = .ok (.iconst (-1), 1) := by decide +kernel
theorem dX6_copy_20 : decode cX6_copy 20 = .ok (.ireturn, 1) := by decide +kernel
theorem dX6_copy_21 : decode cX6_copy 21 = .ok (.aload_n 0, 1) := by decide +kernel
theorem dX6_copy_22 : decode cX6_copy 22 = .ok (.getfield 51, 3) := by decide +kernel
theorem dX6_copy_25 : decode cX6_copy 25 = .ok (.iload_n 1, 1) := by decide +kernel
theorem dX6_copy_26 : decode cX6_copy 26 = .ok (.aaload, 1) := by decide +kernel
theorem dX6_copy_27 : decode cX6_copy 27 = .ok (.astore 6, 2) := by decide +kernel
theorem dX6_copy_29 : decode cX6_copy 29 = .ok (.aload_n 0, 1) := by decide +kernel
theorem dX6_copy_30 : decode cX6_copy 30 = .ok (.getfield 51, 3) := by decide +kernel
theorem dX6_copy_33 : decode cX6_copy 33 = .ok (.iload_n 3, 1) := by decide +kernel
theorem dX6_copy_34 : decode cX6_copy 34 = .ok (.aaload, 1) := by decide +kernel
theorem dX6_copy_35 : decode cX6_copy 35 = .ok (.astore 7, 2) := by decide +kernel
theorem dX6_copy_37 : decode cX6_copy 37 = .ok (.aload 6, 2) := by decide +kernel
theorem dX6_copy_39 : decode cX6_copy 39 = .ok (.getfield 239, 3) := by decide +kernel
theorem dX6_copy_42 : decode cX6_copy 42 = .ok (.ifCond .eq 11, 3) := by decide +kernel
theorem dX6_copy_45 : decode cX6_copy 45 = .ok (.aload 7, 2) := by decide +kernel
theorem dX6_copy_47 : decode cX6_copy 47 = .ok (.getfield 239, 3) := by decide +kernel
theorem dX6_copy_50 : decode cX6_copy 50 = .ok (.ifCond .ne 9, 3) := by decide +kernel
theorem dX6_copy_53 : decode cX6_copy 53 = .ok (.aload_n 0, 1) := by decide +kernel
theorem dX6_copy_54 : decode cX6_copy 54 = .ok (.iconst 1, 1) := by decide +kernel
theorem dX6_copy_55 : decode cX6_copy 55 = .ok (.invokevirtual 233, 3) := by decide +kernel
theorem dX6_copy_58 : decode cX6_copy 58 = .ok (.ireturn, 1) := by decide +kernel
theorem dX6_copy_59 : decode cX6_copy 59 = .ok (.aload 6, 2) := by decide +kernel
theorem dX6_copy_61 : decode cX6_copy 61 = .ok (.getfield 249, 3) := by decide +kernel
theorem dX6_copy_64 : decode cX6_copy 64 = .ok (.aload 7, 2) := by decide +kernel
theorem dX6_copy_66 : decode cX6_copy 66 = .ok (.getfield 249, 3) := by decide +kernel
theorem dX6_copy_69 : decode cX6_copy 69 = .ok (.if_icmp .eq 9, 3) := by decide +kernel
theorem dX6_copy_72 : decode cX6_copy 72 = .ok (.aload_n 0, 1) := by decide +kernel
theorem dX6_copy_73 : decode cX6_copy 73 = .ok (.iconst 2, 1) := by decide +kernel
theorem dX6_copy_74 : decode cX6_copy 74 = .ok (.invokevirtual 233, 3) := by decide +kernel
theorem dX6_copy_77 : decode cX6_copy 77 = .ok (.ireturn, 1) := by decide +kernel
theorem dX6_copy_78 : decode cX6_copy 78 = .ok (.iload 5, 2) := by decide +kernel
theorem dX6_copy_80 : decode cX6_copy 80 = .ok (.ifCond .lt 26, 3) := by decide +kernel
theorem dX6_copy_83 : decode cX6_copy 83 = .ok (.aload 6, 2) := by decide +kernel
theorem dX6_copy_85 : decode cX6_copy 85 = .ok (.iload_n 2, 1) := by decide +kernel
theorem dX6_copy_86 : decode cX6_copy 86 = .ok (.iload 5, 2) := by decide +kernel
theorem dX6_copy_88 : decode cX6_copy 88 = .ok (.invokevirtual 252, 3) := by decide +kernel
theorem dX6_copy_91 : decode cX6_copy 91 = .ok (.ifCond .eq 15, 3) := by decide +kernel
theorem dX6_copy_94 : decode cX6_copy 94 = .ok (.aload 7, 2) := by decide +kernel
theorem dX6_copy_96 : decode cX6_copy 96 = .ok (.iload 4, 2) := by decide +kernel
theorem dX6_copy_98 : decode cX6_copy 98 = .ok (.iload 5, 2) := by decide +kernel
theorem dX6_copy_100 : decode cX6_copy 100 = .ok (.invokevirtual 252, 3) := by decide +kernel
theorem dX6_copy_103 : decode cX6_copy 103 = .ok (.ifCond .ne 9, 3) := by decide +kernel
theorem dX6_copy_106 : decode cX6_copy 106 = .ok (.aload_n 0, 1) := by decide +kernel
theorem dX6_copy_107 : decode cX6_copy 107 = .ok (.iconst 3, 1) := by decide +kernel
theorem dX6_copy_108 : decode cX6_copy 108 = .ok (.invokevirtual 233, 3) := by decide +kernel
theorem dX6_copy_111 : decode cX6_copy 111 = .ok (.ireturn, 1) := by decide +kernel
theorem dX6_copy_112 : decode cX6_copy 112 = .ok (.aload 6, 2) := by decide +kernel
theorem dX6_copy_114 : decode cX6_copy 114 = .ok (.getfield 98, 3) := by decide +kernel
theorem dX6_copy_117 : decode cX6_copy 117 = .ok (.iload_n 2, 1) := by decide +kernel
theorem dX6_copy_118 : decode cX6_copy 118 = .ok (.aload 7, 2) := by decide +kernel
theorem dX6_copy_120 : decode cX6_copy 120 = .ok (.getfield 98, 3) := by decide +kernel
theorem dX6_copy_123 : decode cX6_copy 123 = .ok (.iload 4, 2) := by decide +kernel
theorem dX6_copy_125 : decode cX6_copy 125 = .ok (.iload 5, 2) := by decide +kernel
theorem dX6_copy_127 : decode cX6_copy 127 = .ok (.invokestatic 255, 3) := by decide +kernel
theorem dX6_copy_130 : decode cX6_copy 130 = .ok (.iload 5, 2) := by decide +kernel
theorem dX6_copy_132 : decode cX6_copy 132 = .ok (.ireturn, 1) := by decide +kernel
theorem dX6_tell_0 : decode cX6_tell 0 = .ok (.aload_n 0, 1) := by decide +kernel
theorem dX6_tell_1 : decode cX6_tell 1 = .ok (.getfield 12, 3) := by decide +kernel
theorem dX6_tell_4 : decode cX6_tell 4 = .ok (.iload_n 1, 1) := by decide +kernel
theorem dX6_tell_5 : decode cX6_tell 5 = .ok (.invokevirtual 125, 3) := by decide +kernel
theorem dX6_tell_8 : decode cX6_tell 8 = .ok (.ifCond .eq 31, 3) := by decide +kernel
theorem dX6_tell_11 : decode cX6_tell 11 = .ok (.aload_n 0, 1) := by decide +kernel
theorem dX6_tell_12 : decode cX6_tell 12 = .ok (.getfield 45, 3) := by decide +kernel
theorem dX6_tell_15 : decode cX6_tell 15 = .ok (.aload_n 0, 1) := by decide +kernel
theorem dX6_tell_16 : decode cX6_tell 16 = .ok (.getfield 12, 3) := by decide +kernel
theorem dX6_tell_19 : decode cX6_tell 19 = .ok (.getfield 128, 3) := by decide +kernel
theorem dX6_tell_22 : decode cX6_tell 22 = .ok (.iload_n 1, 1) := by decide +kernel
theorem dX6_tell_23 : decode cX6_tell 23 = .ok (.iaload, 1) := by decide +kernel
theorem dX6_tell_24 : decode cX6_tell 24 = .ok (.aload_n 0, 1) := by decide +kernel
theorem dX6_tell_25 : decode cX6_tell 25 = .ok (.getfield 12, 3) := by decide +kernel
theorem dX6_tell_28 : decode cX6_tell 28 = .ok (.getfield 137, 3) := by decide +kernel
theorem dX6_tell_31 : decode cX6_tell 31 = .ok (.iload_n 1, 1) := by decide +kernel
theorem dX6_tell_32 : decode cX6_tell 32 = .ok (.iaload, 1) := by decide +kernel
theorem dX6_tell_33 : decode cX6_tell 33 = .ok (.invokevirtual 261, 3) := by decide +kernel
theorem dX6_tell_36 : decode cX6_tell 36 = .ok (.goto 4, 3) := by decide +kernel
theorem dX6_tell_39 : decode cX6_tell 39 = .ok (.iconst (-1), 1) := by decide +kernel
theorem dX6_tell_40 : decode cX6_tell 40 = .ok (.ireturn, 1) := by decide +kernel
theorem dX6_ring_0 : decode cX6_ring 0 = .ok (.aload_n 0, 1) := by decide +kernel
theorem dX6_ring_1 : decode cX6_ring 1 = .ok (.getfield 12, 3) := by decide +kernel
theorem dX6_ring_4 : decode cX6_ring 4 = .ok (.iload_n 1, 1) := by decide +kernel
theorem dX6_ring_5 : decode cX6_ring 5 = .ok (.invokevirtual 125, 3) := by decide +kernel
theorem dX6_ring_8 : decode cX6_ring 8 = .ok (.ifCond .eq 23, 3) := by decide +kernel
theorem dX6_ring_11 : decode cX6_ring 11 = .ok (.aload_n 0, 1) := by decide +kernel
theorem dX6_ring_12 : decode cX6_ring 12 = .ok (.getfield 45, 3) := by decide +kernel
theorem dX6_ring_15 : decode cX6_ring 15 = .ok (.aload_n 0, 1) := by decide +kernel
theorem dX6_ring_16 : decode cX6_ring 16 = .ok (.getfield 12, 3) := by decide +kernel
theorem dX6_ring_19 : decode cX6_ring 19 = .ok (.getfield 128, 3) := by decide +kernel
theorem dX6_ring_22 : decode cX6_ring 22 = .ok (.iload_n 1, 1) := by decide +kernel
theorem dX6_ring_23 : decode cX6_ring 23 = .ok (.iaload, 1) := by decide +kernel
theorem dX6_ring_24 : decode cX6_ring 24 = .ok (.iload_n 1, 1) := by decide +kernel
theorem dX6_ring_25 : decode cX6_ring 25 = .ok (.invokevirtual 264, 3) := by decide +kernel
theorem dX6_ring_28 : decode cX6_ring 28 = .ok (.goto 4, 3) := by decide +kernel
theorem dX6_ring_31 : decode cX6_ring 31 = .ok (.iconst (-1), 1) := by decide +kernel
theorem dX6_ring_32 : decode cX6_ring 32 = .ok (.ireturn, 1) := by decide +kernel
theorem dX6_as_0 : decode cX6_as 0 = .ok (.aload_n 0, 1) := by decide +kernel
theorem dX6_as_1 : decode cX6_as 1 = .ok (.iconst 0, 1) := by decide +kernel
theorem dX6_as_2 : decode cX6_as 2 = .ok (.putfield 224, 3) := by decide +kernel
theorem dX6_as_5 : decode cX6_as 5 = .ok (.aload_n 0, 1) := by decide +kernel
theorem dX6_as_6 : decode cX6_as 6 = .ok (.getfield 12, 3) := by decide +kernel
theorem dX6_as_9 : decode cX6_as 9 = .ok (.iload_n 1, 1) := by decide +kernel
theorem dX6_as_10 : decode cX6_as 10 = .ok (.invokevirtual 125, 3) := by decide +kernel
theorem dX6_as_13 : decode cX6_as 13 = .ok (.ifCond .ne 5, 3) := by decide +kernel
theorem dX6_as_16 : decode cX6_as 16 = .ok (.iconst (-1), 1) := by decide +kernel
theorem dX6_as_17 : decode cX6_as 17 = .ok (.ireturn, 1) := by decide +kernel
theorem dX6_as_18 : decode cX6_as 18 = .ok (.iload_n 2, 1) := by decide +kernel
theorem dX6_as_19 : decode cX6_as 19 = .ok (.iconst 0, 1) := by decide +kernel
theorem dX6_as_20 : decode cX6_as 20 = .ok (.iconst 2, 1) := by decide +kernel
theorem dX6_as_21 : decode cX6_as 21 = .ok (.invokestatic 77, 3) := by decide +kernel
theorem dX6_as_24 : decode cX6_as 24 = .ok (.ifCond .ne 6, 3) := by decide +kernel
theorem dX6_as_27 : decode cX6_as 27 = .ok (.bipush (-2), 2) := by decide +kernel
theorem dX6_as_29 : decode cX6_as 29 = .ok (.ireturn, 1) := by decide +kernel
theorem dX6_as_30 : decode cX6_as 30 = .ok (.aload_n 0, 1) := by decide +kernel
theorem dX6_as_31 : decode cX6_as 31 = .ok (.getfield 12, 3) := by decide +kernel
theorem dX6_as_34 : decode cX6_as 34 = .ok (.getfield 128, 3) := by decide +kernel
theorem dX6_as_37 : decode cX6_as 37 = .ok (.iload_n 1, 1) := by decide +kernel
theorem dX6_as_38 : decode cX6_as 38 = .ok (.iaload, 1) := by decide +kernel
theorem dX6_as_39 : decode cX6_as 39 = .ok (.iload_n 2, 1) := by decide +kernel
theorem dX6_as_40 : decode cX6_as 40 = .ok (.if_icmp .ge 11, 3) := by decide +kernel
theorem dX6_as_43 : decode cX6_as 43 = .ok (.aload_n 0, 1) := by decide +kernel
theorem dX6_as_44 : decode cX6_as 44 = .ok (.iconst 2, 1) := by decide +kernel
theorem dX6_as_45 : decode cX6_as 45 = .ok (.invokevirtual 233, 3) := by decide +kernel
theorem dX6_as_48 : decode cX6_as 48 = .ok (.goto 4, 3) := by decide +kernel
theorem dX6_as_51 : decode cX6_as 51 = .ok (.iconst 1, 1) := by decide +kernel
theorem dX6_as_52 : decode cX6_as 52 = .ok (.ireturn, 1) := by decide +kernel
theorem dX6_trace_0 : decode cX6_trace 0 = .ok (.aload_n 0, 1) := by decide +kernel
theorem dX6_trace_1 : decode cX6_trace 1 = .ok (.getfield 45, 3) := by decide +kernel
theorem dX6_trace_4 : decode cX6_trace 4 = .ok (.getfield 267, 3) := by decide +kernel
theorem dX6_trace_7 : decode cX6_trace 7 = .ok (.ireturn, 1) := by decide +kernel
theorem dX6_fault_0 : decode cX6_fault 0 = .ok (.aload_n 0, 1) := by decide +kernel
theorem dX6_fault_1 : decode cX6_fault 1 = .ok (.getfield 224, 3) := by decide +kernel
theorem dX6_fault_4 : decode cX6_fault 4 = .ok (.ireturn, 1) := by decide +kernel
theorem dX6_many_0 : decode cX6_many 0 = .ok (.iload_n 1, 1) := by decide +kernel
theorem dX6_many_1 : decode cX6_many 1 = .ok (.tableswitch 92 0 4 #[35, 43, 51, 56, 74], 35) := by decide +kernel
theorem dX6_many_36 : decode cX6_many 36 = .ok (.aload_n 0, 1) := by decide +kernel
theorem dX6_many_37 : decode cX6_many 37 = .ok (.getfield 12, 3) := by decide +kernel
theorem dX6_many_40 : decode cX6_many 40 = .ok (.getfield 81, 3) := by decide +kernel
theorem dX6_many_43 : decode cX6_many 43 = .ok (.ireturn, 1) := by decide +kernel
theorem dX6_many_44 : decode cX6_many 44 = .ok (.aload_n 0, 1) := by decide +kernel
theorem dX6_many_45 : decode cX6_many 45 = .ok (.getfield 12, 3) := by decide +kernel
theorem dX6_many_48 : decode cX6_many 48 = .ok (.getfield 88, 3) := by decide +kernel
theorem dX6_many_51 : decode cX6_many 51 = .ok (.ireturn, 1) := by decide +kernel
theorem dX6_many_52 : decode cX6_many 52 = .ok (.aload_n 0, 1) := by decide +kernel
theorem dX6_many_53 : decode cX6_many 53 = .ok (.getfield 206, 3) := by decide +kernel
theorem dX6_many_56 : decode cX6_many 56 = .ok (.ireturn, 1) := by decide +kernel
theorem dX6_many_57 : decode cX6_many 57 = .ok (.aload_n 0, 1) := by decide +kernel
theorem dX6_many_58 : decode cX6_many 58 = .ok (.getfield 12, 3) := by decide +kernel
theorem dX6_many_61 : decode cX6_many 61 = .ok (.getfield 122, 3) := by decide +kernel
theorem dX6_many_64 : decode cX6_many 64 = .ok (.aload_n 0, 1) := by decide +kernel
theorem dX6_many_65 : decode cX6_many 65 = .ok (.getfield 12, 3) := by decide +kernel
theorem dX6_many_68 : decode cX6_many 68 = .ok (.getfield 81, 3) := by decide +kernel
theorem dX6_many_71 : decode cX6_many 71 = .ok (.invokestatic 270, 3) := by decide +kernel
theorem dX6_many_74 : decode cX6_many 74 = .ok (.ireturn, 1) := by decide +kernel
theorem dX6_many_75 : decode cX6_many 75 = .ok (.aload_n 0, 1) := by decide +kernel
theorem dX6_many_76 : decode cX6_many 76 = .ok (.getfield 12, 3) := by decide +kernel
theorem dX6_many_79 : decode cX6_many 79 = .ok (.getfield 137, 3) := by decide +kernel
theorem dX6_many_82 : decode cX6_many 82 = .ok (.aload_n 0, 1) := by decide +kernel
theorem dX6_many_83 : decode cX6_many 83 = .ok (.getfield 12, 3) := by decide +kernel
theorem dX6_many_86 : decode cX6_many 86 = .ok (.getfield 88, 3) := by decide +kernel
theorem dX6_many_89 : decode cX6_many 89 = .ok (.invokestatic 270, 3) := by decide +kernel
theorem dX6_many_92 : decode cX6_many 92 = .ok (.ireturn, 1) := by decide +kernel
theorem dX6_many_93 : decode cX6_many 93 = .ok (.bipush (-2), 2) := by decide +kernel
theorem dX6_many_95 : decode cX6_many 95 = .ok (.ireturn, 1) := by decide +kernel
theorem dX6_isWithin_0 : decode cX6_isWithin 0 = .ok (.iload_n 0, 1) := by decide +kernel
theorem dX6_isWithin_1 : decode cX6_isWithin 1 = .ok (.iload_n 1, 1) := by decide +kernel
theorem dX6_isWithin_2 : decode cX6_isWithin 2 = .ok (.if_icmp .lt 12, 3) := by decide +kernel
theorem dX6_isWithin_5 : decode cX6_isWithin 5 = .ok (.iload_n 0, 1) := by decide +kernel
theorem dX6_isWithin_6 : decode cX6_isWithin 6 = .ok (.iload_n 2, 1) := by decide +kernel
theorem dX6_isWithin_7 : decode cX6_isWithin 7 = .ok (.if_icmp .gt 7, 3) := by decide +kernel
theorem dX6_isWithin_10 : decode cX6_isWithin 10 = .ok (.iconst 1, 1) := by decide +kernel
theorem dX6_isWithin_11 : decode cX6_isWithin 11 = .ok (.goto 4, 3) := by decide +kernel
theorem dX6_isWithin_14 : decode cX6_isWithin 14 = .ok (.iconst 0, 1) := by decide +kernel
theorem dX6_isWithin_15 : decode cX6_isWithin 15 = .ok (.ireturn, 1) := by decide +kernel
theorem dX6_isSpot_0 : decode cX6_isSpot 0 = .ok (.iload_n 0, 1) := by decide +kernel
theorem dX6_isSpot_1 : decode cX6_isSpot 1 = .ok (.iconst 0, 1) := by decide +kernel
theorem dX6_isSpot_2 : decode cX6_isSpot 2 = .ok (.bipush 60, 2) := by decide +kernel
theorem dX6_isSpot_4 : decode cX6_isSpot 4 = .ok (.invokestatic 77, 3) := by decide +kernel
theorem dX6_isSpot_7 : decode cX6_isSpot 7 = .ok (.ifCond .eq 17, 3) := by decide +kernel
theorem dX6_isSpot_10 : decode cX6_isSpot 10 = .ok (.iload_n 1, 1) := by decide +kernel
theorem dX6_isSpot_11 : decode cX6_isSpot 11 = .ok (.iconst 0, 1) := by decide +kernel
theorem dX6_isSpot_12 : decode cX6_isSpot 12 = .ok (.bipush 60, 2) := by decide +kernel
theorem dX6_isSpot_14 : decode cX6_isSpot 14 = .ok (.invokestatic 77, 3) := by decide +kernel
theorem dX6_isSpot_17 : decode cX6_isSpot 17 = .ok (.ifCond .eq 7, 3) := by decide +kernel
theorem dX6_isSpot_20 : decode cX6_isSpot 20 = .ok (.iconst 1, 1) := by decide +kernel
theorem dX6_isSpot_21 : decode cX6_isSpot 21 = .ok (.goto 4, 3) := by decide +kernel
theorem dX6_isSpot_24 : decode cX6_isSpot 24 = .ok (.iconst 0, 1) := by decide +kernel
theorem dX6_isSpot_25 : decode cX6_isSpot 25 = .ok (.ireturn, 1) := by decide +kernel
theorem dX6_isSheet_0 : decode cX6_isSheet 0 = .ok (.iload_n 0, 1) := by decide +kernel
theorem dX6_isSheet_1 : decode cX6_isSheet 1 = .ok (.iconst 0, 1) := by decide +kernel
theorem dX6_isSheet_2 : decode cX6_isSheet 2 = .ok (.iconst 3, 1) := by decide +kernel
theorem dX6_isSheet_3 : decode cX6_isSheet 3 = .ok (.invokestatic 77, 3) := by decide +kernel
theorem dX6_isSheet_6 : decode cX6_isSheet 6 = .ok (.ireturn, 1) := by decide +kernel
theorem dX6_isLane_0 : decode cX6_isLane 0 = .ok (.iload_n 0, 1) := by decide +kernel
theorem dX6_isLane_1 : decode cX6_isLane 1 = .ok (.iconst 0, 1) := by decide +kernel
theorem dX6_isLane_2 : decode cX6_isLane 2 = .ok (.iconst 2, 1) := by decide +kernel
theorem dX6_isLane_3 : decode cX6_isLane 3 = .ok (.invokestatic 77, 3) := by decide +kernel
theorem dX6_isLane_6 : decode cX6_isLane 6 = .ok (.ireturn, 1) := by decide +kernel
theorem dX6_sumOf_0 : decode cX6_sumOf 0 = .ok (.iconst 0, 1) := by decide +kernel
theorem dX6_sumOf_1 : decode cX6_sumOf 1 = .ok (.istore_n 2, 1) := by decide +kernel
theorem dX6_sumOf_2 : decode cX6_sumOf 2 = .ok (.iconst 0, 1) := by decide +kernel
theorem dX6_sumOf_3 : decode cX6_sumOf 3 = .ok (.istore_n 3, 1) := by decide +kernel
theorem dX6_sumOf_4 : decode cX6_sumOf 4 = .ok (.iload_n 3, 1) := by decide +kernel
theorem dX6_sumOf_5 : decode cX6_sumOf 5 = .ok (.iload_n 1, 1) := by decide +kernel
theorem dX6_sumOf_6 : decode cX6_sumOf 6 = .ok (.if_icmp .ge 21, 3) := by decide +kernel
theorem dX6_sumOf_9 : decode cX6_sumOf 9 = .ok (.iload_n 3, 1) := by decide +kernel
theorem dX6_sumOf_10 : decode cX6_sumOf 10 = .ok (.aload_n 0, 1) := by decide +kernel
theorem dX6_sumOf_11 : decode cX6_sumOf 11 = .ok (.arraylength, 1) := by decide +kernel
theorem dX6_sumOf_12 : decode cX6_sumOf 12 = .ok (.if_icmp .ge 15, 3) := by decide +kernel
theorem dX6_sumOf_15 : decode cX6_sumOf 15 = .ok (.iload_n 2, 1) := by decide +kernel
theorem dX6_sumOf_16 : decode cX6_sumOf 16 = .ok (.aload_n 0, 1) := by decide +kernel
theorem dX6_sumOf_17 : decode cX6_sumOf 17 = .ok (.iload_n 3, 1) := by decide +kernel
theorem dX6_sumOf_18 : decode cX6_sumOf 18 = .ok (.iaload, 1) := by decide +kernel
theorem dX6_sumOf_19 : decode cX6_sumOf 19 = .ok (.iadd, 1) := by decide +kernel
theorem dX6_sumOf_20 : decode cX6_sumOf 20 = .ok (.istore_n 2, 1) := by decide +kernel
theorem dX6_sumOf_21 : decode cX6_sumOf 21 = .ok (.iinc 3 1, 3) := by decide +kernel
theorem dX6_sumOf_24 : decode cX6_sumOf 24 = .ok (.goto (-20), 3) := by decide +kernel
theorem dX6_sumOf_27 : decode cX6_sumOf 27 = .ok (.iload_n 2, 1) := by decide +kernel
theorem dX6_sumOf_28 : decode cX6_sumOf 28 = .ok (.ireturn, 1) := by decide +kernel
theorem dX6_faulty_0 : decode cX6_faulty 0 = .ok (.aload_n 0, 1) := by decide +kernel
theorem dX6_faulty_1 : decode cX6_faulty 1 = .ok (.iload_n 1, 1) := by decide +kernel
theorem dX6_faulty_2 : decode cX6_faulty 2 = .ok (.putfield 224, 3) := by decide +kernel
theorem dX6_faulty_5 : decode cX6_faulty 5 = .ok (.bipush (-10), 2) := by decide +kernel
theorem dX6_faulty_7 : decode cX6_faulty 7 = .ok (.iload_n 1, 1) := by decide +kernel
theorem dX6_faulty_8 : decode cX6_faulty 8 = .ok (.isub, 1) := by decide +kernel
theorem dX6_faulty_9 : decode cX6_faulty 9 = .ok (.ireturn, 1) := by decide +kernel
theorem dX6_refusalOfRow_0 : decode cX6_refusalOfRow 0 = .ok (.aload_n 0, 1) := by decide +kernel
theorem dX6_refusalOfRow_1 : decode cX6_refusalOfRow 1 = .ok (.iconst 0, 1) := by decide +kernel
theorem dX6_refusalOfRow_2 : decode cX6_refusalOfRow 2 = .ok (.putfield 224, 3) := by decide +kernel
theorem dX6_refusalOfRow_5 : decode cX6_refusalOfRow 5 = .ok (.iload_n 1, 1) := by decide +kernel
theorem dX6_refusalOfRow_6 : decode cX6_refusalOfRow 6 = .ok (.invokestatic 227, 3) := by decide +kernel
theorem dX6_refusalOfRow_9 : decode cX6_refusalOfRow 9 = .ok (.ifCond .ne 5, 3) := by decide +kernel
theorem dX6_refusalOfRow_12 : decode cX6_refusalOfRow 12 = .ok (.iconst (-1), 1) := by decide +kernel
theorem dX6_refusalOfRow_13 : decode cX6_refusalOfRow 13 = .ok (.ireturn, 1) := by decide +kernel
theorem dX6_refusalOfRow_14 : decode cX6_refusalOfRow 14 = .ok (.iload_n 2, 1) := by decide +kernel
theorem dX6_refusalOfRow_15 : decode cX6_refusalOfRow 15 = .ok (.invokestatic 230, 3) := by decide +kernel
theorem dX6_refusalOfRow_18 : decode cX6_refusalOfRow 18 = .ok (.ifCond .ne 6, 3) := by decide +kernel
theorem dX6_refusalOfRow_21 : decode cX6_refusalOfRow 21 = .ok (.bipush (-2), 2) := by decide +kernel
theorem dX6_refusalOfRow_23 : decode cX6_refusalOfRow 23 = .ok (.ireturn, 1) := by decide +kernel
theorem dX6_refusalOfRow_24 : decode cX6_refusalOfRow 24 = .ok (.aload_n 0, 1) := by decide +kernel
theorem dX6_refusalOfRow_25 : decode cX6_refusalOfRow 25 = .ok (.getfield 51, 3) := by decide +kernel
theorem dX6_refusalOfRow_28 : decode cX6_refusalOfRow 28 = .ok (.iload_n 1, 1) := by decide +kernel
theorem dX6_refusalOfRow_29 : decode cX6_refusalOfRow 29 = .ok (.aaload, 1) := by decide +kernel
theorem dX6_refusalOfRow_30 : decode cX6_refusalOfRow 30 = .ok (.astore 5, 2) := by decide +kernel
theorem dX6_refusalOfRow_32 : decode cX6_refusalOfRow 32 = .ok (.aload 5, 2) := by decide +kernel
theorem dX6_refusalOfRow_34 : decode cX6_refusalOfRow 34 = .ok (.getfield 239, 3) := by decide +kernel
theorem dX6_refusalOfRow_37 : decode cX6_refusalOfRow 37 = .ok (.ifCond .ne 9, 3) := by decide +kernel
theorem dX6_refusalOfRow_40 : decode cX6_refusalOfRow 40 = .ok (.aload_n 0, 1) := by decide +kernel
theorem dX6_refusalOfRow_41 : decode cX6_refusalOfRow 41 = .ok (.iconst 1, 1) := by decide +kernel
theorem dX6_refusalOfRow_42 : decode cX6_refusalOfRow 42 = .ok (.invokevirtual 233, 3) := by decide +kernel
theorem dX6_refusalOfRow_45 : decode cX6_refusalOfRow 45 = .ok (.ireturn, 1) := by decide +kernel
theorem dX6_refusalOfRow_46 : decode cX6_refusalOfRow 46 = .ok (.aload 5, 2) := by decide +kernel
theorem dX6_refusalOfRow_48 : decode cX6_refusalOfRow 48 = .ok (.getfield 249, 3) := by decide +kernel
theorem dX6_refusalOfRow_51 : decode cX6_refusalOfRow 51 = .ok (.iload_n 2, 1) := by decide +kernel
theorem dX6_refusalOfRow_52 : decode cX6_refusalOfRow 52 = .ok (.if_icmp .eq 9, 3) := by decide +kernel
theorem dX6_refusalOfRow_55 : decode cX6_refusalOfRow 55 = .ok (.aload_n 0, 1) := by decide +kernel
theorem dX6_refusalOfRow_56 : decode cX6_refusalOfRow 56 = .ok (.iconst 2, 1) := by decide +kernel
theorem dX6_refusalOfRow_57 : decode cX6_refusalOfRow 57 = .ok (.invokevirtual 233, 3) := by decide +kernel
theorem dX6_refusalOfRow_60 : decode cX6_refusalOfRow 60 = .ok (.ireturn, 1) := by decide +kernel
theorem dX6_refusalOfRow_61 : decode cX6_refusalOfRow 61 = .ok (.iload 4, 2) := by decide +kernel
theorem dX6_refusalOfRow_63 : decode cX6_refusalOfRow 63 = .ok (.ifCond .ge 9, 3) := by decide +kernel
theorem dX6_refusalOfRow_66 : decode cX6_refusalOfRow 66 = .ok (.aload_n 0, 1) := by decide +kernel
theorem dX6_refusalOfRow_67 : decode cX6_refusalOfRow 67 = .ok (.iconst 4, 1) := by decide +kernel
theorem dX6_refusalOfRow_68 : decode cX6_refusalOfRow 68 = .ok (.invokevirtual 233, 3) := by decide +kernel
theorem dX6_refusalOfRow_71 : decode cX6_refusalOfRow 71 = .ok (.ireturn, 1) := by decide +kernel
theorem dX6_refusalOfRow_72 : decode cX6_refusalOfRow 72 = .ok (.aload 5, 2) := by decide +kernel
theorem dX6_refusalOfRow_74 : decode cX6_refusalOfRow 74 = .ok (.iload_n 3, 1) := by decide +kernel
theorem dX6_refusalOfRow_75 : decode cX6_refusalOfRow 75 = .ok (.iload 4, 2) := by decide +kernel
theorem dX6_refusalOfRow_77 : decode cX6_refusalOfRow 77 = .ok (.invokevirtual 252, 3) := by decide +kernel
theorem dX6_refusalOfRow_80 : decode cX6_refusalOfRow 80 = .ok (.ifCond .eq 7, 3) := by decide +kernel
theorem dX6_refusalOfRow_83 : decode cX6_refusalOfRow 83 = .ok (.iconst 0, 1) := by decide +kernel
theorem dX6_refusalOfRow_84 : decode cX6_refusalOfRow 84 = .ok (.goto 8, 3) := by decide +kernel
theorem dX6_refusalOfRow_87 : decode cX6_refusalOfRow 87 = .ok (.aload_n 0, 1) := by decide +kernel
theorem dX6_refusalOfRow_88 : decode cX6_refusalOfRow 88 = .ok (.iconst 3, 1) := by decide +kernel
theorem dX6_refusalOfRow_89 : decode cX6_refusalOfRow 89 = .ok (.invokevirtual 233, 3) := by decide +kernel
theorem dX6_refusalOfRow_92 : decode cX6_refusalOfRow 92 = .ok (.ireturn, 1) := by decide +kernel
theorem dX6_leastMiles_0 : decode cX6_leastMiles 0 = .ok (.aload_n 0, 1) := by decide +kernel
theorem dX6_leastMiles_1 : decode cX6_leastMiles 1 = .ok (.getfield 62, 3) := by decide +kernel
theorem dX6_leastMiles_4 : decode cX6_leastMiles 4 = .ok (.aload_n 0, 1) := by decide +kernel
theorem dX6_leastMiles_5 : decode cX6_leastMiles 5 = .ok (.getfield 12, 3) := by decide +kernel
theorem dX6_leastMiles_8 : decode cX6_leastMiles 8 = .ok (.getfield 274, 3) := by decide +kernel
theorem dX6_leastMiles_11 : decode cX6_leastMiles 11 = .ok (.if_icmp .eq 52, 3) := by decide +kernel
theorem dX6_leastMiles_14 : decode cX6_leastMiles 14 = .ok (.aload_n 0, 1) := by decide +kernel
theorem dX6_leastMiles_15 : decode cX6_leastMiles 15 = .ok (.getfield 28, 3) := by decide +kernel
theorem dX6_leastMiles_18 : decode cX6_leastMiles 18 = .ok (.aload_n 0, 1) := by decide +kernel
theorem dX6_leastMiles_19 : decode cX6_leastMiles 19 = .ok (.getfield 12, 3) := by decide +kernel
theorem dX6_leastMiles_22 : decode cX6_leastMiles 22 = .ok (.invokevirtual 277, 3) := by decide +kernel
theorem dX6_leastMiles_25 : decode cX6_leastMiles 25 = .ok (.aload_n 0, 1) := by decide +kernel
theorem dX6_leastMiles_26 : decode cX6_leastMiles 26 = .ok (.aload_n 0, 1) := by decide +kernel
theorem dX6_leastMiles_27 : decode cX6_leastMiles 27 = .ok (.getfield 28, 3) := by decide +kernel
theorem dX6_leastMiles_30 : decode cX6_leastMiles 30 = .ok (.invokevirtual 281, 3) := by decide +kernel
theorem dX6_leastMiles_33 : decode cX6_leastMiles 33 = .ok (.putfield 284, 3) := by decide +kernel
theorem dX6_leastMiles_36 : decode cX6_leastMiles 36 = .ok (.aload_n 0, 1) := by decide +kernel
theorem dX6_leastMiles_37 : decode cX6_leastMiles 37 = .ok (.getfield 284, 3) := by decide +kernel
theorem dX6_leastMiles_40 : decode cX6_leastMiles 40 = .ok (.bipush (-9), 2) := by decide +kernel
theorem dX6_leastMiles_42 : decode cX6_leastMiles 42 = .ok (.if_icmp .eq 10, 3) := by decide +kernel
theorem dX6_leastMiles_45 : decode cX6_leastMiles 45 = .ok (.aload_n 0, 1) := by decide +kernel
theorem dX6_leastMiles_46 : decode cX6_leastMiles 46 = .ok (.getfield 28, 3) := by decide +kernel
theorem dX6_leastMiles_49 : decode cX6_leastMiles 49 = .ok (.invokevirtual 287, 3) := by decide +kernel
theorem dX6_leastMiles_52 : decode cX6_leastMiles 52 = .ok (.aload_n 0, 1) := by decide +kernel
theorem dX6_leastMiles_53 : decode cX6_leastMiles 53 = .ok (.aload_n 0, 1) := by decide +kernel
theorem dX6_leastMiles_54 : decode cX6_leastMiles 54 = .ok (.getfield 12, 3) := by decide +kernel
theorem dX6_leastMiles_57 : decode cX6_leastMiles 57 = .ok (.getfield 274, 3) := by decide +kernel
theorem dX6_leastMiles_60 : decode cX6_leastMiles 60 = .ok (.putfield 62, 3) := by decide +kernel
theorem dX6_leastMiles_63 : decode cX6_leastMiles 63 = .ok (.aload_n 0, 1) := by decide +kernel
theorem dX6_leastMiles_64 : decode cX6_leastMiles 64 = .ok (.getfield 284, 3) := by decide +kernel
theorem dX6_leastMiles_67 : decode cX6_leastMiles 67 = .ok (.ireturn, 1) := by decide +kernel
theorem dX6_seekFamilies_0 : decode cX6_seekFamilies 0 = .ok (.aload_n 0, 1) := by decide +kernel
theorem dX6_seekFamilies_1 : decode cX6_seekFamilies 1 = .ok (.getfield 69, 3) := by decide +kernel
theorem dX6_seekFamilies_4 : decode cX6_seekFamilies 4 = .ok (.aload_n 0, 1) := by decide +kernel
theorem dX6_seekFamilies_5 : decode cX6_seekFamilies 5 = .ok (.getfield 12, 3) := by decide +kernel
theorem dX6_seekFamilies_8 : decode cX6_seekFamilies 8 = .ok (.getfield 274, 3) := by decide +kernel
theorem dX6_seekFamilies_11 : decode cX6_seekFamilies 11 = .ok (.if_icmp .eq 25, 3) := by decide +kernel
theorem dX6_seekFamilies_14 : decode cX6_seekFamilies 14 = .ok (.aload_n 0, 1) := by decide +kernel
theorem dX6_seekFamilies_15 : decode cX6_seekFamilies 15 = .ok (.getfield 38, 3) := by decide +kernel
theorem dX6_seekFamilies_18 : decode cX6_seekFamilies 18 = .ok (.aload_n 0, 1) := by decide +kernel
theorem dX6_seekFamilies_19 : decode cX6_seekFamilies 19 = .ok (.getfield 12, 3) := by decide +kernel
theorem dX6_seekFamilies_22 : decode cX6_seekFamilies 22 = .ok (.invokevirtual 290, 3) := by decide +kernel
theorem dX6_seekFamilies_25 : decode cX6_seekFamilies 25 = .ok (.aload_n 0, 1) := by decide +kernel
theorem dX6_seekFamilies_26 : decode cX6_seekFamilies 26 = .ok (.aload_n 0, 1) := by decide +kernel
theorem dX6_seekFamilies_27 : decode cX6_seekFamilies 27 = .ok (.getfield 12, 3) := by decide +kernel
theorem dX6_seekFamilies_30 : decode cX6_seekFamilies 30 = .ok (.getfield 274, 3) := by decide +kernel
theorem dX6_seekFamilies_33 : decode cX6_seekFamilies 33 = .ok (.putfield 69, 3) := by decide +kernel
theorem dX6_seekFamilies_36 : decode cX6_seekFamilies 36 = .ok (.return_, 1) := by decide +kernel
theorem dX6_seekEven_0 : decode cX6_seekEven 0 = .ok (.aload_n 0, 1) := by decide +kernel
theorem dX6_seekEven_1 : decode cX6_seekEven 1 = .ok (.getfield 66, 3) := by decide +kernel
theorem dX6_seekEven_4 : decode cX6_seekEven 4 = .ok (.aload_n 0, 1) := by decide +kernel
theorem dX6_seekEven_5 : decode cX6_seekEven 5 = .ok (.getfield 12, 3) := by decide +kernel
theorem dX6_seekEven_8 : decode cX6_seekEven 8 = .ok (.getfield 274, 3) := by decide +kernel
theorem dX6_seekEven_11 : decode cX6_seekEven 11 = .ok (.if_icmp .eq 51, 3) := by decide +kernel
theorem dX6_seekEven_14 : decode cX6_seekEven 14 = .ok (.aload_n 0, 1) := by decide +kernel
theorem dX6_seekEven_15 : decode cX6_seekEven 15 = .ok (.aload_n 0, 1) := by decide +kernel
theorem dX6_seekEven_16 : decode cX6_seekEven 16 = .ok (.invokevirtual 158, 3) := by decide +kernel
theorem dX6_seekEven_19 : decode cX6_seekEven 19 = .ok (.putfield 191, 3) := by decide +kernel
theorem dX6_seekEven_22 : decode cX6_seekEven 22 = .ok (.aload_n 0, 1) := by decide +kernel
theorem dX6_seekEven_23 : decode cX6_seekEven 23 = .ok (.aload_n 0, 1) := by decide +kernel
theorem dX6_seekEven_24 : decode cX6_seekEven 24 = .ok (.getfield 191, 3) := by decide +kernel
theorem dX6_seekEven_27 : decode cX6_seekEven 27 = .ok (.bipush (-9), 2) := by decide +kernel
theorem dX6_seekEven_29 : decode cX6_seekEven 29 = .ok (.if_icmp .ne 8, 3) := by decide +kernel
theorem dX6_seekEven_32 : decode cX6_seekEven 32 = .ok (.bipush (-9), 2) := by decide +kernel
theorem dX6_seekEven_34 : decode cX6_seekEven 34 = .ok (.goto 10, 3) := by decide +kernel
theorem dX6_seekEven_37 : decode cX6_seekEven 37 = .ok (.aload_n 0, 1) := by decide +kernel
theorem dX6_seekEven_38 : decode cX6_seekEven 38 = .ok (.getfield 28, 3) := by decide +kernel
theorem dX6_seekEven_41 : decode cX6_seekEven 41 = .ok (.invokevirtual 293, 3) := by decide +kernel
theorem dX6_seekEven_44 : decode cX6_seekEven 44 = .ok (.putfield 188, 3) := by decide +kernel
theorem dX6_seekEven_47 : decode cX6_seekEven 47 = .ok (.aload_n 0, 1) := by decide +kernel
theorem dX6_seekEven_48 : decode cX6_seekEven 48 = .ok (.invokevirtual 296, 3) := by decide +kernel
theorem dX6_seekEven_51 : decode cX6_seekEven 51 = .ok (.aload_n 0, 1) := by decide +kernel
theorem dX6_seekEven_52 : decode cX6_seekEven 52 = .ok (.aload_n 0, 1) := by decide +kernel
theorem dX6_seekEven_53 : decode cX6_seekEven 53 = .ok (.getfield 12, 3) := by decide +kernel
theorem dX6_seekEven_56 : decode cX6_seekEven 56 = .ok (.getfield 274, 3) := by decide +kernel
theorem dX6_seekEven_59 : decode cX6_seekEven 59 = .ok (.putfield 66, 3) := by decide +kernel
theorem dX6_seekEven_62 : decode cX6_seekEven 62 = .ok (.return_, 1) := by decide +kernel
theorem dX6_shortenLongest_0 : decode cX6_shortenLongest 0 = .ok (.iconst 0, 1) := by decide +kernel
theorem dX6_shortenLongest_1 : decode cX6_shortenLongest 1 = .ok (.istore_n 1, 1) := by decide +kernel
theorem dX6_shortenLongest_2 : decode cX6_shortenLongest 2 = .ok (.iconst 0, 1) := by decide +kernel
theorem dX6_shortenLongest_3 : decode cX6_shortenLongest 3 = .ok (.istore_n 2, 1) := by decide +kernel
theorem dX6_shortenLongest_4 : decode cX6_shortenLongest 4 = .ok (.iload_n 2, 1) := by decide +kernel
theorem dX6_shortenLongest_5 : decode cX6_shortenLongest 5 = .ok (.bipush 16, 2) := by decide +kernel
theorem dX6_shortenLongest_7 : decode cX6_shortenLongest 7 = .ok (.if_icmp .ge 85, 3) := by decide +kernel
theorem dX6_shortenLongest_10 : decode cX6_shortenLongest 10 = .ok (.iload_n 1, 1) := by decide +kernel
theorem dX6_shortenLongest_11 : decode cX6_shortenLongest 11 = .ok (.aload_n 0, 1) := by decide +kernel
theorem dX6_shortenLongest_12 : decode cX6_shortenLongest 12 = .ok (.getfield 188, 3) := by decide +kernel
theorem dX6_shortenLongest_15 : decode cX6_shortenLongest 15 = .ok (.if_icmp .ge 77, 3) := by decide +kernel
theorem dX6_shortenLongest_18 : decode cX6_shortenLongest 18 = .ok (.iload_n 1, 1) := by decide +kernel
theorem dX6_shortenLongest_19 : decode cX6_shortenLongest 19 = .ok (.aload_n 0, 1) := by decide +kernel
theorem dX6_shortenLongest_20 : decode cX6_shortenLongest 20 = .ok (.getfield 188, 3) := by decide +kernel
theorem dX6_shortenLongest_23 : decode cX6_shortenLongest 23 = .ok (.iadd, 1) := by decide +kernel
theorem dX6_shortenLongest_24 : decode cX6_shortenLongest 24 = .ok (.iconst 2, 1) := by decide +kernel
theorem dX6_shortenLongest_25 : decode cX6_shortenLongest 25 = .ok (.idiv, 1) := by decide +kernel
theorem dX6_shortenLongest_26 : decode cX6_shortenLongest 26 = .ok (.istore_n 3, 1) := by decide +kernel
theorem dX6_shortenLongest_27 : decode cX6_shortenLongest 27 = .ok (.aload_n 0, 1) := by decide +kernel
theorem dX6_shortenLongest_28 : decode cX6_shortenLongest 28 = .ok (.getfield 32, 3) := by decide +kernel
theorem dX6_shortenLongest_31 : decode cX6_shortenLongest 31 = .ok (.aload_n 0, 1) := by decide +kernel
theorem dX6_shortenLongest_32 : decode cX6_shortenLongest 32 = .ok (.getfield 12, 3) := by decide +kernel
theorem dX6_shortenLongest_35 : decode cX6_shortenLongest 35 = .ok (.invokevirtual 277, 3) := by decide +kernel
theorem dX6_shortenLongest_38 : decode cX6_shortenLongest 38 = .ok (.aload_n 0, 1) := by decide +kernel
theorem dX6_shortenLongest_39 : decode cX6_shortenLongest 39 = .ok (.getfield 32, 3) := by decide +kernel
theorem dX6_shortenLongest_42 : decode cX6_shortenLongest 42 = .ok (.iload_n 3, 1) := by decide +kernel
theorem dX6_shortenLongest_43 : decode cX6_shortenLongest 43 = .ok (.invokevirtual 299, 3) := by decide +kernel
theorem dX6_shortenLongest_46 : decode cX6_shortenLongest 46 = .ok (.aload_n 0, 1) := by decide +kernel
theorem dX6_shortenLongest_47 : decode cX6_shortenLongest 47 = .ok (.getfield 32, 3) := by decide +kernel
theorem dX6_shortenLongest_50 : decode cX6_shortenLongest 50 = .ok (.invokevirtual 281, 3) := by decide +kernel
theorem dX6_shortenLongest_53 : decode cX6_shortenLongest 53 = .ok (.istore 4, 2) := by decide +kernel
theorem dX6_shortenLongest_55 : decode cX6_shortenLongest 55 = .ok (.iload 4, 2) := by decide +kernel
theorem dX6_shortenLongest_57 : decode cX6_shortenLongest 57 = .ok (.bipush (-9), 2) := by decide +kernel
theorem dX6_shortenLongest_59 : decode cX6_shortenLongest 59 = .ok (.if_icmp .ne 10, 3) := by decide +kernel
theorem dX6_shortenLongest_62 : decode cX6_shortenLongest 62 = .ok (.iload_n 3, 1) := by decide +kernel
theorem dX6_shortenLongest_63 : decode cX6_shortenLongest 63 = .ok (.iconst 1, 1) := by decide +kernel
theorem dX6_shortenLongest_64 : decode cX6_shortenLongest 64 = .ok (.iadd, 1) := by decide +kernel
theorem dX6_shortenLongest_65 : decode cX6_shortenLongest 65 = .ok (.istore_n 1, 1) := by decide +kernel
theorem dX6_shortenLongest_66 : decode cX6_shortenLongest 66 = .ok (.goto 20, 3) := by decide +kernel
theorem dX6_shortenLongest_69 : decode cX6_shortenLongest 69 = .ok (.aload_n 0, 1) := by decide +kernel
theorem dX6_shortenLongest_70 : decode cX6_shortenLongest 70 = .ok (.iload 4, 2) := by decide +kernel
theorem dX6_shortenLongest_72 : decode cX6_shortenLongest 72 = .ok (.putfield 191, 3) := by decide +kernel
theorem dX6_shortenLongest_75 : decode cX6_shortenLongest 75 = .ok (.aload_n 0, 1) := by decide +kernel
theorem dX6_shortenLongest_76 : decode cX6_shortenLongest 76 = .ok (.aload_n 0, 1) := by decide +kernel
theorem dX6_shortenLongest_77 : decode cX6_shortenLongest 77 = .ok (.getfield 32, 3) := by decide +kernel
theorem dX6_shortenLongest_80 : decode cX6_shortenLongest 80 = .ok (.invokevirtual 293, 3) := by decide +kernel
theorem dX6_shortenLongest_83 : decode cX6_shortenLongest 83 = .ok (.putfield 188, 3) := by decide +kernel
theorem dX6_shortenLongest_86 : decode cX6_shortenLongest 86 = .ok (.iinc 2 1, 3) := by decide +kernel
theorem dX6_shortenLongest_89 : decode cX6_shortenLongest 89 = .ok (.goto (-85), 3) := by decide +kernel
theorem dX6_shortenLongest_92 : decode cX6_shortenLongest 92 = .ok (.return_, 1) := by decide +kernel
theorem dX6_milesOfSet_0 : decode cX6_milesOfSet 0 = .ok (.aload_n 0, 1) := by decide +kernel
theorem dX6_milesOfSet_1 : decode cX6_milesOfSet 1 = .ok (.getfield 32, 3) := by decide +kernel
theorem dX6_milesOfSet_4 : decode cX6_milesOfSet 4 = .ok (.aload_n 0, 1) := by decide +kernel
theorem dX6_milesOfSet_5 : decode cX6_milesOfSet 5 = .ok (.getfield 12, 3) := by decide +kernel
theorem dX6_milesOfSet_8 : decode cX6_milesOfSet 8 = .ok (.invokevirtual 277, 3) := by decide +kernel
theorem dX6_milesOfSet_11 : decode cX6_milesOfSet 11 = .ok (.aload_n 0, 1) := by decide +kernel
theorem dX6_milesOfSet_12 : decode cX6_milesOfSet 12 = .ok (.getfield 32, 3) := by decide +kernel
theorem dX6_milesOfSet_15 : decode cX6_milesOfSet 15 = .ok (.iload_n 1, 1) := by decide +kernel
theorem dX6_milesOfSet_16 : decode cX6_milesOfSet 16 = .ok (.invokevirtual 303, 3) := by decide +kernel
theorem dX6_milesOfSet_19 : decode cX6_milesOfSet 19 = .ok (.aload_n 0, 1) := by decide +kernel
theorem dX6_milesOfSet_20 : decode cX6_milesOfSet 20 = .ok (.getfield 32, 3) := by decide +kernel
theorem dX6_milesOfSet_23 : decode cX6_milesOfSet 23 = .ok (.invokevirtual 281, 3) := by decide +kernel
theorem dX6_milesOfSet_26 : decode cX6_milesOfSet 26 = .ok (.ireturn, 1) := by decide +kernel
theorem dX6_bestPlace_0 : decode cX6_bestPlace 0 = .ok (.iconst (-1), 1) := by decide +kernel
theorem dX6_bestPlace_1 : decode cX6_bestPlace 1 = .ok (.istore_n 2, 1) := by decide +kernel
theorem dX6_bestPlace_2 : decode cX6_bestPlace 2 = .ok (.aload_n 0, 1) := by decide +kernel
theorem dX6_bestPlace_3 : decode cX6_bestPlace 3 = .ok (.invokevirtual 158, 3) := by decide +kernel
theorem dX6_bestPlace_6 : decode cX6_bestPlace 6 = .ok (.bipush (-9), 2) := by decide +kernel
theorem dX6_bestPlace_8 : decode cX6_bestPlace 8 = .ok (.if_icmp .ne 8, 3) := by decide +kernel
theorem dX6_bestPlace_11 : decode cX6_bestPlace 11 = .ok (.ldc 181, 2) := by decide +kernel
theorem dX6_bestPlace_13 : decode cX6_bestPlace 13 = .ok (.goto 7, 3) := by decide +kernel
theorem dX6_bestPlace_16 : decode cX6_bestPlace 16 = .ok (.aload_n 0, 1) := by decide +kernel
theorem dX6_bestPlace_17 : decode cX6_bestPlace 17 = .ok (.getfield 284, 3) := by decide +kernel
theorem dX6_bestPlace_20 : decode cX6_bestPlace 20 = .ok (.istore_n 3, 1) := by decide +kernel
theorem dX6_bestPlace_21 : decode cX6_bestPlace 21 = .ok (.iconst 0, 1) := by decide +kernel
theorem dX6_bestPlace_22 : decode cX6_bestPlace 22 = .ok (.istore 4, 2) := by decide +kernel
theorem dX6_bestPlace_24 : decode cX6_bestPlace 24 = .ok (.iload 4, 2) := by decide +kernel
theorem dX6_bestPlace_26 : decode cX6_bestPlace 26 = .ok (.aload_n 0, 1) := by decide +kernel
theorem dX6_bestPlace_27 : decode cX6_bestPlace 27 = .ok (.getfield 206, 3) := by decide +kernel
theorem dX6_bestPlace_30 : decode cX6_bestPlace 30 = .ok (.if_icmp .ge 74, 3) := by decide +kernel
theorem dX6_bestPlace_33 : decode cX6_bestPlace 33 = .ok (.aload_n 0, 1) := by decide +kernel
theorem dX6_bestPlace_34 : decode cX6_bestPlace 34 = .ok (.getfield 32, 3) := by decide +kernel
theorem dX6_bestPlace_37 : decode cX6_bestPlace 37 = .ok (.aload_n 0, 1) := by decide +kernel
theorem dX6_bestPlace_38 : decode cX6_bestPlace 38 = .ok (.getfield 12, 3) := by decide +kernel
theorem dX6_bestPlace_41 : decode cX6_bestPlace 41 = .ok (.invokevirtual 277, 3) := by decide +kernel
theorem dX6_bestPlace_44 : decode cX6_bestPlace 44 = .ok (.aload_n 0, 1) := by decide +kernel
theorem dX6_bestPlace_45 : decode cX6_bestPlace 45 = .ok (.getfield 32, 3) := by decide +kernel
theorem dX6_bestPlace_48 : decode cX6_bestPlace 48 = .ok (.aload_n 0, 1) := by decide +kernel
theorem dX6_bestPlace_49 : decode cX6_bestPlace 49 = .ok (.getfield 12, 3) := by decide +kernel
theorem dX6_bestPlace_52 : decode cX6_bestPlace 52 = .ok (.iload_n 1, 1) := by decide +kernel
theorem dX6_bestPlace_53 : decode cX6_bestPlace 53 = .ok (.aload_n 0, 1) := by decide +kernel
theorem dX6_bestPlace_54 : decode cX6_bestPlace 54 = .ok (.getfield 55, 3) := by decide +kernel
theorem dX6_bestPlace_57 : decode cX6_bestPlace 57 = .ok (.iload 4, 2) := by decide +kernel
theorem dX6_bestPlace_59 : decode cX6_bestPlace 59 = .ok (.iaload, 1) := by decide +kernel
theorem dX6_bestPlace_60 : decode cX6_bestPlace 60 = .ok (.aload_n 0, 1) := by decide +kernel
theorem dX6_bestPlace_61 : decode cX6_bestPlace 61 = .ok (.getfield 59, 3) := by decide +kernel
theorem dX6_bestPlace_64 : decode cX6_bestPlace 64 = .ok (.iload 4, 2) := by decide +kernel
theorem dX6_bestPlace_66 : decode cX6_bestPlace 66 = .ok (.iaload, 1) := by decide +kernel
theorem dX6_bestPlace_67 : decode cX6_bestPlace 67 = .ok (.invokevirtual 306, 3) := by decide +kernel
theorem dX6_bestPlace_70 : decode cX6_bestPlace 70 = .ok (.aload_n 0, 1) := by decide +kernel
theorem dX6_bestPlace_71 : decode cX6_bestPlace 71 = .ok (.getfield 32, 3) := by decide +kernel
theorem dX6_bestPlace_74 : decode cX6_bestPlace 74 = .ok (.invokevirtual 281, 3) := by decide +kernel
theorem dX6_bestPlace_77 : decode cX6_bestPlace 77 = .ok (.istore 5, 2) := by decide +kernel
theorem dX6_bestPlace_79 : decode cX6_bestPlace 79 = .ok (.iload 5, 2) := by decide +kernel
theorem dX6_bestPlace_81 : decode cX6_bestPlace 81 = .ok (.bipush (-9), 2) := by decide +kernel
theorem dX6_bestPlace_83 : decode cX6_bestPlace 83 = .ok (.if_icmp .eq 15, 3) := by decide +kernel
theorem dX6_bestPlace_86 : decode cX6_bestPlace 86 = .ok (.iload 5, 2) := by decide +kernel
theorem dX6_bestPlace_88 : decode cX6_bestPlace 88 = .ok (.iload_n 3, 1) := by decide +kernel
theorem dX6_bestPlace_89 : decode cX6_bestPlace 89 = .ok (.if_icmp .ge 9, 3) := by decide +kernel
theorem dX6_bestPlace_92 : decode cX6_bestPlace 92 = .ok (.iload 5, 2) := by decide +kernel
theorem dX6_bestPlace_94 : decode cX6_bestPlace 94 = .ok (.istore_n 3, 1) := by decide +kernel
theorem dX6_bestPlace_95 : decode cX6_bestPlace 95 = .ok (.iload 4, 2) := by decide +kernel
theorem dX6_bestPlace_97 : decode cX6_bestPlace 97 = .ok (.istore_n 2, 1) := by decide +kernel
theorem dX6_bestPlace_98 : decode cX6_bestPlace 98 = .ok (.iinc 4 1, 3) := by decide +kernel
theorem dX6_bestPlace_101 : decode cX6_bestPlace 101 = .ok (.goto (-77), 3) := by decide +kernel
theorem dX6_bestPlace_104 : decode cX6_bestPlace 104 = .ok (.iload_n 2, 1) := by decide +kernel
theorem dX6_bestPlace_105 : decode cX6_bestPlace 105 = .ok (.ireturn, 1) := by decide +kernel
theorem dX6_leastChurch_0 : decode cX6_leastChurch 0 = .ok (.bipush (-9), 2) := by decide +kernel
theorem dX6_leastChurch_2 : decode cX6_leastChurch 2 = .ok (.istore_n 3, 1) := by decide +kernel
theorem dX6_leastChurch_3 : decode cX6_leastChurch 3 = .ok (.ldc 181, 2) := by decide +kernel
theorem dX6_leastChurch_5 : decode cX6_leastChurch 5 = .ok (.istore 4, 2) := by decide +kernel
theorem dX6_leastChurch_7 : decode cX6_leastChurch 7 = .ok (.iconst 0, 1) := by decide +kernel
theorem dX6_leastChurch_8 : decode cX6_leastChurch 8 = .ok (.istore 5, 2) := by decide +kernel
theorem dX6_leastChurch_10 : decode cX6_leastChurch 10 = .ok (.iload 5, 2) := by decide +kernel
theorem dX6_leastChurch_12 : decode cX6_leastChurch 12 = .ok (.aload_n 0, 1) := by decide +kernel
theorem dX6_leastChurch_13 : decode cX6_leastChurch 13 = .ok (.getfield 12, 3) := by decide +kernel
theorem dX6_leastChurch_16 : decode cX6_leastChurch 16 = .ok (.getfield 88, 3) := by decide +kernel
theorem dX6_leastChurch_19 : decode cX6_leastChurch 19 = .ok (.if_icmp .ge 47, 3) := by decide +kernel
theorem dX6_leastChurch_22 : decode cX6_leastChurch 22 = .ok (.aload_n 0, 1) := by decide +kernel
theorem dX6_leastChurch_23 : decode cX6_leastChurch 23 = .ok (.getfield 12, 3) := by decide +kernel
theorem dX6_leastChurch_26 : decode cX6_leastChurch 26 = .ok (.iload 5, 2) := by decide +kernel
theorem dX6_leastChurch_28 : decode cX6_leastChurch 28 = .ok (.iload_n 1, 1) := by decide +kernel
theorem dX6_leastChurch_29 : decode cX6_leastChurch 29 = .ok (.iload_n 2, 1) := by decide +kernel
theorem dX6_leastChurch_30 : decode cX6_leastChurch 30 = .ok (.invokevirtual 155, 3) := by decide +kernel
theorem dX6_leastChurch_33 : decode cX6_leastChurch 33 = .ok (.aload_n 0, 1) := by decide +kernel
theorem dX6_leastChurch_34 : decode cX6_leastChurch 34 = .ok (.getfield 28, 3) := by decide +kernel
theorem dX6_leastChurch_37 : decode cX6_leastChurch 37 = .ok (.getfield 165, 3) := by decide +kernel
theorem dX6_leastChurch_40 : decode cX6_leastChurch 40 = .ok (.iload 5, 2) := by decide +kernel
theorem dX6_leastChurch_42 : decode cX6_leastChurch 42 = .ok (.iaload, 1) := by decide +kernel
theorem dX6_leastChurch_43 : decode cX6_leastChurch 43 = .ok (.iadd, 1) := by decide +kernel
theorem dX6_leastChurch_44 : decode cX6_leastChurch 44 = .ok (.istore 6, 2) := by decide +kernel
theorem dX6_leastChurch_46 : decode cX6_leastChurch 46 = .ok (.iload 6, 2) := by decide +kernel
theorem dX6_leastChurch_48 : decode cX6_leastChurch 48 = .ok (.iload 4, 2) := by decide +kernel
theorem dX6_leastChurch_50 : decode cX6_leastChurch 50 = .ok (.if_icmp .ge 10, 3) := by decide +kernel
theorem dX6_leastChurch_53 : decode cX6_leastChurch 53 = .ok (.iload 6, 2) := by decide +kernel
theorem dX6_leastChurch_55 : decode cX6_leastChurch 55 = .ok (.istore 4, 2) := by decide +kernel
theorem dX6_leastChurch_57 : decode cX6_leastChurch 57 = .ok (.iload 5, 2) := by decide +kernel
theorem dX6_leastChurch_59 : decode cX6_leastChurch 59 = .ok (.istore_n 3, 1) := by decide +kernel
theorem dX6_leastChurch_60 : decode cX6_leastChurch 60 = .ok (.iinc 5 1, 3) := by decide +kernel
theorem dX6_leastChurch_63 : decode cX6_leastChurch 63 = .ok (.goto (-53), 3) := by decide +kernel
theorem dX6_leastChurch_66 : decode cX6_leastChurch 66 = .ok (.iload_n 3, 1) := by decide +kernel
theorem dX6_leastChurch_67 : decode cX6_leastChurch 67 = .ok (.ireturn, 1) := by decide +kernel
theorem dX6_partOfBorder_0 : decode cX6_partOfBorder 0 = .ok (.iconst 2, 1) := by decide +kernel
theorem dX6_partOfBorder_1 : decode cX6_partOfBorder 1 = .ok (.aload_n 0, 1) := by decide +kernel
theorem dX6_partOfBorder_2 : decode cX6_partOfBorder 2 = .ok (.getfield 12, 3) := by decide +kernel
theorem dX6_partOfBorder_5 : decode cX6_partOfBorder 5 = .ok (.getfield 131, 3) := by decide +kernel
theorem dX6_partOfBorder_8 : decode cX6_partOfBorder 8 = .ok (.iload_n 2, 1) := by decide +kernel
theorem dX6_partOfBorder_9 : decode cX6_partOfBorder 9 = .ok (.iaload, 1) := by decide +kernel
theorem dX6_partOfBorder_10 : decode cX6_partOfBorder 10 = .ok (.aload_n 0, 1) := by decide +kernel
theorem dX6_partOfBorder_11 : decode cX6_partOfBorder 11 = .ok (.getfield 12, 3) := by decide +kernel
theorem dX6_partOfBorder_14 : decode cX6_partOfBorder 14 = .ok (.getfield 131, 3) := by decide +kernel
theorem dX6_partOfBorder_17 : decode cX6_partOfBorder 17 = .ok (.iload_n 1, 1) := by decide +kernel
theorem dX6_partOfBorder_18 : decode cX6_partOfBorder 18 = .ok (.iaload, 1) := by decide +kernel
theorem dX6_partOfBorder_19 : decode cX6_partOfBorder 19 = .ok (.isub, 1) := by decide +kernel
theorem dX6_partOfBorder_20 : decode cX6_partOfBorder 20 = .ok (.imul, 1) := by decide +kernel
theorem dX6_partOfBorder_21 : decode cX6_partOfBorder 21 = .ok (.istore 4, 2) := by decide +kernel
theorem dX6_partOfBorder_23 : decode cX6_partOfBorder 23 = .ok (.iconst 2, 1) := by decide +kernel
theorem dX6_partOfBorder_24 : decode cX6_partOfBorder 24 = .ok (.aload_n 0, 1) := by decide +kernel
theorem dX6_partOfBorder_25 : decode cX6_partOfBorder 25 = .ok (.getfield 12, 3) := by decide +kernel
theorem dX6_partOfBorder_28 : decode cX6_partOfBorder 28 = .ok (.getfield 134, 3) := by decide +kernel
theorem dX6_partOfBorder_31 : decode cX6_partOfBorder 31 = .ok (.iload_n 2, 1) := by decide +kernel
theorem dX6_partOfBorder_32 : decode cX6_partOfBorder 32 = .ok (.iaload, 1) := by decide +kernel
theorem dX6_partOfBorder_33 : decode cX6_partOfBorder 33 = .ok (.aload_n 0, 1) := by decide +kernel
theorem dX6_partOfBorder_34 : decode cX6_partOfBorder 34 = .ok (.getfield 12, 3) := by decide +kernel
theorem dX6_partOfBorder_37 : decode cX6_partOfBorder 37 = .ok (.getfield 134, 3) := by decide +kernel
theorem dX6_partOfBorder_40 : decode cX6_partOfBorder 40 = .ok (.iload_n 1, 1) := by decide +kernel
theorem dX6_partOfBorder_41 : decode cX6_partOfBorder 41 = .ok (.iaload, 1) := by decide +kernel
theorem dX6_partOfBorder_42 : decode cX6_partOfBorder 42 = .ok (.isub, 1) := by decide +kernel
theorem dX6_partOfBorder_43 : decode cX6_partOfBorder 43 = .ok (.imul, 1) := by decide +kernel
theorem dX6_partOfBorder_44 : decode cX6_partOfBorder 44 = .ok (.istore 5, 2) := by decide +kernel
theorem dX6_partOfBorder_46 : decode cX6_partOfBorder 46 = .ok (.aload_n 0, 1) := by decide +kernel
theorem dX6_partOfBorder_47 : decode cX6_partOfBorder 47 = .ok (.iload_n 2, 1) := by decide +kernel
theorem dX6_partOfBorder_48 : decode cX6_partOfBorder 48 = .ok (.invokevirtual 310, 3) := by decide +kernel
theorem dX6_partOfBorder_51 : decode cX6_partOfBorder 51 = .ok (.aload_n 0, 1) := by decide +kernel
theorem dX6_partOfBorder_52 : decode cX6_partOfBorder 52 = .ok (.iload_n 1, 1) := by decide +kernel
theorem dX6_partOfBorder_53 : decode cX6_partOfBorder 53 = .ok (.invokevirtual 310, 3) := by decide +kernel
theorem dX6_partOfBorder_56 : decode cX6_partOfBorder 56 = .ok (.isub, 1) := by decide +kernel
theorem dX6_partOfBorder_57 : decode cX6_partOfBorder 57 = .ok (.istore 6, 2) := by decide +kernel
theorem dX6_partOfBorder_59 : decode cX6_partOfBorder 59 = .ok (.iload 4, 2) := by decide +kernel
theorem dX6_partOfBorder_61 : decode cX6_partOfBorder 61 = .ok (.invokestatic 313, 3) := by decide +kernel
theorem dX6_partOfBorder_64 : decode cX6_partOfBorder 64 = .ok (.iload 5, 2) := by decide +kernel
theorem dX6_partOfBorder_66 : decode cX6_partOfBorder 66 = .ok (.invokestatic 313, 3) := by decide +kernel
theorem dX6_partOfBorder_69 : decode cX6_partOfBorder 69 = .ok (.invokestatic 318, 3) := by decide +kernel
theorem dX6_partOfBorder_72 : decode cX6_partOfBorder 72 = .ok (.iload 6, 2) := by decide +kernel
theorem dX6_partOfBorder_74 : decode cX6_partOfBorder 74 = .ok (.invokestatic 313, 3) := by decide +kernel
theorem dX6_partOfBorder_77 : decode cX6_partOfBorder 77 = .ok (.invokestatic 318, 3) := by decide +kernel
theorem dX6_partOfBorder_80 : decode cX6_partOfBorder 80 = .ok (.istore 7, 2) := by decide +kernel
theorem dX6_partOfBorder_82 : decode cX6_partOfBorder 82 = .ok (.iload 7, 2) := by decide +kernel
theorem dX6_partOfBorder_84 : decode cX6_partOfBorder 84 = .ok (.ifCond .ne 7, 3) := by decide +kernel
theorem dX6_partOfBorder_87 : decode cX6_partOfBorder 87 = .ok (.ldc2_w 194, 3) := by decide +kernel
theorem dX6_partOfBorder_90 : decode cX6_partOfBorder 90 = .ok (.lreturn, 1) := by decide +kernel
theorem dX6_partOfBorder_91 : decode cX6_partOfBorder 91 = .ok (.iload 4, 2) := by decide +kernel
theorem dX6_partOfBorder_93 : decode cX6_partOfBorder 93 = .ok (.ifCond .lt 13, 3) := by decide +kernel
theorem dX6_partOfBorder_96 : decode cX6_partOfBorder 96 = .ok (.iload 4, 2) := by decide +kernel
theorem dX6_partOfBorder_98 : decode cX6_partOfBorder 98 = .ok (.ifCond .ne 14, 3) := by decide +kernel
theorem dX6_partOfBorder_101 : decode cX6_partOfBorder 101 = .ok (.iload 5, 2) := by decide +kernel
theorem dX6_partOfBorder_103 : decode cX6_partOfBorder 103 = .ok (.ifCond .ge 9, 3) := by decide +kernel
theorem dX6_partOfBorder_106 : decode cX6_partOfBorder 106 = .ok (.iload 7, 2) := by decide +kernel
theorem dX6_partOfBorder_108 : decode cX6_partOfBorder 108 = .ok (.ineg, 1) := by decide +kernel
theorem dX6_partOfBorder_109 : decode cX6_partOfBorder 109 = .ok (.goto 5, 3) := by decide +kernel
theorem dX6_partOfBorder_112 : decode cX6_partOfBorder 112 = .ok (.iload 7, 2) := by decide +kernel
theorem dX6_partOfBorder_114 : decode cX6_partOfBorder 114 = .ok (.istore 8, 2) := by decide +kernel
theorem dX6_partOfBorder_116 : decode cX6_partOfBorder 116 = .ok (.iload_n 3, 1) := by decide +kernel
theorem dX6_partOfBorder_117 : decode cX6_partOfBorder 117 = .ok (.ifCond .ne 12, 3) := by decide +kernel
theorem dX6_partOfBorder_120 : decode cX6_partOfBorder 120 = .ok (.iload 4, 2) := by decide +kernel
theorem dX6_partOfBorder_122 : decode cX6_partOfBorder 122 = .ok (.iload 8, 2) := by decide +kernel
theorem dX6_partOfBorder_124 : decode cX6_partOfBorder 124 = .ok (.idiv, 1) := by decide +kernel
theorem dX6_partOfBorder_125 : decode cX6_partOfBorder 125 = .ok (.i2l, 1) := by decide +kernel
theorem dX6_partOfBorder_126 : decode cX6_partOfBorder 126 = .ok (.goto 23, 3) := by decide +kernel
theorem dX6_partOfBorder_129 : decode cX6_partOfBorder 129 = .ok (.iload_n 3, 1) := by decide +kernel
theorem dX6_partOfBorder_130 : decode cX6_partOfBorder 130 = .ok (.iconst 1, 1) := by decide +kernel
theorem dX6_partOfBorder_131 : decode cX6_partOfBorder 131 = .ok (.if_icmp .ne 12, 3) := by decide +kernel
theorem dX6_partOfBorder_134 : decode cX6_partOfBorder 134 = .ok (.iload 5, 2) := by decide +kernel
theorem dX6_partOfBorder_136 : decode cX6_partOfBorder 136 = .ok (.iload 8, 2) := by decide +kernel
theorem dX6_partOfBorder_138 : decode cX6_partOfBorder 138 = .ok (.idiv, 1) := by decide +kernel
theorem dX6_partOfBorder_139 : decode cX6_partOfBorder 139 = .ok (.i2l, 1) := by decide +kernel
theorem dX6_partOfBorder_140 : decode cX6_partOfBorder 140 = .ok (.goto 9, 3) := by decide +kernel
theorem dX6_partOfBorder_143 : decode cX6_partOfBorder 143 = .ok (.iload 6, 2) := by decide +kernel
theorem dX6_partOfBorder_145 : decode cX6_partOfBorder 145 = .ok (.iload 8, 2) := by decide +kernel
theorem dX6_partOfBorder_147 : decode cX6_partOfBorder 147 = .ok (.idiv, 1) := by decide +kernel
theorem dX6_partOfBorder_148 : decode cX6_partOfBorder 148 = .ok (.i2l, 1) := by decide +kernel
theorem dX6_partOfBorder_149 : decode cX6_partOfBorder 149 = .ok (.lreturn, 1) := by decide +kernel
theorem dX6_sideOfBorder_0 : decode cX6_sideOfBorder 0 = .ok (.aload_n 0, 1) := by decide +kernel
theorem dX6_sideOfBorder_1 : decode cX6_sideOfBorder 1 = .ok (.getfield 12, 3) := by decide +kernel
theorem dX6_sideOfBorder_4 : decode cX6_sideOfBorder 4 = .ok (.getfield 131, 3) := by decide +kernel
theorem dX6_sideOfBorder_7 : decode cX6_sideOfBorder 7 = .ok (.iload_n 1, 1) := by decide +kernel
theorem dX6_sideOfBorder_8 : decode cX6_sideOfBorder 8 = .ok (.iaload, 1) := by decide +kernel
theorem dX6_sideOfBorder_9 : decode cX6_sideOfBorder 9 = .ok (.aload_n 0, 1) := by decide +kernel
theorem dX6_sideOfBorder_10 : decode cX6_sideOfBorder 10 = .ok (.getfield 12, 3) := by decide +kernel
theorem dX6_sideOfBorder_13 : decode cX6_sideOfBorder 13 = .ok (.getfield 131, 3) := by decide +kernel
theorem dX6_sideOfBorder_16 : decode cX6_sideOfBorder 16 = .ok (.iload_n 1, 1) := by decide +kernel
theorem dX6_sideOfBorder_17 : decode cX6_sideOfBorder 17 = .ok (.iaload, 1) := by decide +kernel
theorem dX6_sideOfBorder_18 : decode cX6_sideOfBorder 18 = .ok (.imul, 1) := by decide +kernel
theorem dX6_sideOfBorder_19 : decode cX6_sideOfBorder 19 = .ok (.aload_n 0, 1) := by decide +kernel
theorem dX6_sideOfBorder_20 : decode cX6_sideOfBorder 20 = .ok (.getfield 12, 3) := by decide +kernel
theorem dX6_sideOfBorder_23 : decode cX6_sideOfBorder 23 = .ok (.getfield 134, 3) := by decide +kernel
theorem dX6_sideOfBorder_26 : decode cX6_sideOfBorder 26 = .ok (.iload_n 1, 1) := by decide +kernel
theorem dX6_sideOfBorder_27 : decode cX6_sideOfBorder 27 = .ok (.iaload, 1) := by decide +kernel
theorem dX6_sideOfBorder_28 : decode cX6_sideOfBorder 28 = .ok (.aload_n 0, 1) := by decide +kernel
theorem dX6_sideOfBorder_29 : decode cX6_sideOfBorder 29 = .ok (.getfield 12, 3) := by decide +kernel
theorem dX6_sideOfBorder_32 : decode cX6_sideOfBorder 32 = .ok (.getfield 134, 3) := by decide +kernel
theorem dX6_sideOfBorder_35 : decode cX6_sideOfBorder 35 = .ok (.iload_n 1, 1) := by decide +kernel
theorem dX6_sideOfBorder_36 : decode cX6_sideOfBorder 36 = .ok (.iaload, 1) := by decide +kernel
theorem dX6_sideOfBorder_37 : decode cX6_sideOfBorder 37 = .ok (.imul, 1) := by decide +kernel
theorem dX6_sideOfBorder_38 : decode cX6_sideOfBorder 38 = .ok (.iadd, 1) := by decide +kernel
theorem dX6_sideOfBorder_39 : decode cX6_sideOfBorder 39 = .ok (.aload_n 0, 1) := by decide +kernel
theorem dX6_sideOfBorder_40 : decode cX6_sideOfBorder 40 = .ok (.getfield 28, 3) := by decide +kernel
theorem dX6_sideOfBorder_43 : decode cX6_sideOfBorder 43 = .ok (.getfield 165, 3) := by decide +kernel
theorem dX6_sideOfBorder_46 : decode cX6_sideOfBorder 46 = .ok (.iload_n 1, 1) := by decide +kernel
theorem dX6_sideOfBorder_47 : decode cX6_sideOfBorder 47 = .ok (.iaload, 1) := by decide +kernel
theorem dX6_sideOfBorder_48 : decode cX6_sideOfBorder 48 = .ok (.iadd, 1) := by decide +kernel
theorem dX6_sideOfBorder_49 : decode cX6_sideOfBorder 49 = .ok (.ireturn, 1) := by decide +kernel
theorem dX6_commonDivisor_0 : decode cX6_commonDivisor 0 = .ok (.iload_n 0, 1) := by decide +kernel
theorem dX6_commonDivisor_1 : decode cX6_commonDivisor 1 = .ok (.istore_n 2, 1) := by decide +kernel
theorem dX6_commonDivisor_2 : decode cX6_commonDivisor 2 = .ok (.iload_n 1, 1) := by decide +kernel
theorem dX6_commonDivisor_3 : decode cX6_commonDivisor 3 = .ok (.istore_n 3, 1) := by decide +kernel
theorem dX6_commonDivisor_4 : decode cX6_commonDivisor 4 = .ok (.iconst 0, 1) := by decide +kernel
theorem dX6_commonDivisor_5 : decode cX6_commonDivisor 5 = .ok (.istore 4, 2) := by decide +kernel
theorem dX6_commonDivisor_7 : decode cX6_commonDivisor 7 = .ok (.iload 4, 2) := by decide +kernel
theorem dX6_commonDivisor_9 : decode cX6_commonDivisor 9 = .ok (.bipush 64, 2) := by decide +kernel
theorem dX6_commonDivisor_11 : decode cX6_commonDivisor 11 = .ok (.if_icmp .ge 23, 3) := by decide +kernel
theorem dX6_commonDivisor_14 : decode cX6_commonDivisor 14 = .ok (.iload_n 3, 1) := by decide +kernel
theorem dX6_commonDivisor_15 : decode cX6_commonDivisor 15 = .ok (.ifCond .eq 19, 3) := by decide +kernel
theorem dX6_commonDivisor_18 : decode cX6_commonDivisor 18 = .ok (.iload_n 2, 1) := by decide +kernel
theorem dX6_commonDivisor_19 : decode cX6_commonDivisor 19 = .ok (.iload_n 3, 1) := by decide +kernel
theorem dX6_commonDivisor_20 : decode cX6_commonDivisor 20 = .ok (.irem, 1) := by decide +kernel
theorem dX6_commonDivisor_21 : decode cX6_commonDivisor 21 = .ok (.istore 5, 2) := by decide +kernel
theorem dX6_commonDivisor_23 : decode cX6_commonDivisor 23 = .ok (.iload_n 3, 1) := by decide +kernel
theorem dX6_commonDivisor_24 : decode cX6_commonDivisor 24 = .ok (.istore_n 2, 1) := by decide +kernel
theorem dX6_commonDivisor_25 : decode cX6_commonDivisor 25 = .ok (.iload 5, 2) := by decide +kernel
theorem dX6_commonDivisor_27 : decode cX6_commonDivisor 27 = .ok (.istore_n 3, 1) := by decide +kernel
theorem dX6_commonDivisor_28 : decode cX6_commonDivisor 28 = .ok (.iinc 4 1, 3) := by decide +kernel
theorem dX6_commonDivisor_31 : decode cX6_commonDivisor 31 = .ok (.goto (-24), 3) := by decide +kernel
theorem dX6_commonDivisor_34 : decode cX6_commonDivisor 34 = .ok (.iload_n 2, 1) := by decide +kernel
theorem dX6_commonDivisor_35 : decode cX6_commonDivisor 35 = .ok (.ireturn, 1) := by decide +kernel
theorem dJ6_bitCount_0f7a4_0 : decode cJ6_bitCount_0f7a4 0 = .ok (.iload_n 0, 1) := by decide +kernel
theorem dJ6_bitCount_0f7a4_1 : decode cJ6_bitCount_0f7a4 1 = .ok (.iload_n 0, 1) := by decide +kernel
theorem dJ6_bitCount_0f7a4_2 : decode cJ6_bitCount_0f7a4 2 = .ok (.iconst 1, 1) := by decide +kernel
theorem dJ6_bitCount_0f7a4_3 : decode cJ6_bitCount_0f7a4 3 = .ok (.iushr, 1) := by decide +kernel
theorem dJ6_bitCount_0f7a4_4 : decode cJ6_bitCount_0f7a4 4 = .ok (.ldc_w 265, 3) := by decide +kernel
theorem dJ6_bitCount_0f7a4_7 : decode cJ6_bitCount_0f7a4 7 = .ok (.iand, 1) := by decide +kernel
theorem dJ6_bitCount_0f7a4_8 : decode cJ6_bitCount_0f7a4 8 = .ok (.isub, 1) := by decide +kernel
theorem dJ6_bitCount_0f7a4_9 : decode cJ6_bitCount_0f7a4 9 = .ok (.istore_n 0, 1) := by decide +kernel
theorem dJ6_bitCount_0f7a4_10 : decode cJ6_bitCount_0f7a4 10 = .ok (.iload_n 0, 1) := by decide +kernel
theorem dJ6_bitCount_0f7a4_11 : decode cJ6_bitCount_0f7a4 11 = .ok (.ldc_w 266, 3) := by decide +kernel
theorem dJ6_bitCount_0f7a4_14 : decode cJ6_bitCount_0f7a4 14 = .ok (.iand, 1) := by decide +kernel
theorem dJ6_bitCount_0f7a4_15 : decode cJ6_bitCount_0f7a4 15 = .ok (.iload_n 0, 1) := by decide +kernel
theorem dJ6_bitCount_0f7a4_16 : decode cJ6_bitCount_0f7a4 16 = .ok (.iconst 2, 1) := by decide +kernel
theorem dJ6_bitCount_0f7a4_17 : decode cJ6_bitCount_0f7a4 17 = .ok (.iushr, 1) := by decide +kernel
theorem dJ6_bitCount_0f7a4_18 : decode cJ6_bitCount_0f7a4 18 = .ok (.ldc_w 266, 3) := by decide +kernel
theorem dJ6_bitCount_0f7a4_21 : decode cJ6_bitCount_0f7a4 21 = .ok (.iand, 1) := by decide +kernel
theorem dJ6_bitCount_0f7a4_22 : decode cJ6_bitCount_0f7a4 22 = .ok (.iadd, 1) := by decide +kernel
theorem dJ6_bitCount_0f7a4_23 : decode cJ6_bitCount_0f7a4 23 = .ok (.istore_n 0, 1) := by decide +kernel
theorem dJ6_bitCount_0f7a4_24 : decode cJ6_bitCount_0f7a4 24 = .ok (.iload_n 0, 1) := by decide +kernel
theorem dJ6_bitCount_0f7a4_25 : decode cJ6_bitCount_0f7a4 25 = .ok (.iload_n 0, 1) := by decide +kernel
theorem dJ6_bitCount_0f7a4_26 : decode cJ6_bitCount_0f7a4 26 = .ok (.iconst 4, 1) := by decide +kernel
theorem dJ6_bitCount_0f7a4_27 : decode cJ6_bitCount_0f7a4 27 = .ok (.iushr, 1) := by decide +kernel
theorem dJ6_bitCount_0f7a4_28 : decode cJ6_bitCount_0f7a4 28 = .ok (.iadd, 1) := by decide +kernel
theorem dJ6_bitCount_0f7a4_29 : decode cJ6_bitCount_0f7a4 29 = .ok (.ldc_w 267, 3) := by decide +kernel
theorem dJ6_bitCount_0f7a4_32 : decode cJ6_bitCount_0f7a4 32 = .ok (.iand, 1) := by decide +kernel
theorem dJ6_bitCount_0f7a4_33 : decode cJ6_bitCount_0f7a4 33 = .ok (.istore_n 0, 1) := by decide +kernel
theorem dJ6_bitCount_0f7a4_34 : decode cJ6_bitCount_0f7a4 34 = .ok (.iload_n 0, 1) := by decide +kernel
theorem dJ6_bitCount_0f7a4_35 : decode cJ6_bitCount_0f7a4 35 = .ok (.iload_n 0, 1) := by decide +kernel
theorem dJ6_bitCount_0f7a4_36 : decode cJ6_bitCount_0f7a4 36 = .ok (.bipush 8, 2) := by decide +kernel
theorem dJ6_bitCount_0f7a4_38 : decode cJ6_bitCount_0f7a4 38 = .ok (.iushr, 1) := by decide +kernel
theorem dJ6_bitCount_0f7a4_39 : decode cJ6_bitCount_0f7a4 39 = .ok (.iadd, 1) := by decide +kernel
theorem dJ6_bitCount_0f7a4_40 : decode cJ6_bitCount_0f7a4 40 = .ok (.istore_n 0, 1) := by decide +kernel
theorem dJ6_bitCount_0f7a4_41 : decode cJ6_bitCount_0f7a4 41 = .ok (.iload_n 0, 1) := by decide +kernel
theorem dJ6_bitCount_0f7a4_42 : decode cJ6_bitCount_0f7a4 42 = .ok (.iload_n 0, 1) := by decide +kernel
theorem dJ6_bitCount_0f7a4_43 : decode cJ6_bitCount_0f7a4 43 = .ok (.bipush 16, 2) := by decide +kernel
theorem dJ6_bitCount_0f7a4_45 : decode cJ6_bitCount_0f7a4 45 = .ok (.iushr, 1) := by decide +kernel
theorem dJ6_bitCount_0f7a4_46 : decode cJ6_bitCount_0f7a4 46 = .ok (.iadd, 1) := by decide +kernel
theorem dJ6_bitCount_0f7a4_47 : decode cJ6_bitCount_0f7a4 47 = .ok (.istore_n 0, 1) := by decide +kernel
theorem dJ6_bitCount_0f7a4_48 : decode cJ6_bitCount_0f7a4 48 = .ok (.iload_n 0, 1) := by decide +kernel
theorem dJ6_bitCount_0f7a4_49 : decode cJ6_bitCount_0f7a4 49 = .ok (.bipush 63, 2) := by decide +kernel
theorem dJ6_bitCount_0f7a4_51 : decode cJ6_bitCount_0f7a4 51 = .ok (.iand, 1) := by decide +kernel
theorem dJ6_bitCount_0f7a4_52 : decode cJ6_bitCount_0f7a4 52 = .ok (.ireturn, 1) := by decide +kernel
theorem dJ9_abs_0f7a4_0 : decode cJ9_abs_0f7a4 0 = .ok (.iload_n 0, 1) := by decide +kernel
theorem dJ9_abs_0f7a4_1 : decode cJ9_abs_0f7a4 1 = .ok (.ifCond .ge 8, 3) := by decide +kernel
theorem dJ9_abs_0f7a4_4 : decode cJ9_abs_0f7a4 4 = .ok (.iload_n 0, 1) := by decide +kernel
theorem dJ9_abs_0f7a4_5 : decode cJ9_abs_0f7a4 5 = .ok (.ineg, 1) := by decide +kernel
theorem dJ9_abs_0f7a4_6 : decode cJ9_abs_0f7a4 6 = .ok (.goto 4, 3) := by decide +kernel
theorem dJ9_abs_0f7a4_9 : decode cJ9_abs_0f7a4 9 = .ok (.iload_n 0, 1) := by decide +kernel
theorem dJ9_abs_0f7a4_10 : decode cJ9_abs_0f7a4 10 = .ok (.ireturn, 1) := by decide +kernel
theorem dJ9_max_7cf53_0 : decode cJ9_max_7cf53 0 = .ok (.iload_n 0, 1) := by decide +kernel
theorem dJ9_max_7cf53_1 : decode cJ9_max_7cf53 1 = .ok (.iload_n 1, 1) := by decide +kernel
theorem dJ9_max_7cf53_2 : decode cJ9_max_7cf53 2 = .ok (.if_icmp .lt 7, 3) := by decide +kernel
theorem dJ9_max_7cf53_5 : decode cJ9_max_7cf53 5 = .ok (.iload_n 0, 1) := by decide +kernel
theorem dJ9_max_7cf53_6 : decode cJ9_max_7cf53 6 = .ok (.goto 4, 3) := by decide +kernel
theorem dJ9_max_7cf53_9 : decode cJ9_max_7cf53 9 = .ok (.iload_n 1, 1) := by decide +kernel
theorem dJ9_max_7cf53_10 : decode cJ9_max_7cf53 10 = .ok (.ireturn, 1) := by decide +kernel
theorem dJ9_min_7cf53_0 : decode cJ9_min_7cf53 0 = .ok (.iload_n 0, 1) := by decide +kernel
theorem dJ9_min_7cf53_1 : decode cJ9_min_7cf53 1 = .ok (.iload_n 1, 1) := by decide +kernel
theorem dJ9_min_7cf53_2 : decode cJ9_min_7cf53 2 = .ok (.if_icmp .gt 7, 3) := by decide +kernel
theorem dJ9_min_7cf53_5 : decode cJ9_min_7cf53 5 = .ok (.iload_n 0, 1) := by decide +kernel
theorem dJ9_min_7cf53_6 : decode cJ9_min_7cf53 6 = .ok (.goto 4, 3) := by decide +kernel
theorem dJ9_min_7cf53_9 : decode cJ9_min_7cf53 9 = .ok (.iload_n 1, 1) := by decide +kernel
theorem dJ9_min_7cf53_10 : decode cJ9_min_7cf53 10 = .ok (.ireturn, 1) := by decide +kernel
end
section
theorem dX7_init_0 : decode cX7_init 0 = .ok (.aload_n 0, 1) := by decide +kernel
theorem dX7_init_1 : decode cX7_init 1 = .ok (.invokespecial 1, 3) := by decide +kernel
theorem dX7_init_4 : decode cX7_init 4 = .ok (.aload_n 0, 1) := by decide +kernel
theorem dX7_init_5 : decode cX7_init 5 = .ok (.bipush 10, 2) := by decide +kernel
theorem dX7_init_7 : decode cX7_init 7 = .ok (.newarray .int, 2) := by decide +kernel
theorem dX7_init_9 : decode cX7_init 9 = .ok (.putfield 7, 3) := by decide +kernel
theorem dX7_init_12 : decode cX7_init 12 = .ok (.aload_n 0, 1) := by decide +kernel
theorem dX7_init_13 : decode cX7_init 13 = .ok (.bipush 10, 2) := by decide +kernel
theorem dX7_init_15 : decode cX7_init 15 = .ok (.newarray .int, 2) := by decide +kernel
theorem dX7_init_17 : decode cX7_init 17 = .ok (.putfield 13, 3) := by decide +kernel
theorem dX7_init_20 : decode cX7_init 20 = .ok (.aload_n 0, 1) := by decide +kernel
theorem dX7_init_21 : decode cX7_init 21 = .ok (.bipush 10, 2) := by decide +kernel
theorem dX7_init_23 : decode cX7_init 23 = .ok (.newarray .int, 2) := by decide +kernel
theorem dX7_init_25 : decode cX7_init 25 = .ok (.putfield 16, 3) := by decide +kernel
theorem dX7_init_28 : decode cX7_init 28 = .ok (.aload_n 0, 1) := by decide +kernel
theorem dX7_init_29 : decode cX7_init 29 = .ok (.iconst 5, 1) := by decide +kernel
theorem dX7_init_30 : decode cX7_init 30 = .ok (.newarray .int, 2) := by decide +kernel
theorem dX7_init_32 : decode cX7_init 32 = .ok (.putfield 19, 3) := by decide +kernel
theorem dX7_init_35 : decode cX7_init 35 = .ok (.aload_n 0, 1) := by decide +kernel
theorem dX7_init_36 : decode cX7_init 36 = .ok (.iconst 5, 1) := by decide +kernel
theorem dX7_init_37 : decode cX7_init 37 = .ok (.newarray .int, 2) := by decide +kernel
theorem dX7_init_39 : decode cX7_init 39 = .ok (.putfield 22, 3) := by decide +kernel
theorem dX7_init_42 : decode cX7_init 42 = .ok (.aload_n 0, 1) := by decide +kernel
theorem dX7_init_43 : decode cX7_init 43 = .ok (.iconst 5, 1) := by decide +kernel
theorem dX7_init_44 : decode cX7_init 44 = .ok (.newarray .int, 2) := by decide +kernel
theorem dX7_init_46 : decode cX7_init 46 = .ok (.putfield 25, 3) := by decide +kernel
theorem dX7_init_49 : decode cX7_init 49 = .ok (.aload_n 0, 1) := by decide +kernel
theorem dX7_init_50 : decode cX7_init 50 = .ok (.iconst 5, 1) := by decide +kernel
theorem dX7_init_51 : decode cX7_init 51 = .ok (.newarray .int, 2) := by decide +kernel
theorem dX7_init_53 : decode cX7_init 53 = .ok (.putfield 28, 3) := by decide +kernel
theorem dX7_init_56 : decode cX7_init 56 = .ok (.aload_n 0, 1) := by decide +kernel
theorem dX7_init_57 : decode cX7_init 57 = .ok (.bipush 50, 2) := by decide +kernel
theorem dX7_init_59 : decode cX7_init 59 = .ok (.newarray .boolean, 2) := by decide +kernel
theorem dX7_init_61 : decode cX7_init 61 = .ok (.putfield 31, 3) := by decide +kernel
theorem dX7_init_64 : decode cX7_init 64 = .ok (.aload_n 0, 1) := by decide +kernel
theorem dX7_init_65 : decode cX7_init 65 = .ok (.bipush 16, 2) := by decide +kernel
theorem dX7_init_67 : decode cX7_init 67 = .ok (.newarray .int, 2) := by decide +kernel
theorem dX7_init_69 : decode cX7_init 69 = .ok (.putfield 35, 3) := by decide +kernel
theorem dX7_init_72 : decode cX7_init 72 = .ok (.aload_n 0, 1) := by decide +kernel
theorem dX7_init_73 : decode cX7_init 73 = .ok (.bipush 48, 2) := by decide +kernel
theorem dX7_init_75 : decode cX7_init 75 = .ok (.newarray .int, 2) := by decide +kernel
theorem dX7_init_77 : decode cX7_init 77 = .ok (.putfield 38, 3) := by decide +kernel
theorem dX7_init_80 : decode cX7_init 80 = .ok (.aload_n 0, 1) := by decide +kernel
theorem dX7_init_81 : decode cX7_init 81 = .ok (.iconst 5, 1) := by decide +kernel
theorem dX7_init_82 : decode cX7_init 82 = .ok (.newarray .int, 2) := by decide +kernel
theorem dX7_init_84 : decode cX7_init 84 = .ok (.putfield 41, 3) := by decide +kernel
theorem dX7_init_87 : decode cX7_init 87 = .ok (.aload_n 0, 1) := by decide +kernel
theorem dX7_init_88 : decode cX7_init 88 = .ok (.bipush 50, 2) := by decide +kernel
theorem dX7_init_90 : decode cX7_init 90 = .ok (.newarray .int, 2) := by decide +kernel
theorem dX7_init_92 : decode cX7_init 92 = .ok (.putfield 44, 3) := by decide +kernel
theorem dX7_init_95 : decode cX7_init 95 = .ok (.aload_n 0, 1) := by decide +kernel
theorem dX7_init_96 : decode cX7_init 96 = .ok (.bipush 50, 2) := by decide +kernel
theorem dX7_init_98 : decode cX7_init 98 = .ok (.newarray .int, 2) := by decide +kernel
theorem dX7_init_100 : decode cX7_init 100 = .ok (.putfield 47, 3) := by decide +kernel
theorem dX7_init_103 : decode cX7_init 103 = .ok (.aload_n 0, 1) := by decide +kernel
theorem dX7_init_104 : decode cX7_init 104 = .ok (.iconst 5, 1) := by decide +kernel
theorem dX7_init_105 : decode cX7_init 105 = .ok (.newarray .int, 2) := by decide +kernel
theorem dX7_init_107 : decode cX7_init 107 = .ok (.putfield 50, 3) := by decide +kernel
theorem dX7_init_110 : decode cX7_init 110 = .ok (.aload_n 0, 1) := by decide +kernel
theorem dX7_init_111 : decode cX7_init 111 = .ok (.iconst 5, 1) := by decide +kernel
theorem dX7_init_112 : decode cX7_init 112 = .ok (.newarray .int, 2) := by decide +kernel
theorem dX7_init_114 : decode cX7_init 114 = .ok (.putfield 53, 3) := by decide +kernel
theorem dX7_init_117 : decode cX7_init 117 = .ok (.aload_n 0, 1) := by decide +kernel
theorem dX7_init_118 : decode cX7_init 118 = .ok (.iconst 5, 1) := by decide +kernel
theorem dX7_init_119 : decode cX7_init 119 = .ok (.newarray .int, 2) := by decide +kernel
theorem dX7_init_121 : decode cX7_init 121 = .ok (.putfield 56, 3) := by decide +kernel
theorem dX7_init_124 : decode cX7_init 124 = .ok (.aload_n 0, 1) := by decide +kernel
theorem dX7_init_125 : decode cX7_init 125 = .ok (.iconst 5, 1) := by decide +kernel
theorem dX7_init_126 : decode cX7_init 126 = .ok (.newarray .int, 2) := by decide +kernel
theorem dX7_init_128 : decode cX7_init 128 = .ok (.putfield 59, 3) := by decide +kernel
theorem dX7_init_131 : decode cX7_init 131 = .ok (.aload_n 0, 1) := by decide +kernel
theorem dX7_init_132 : decode cX7_init 132 = .ok (.bipush 8, 2) := by decide +kernel
theorem dX7_init_134 : decode cX7_init 134 = .ok (.newarray .int, 2) := by decide +kernel
theorem dX7_init_136 : decode cX7_init 136 = .ok (.putfield 62, 3) := by decide +kernel
theorem dX7_init_139 : decode cX7_init 139 = .ok (.aload_n 0, 1) := by decide +kernel
theorem dX7_init_140 : decode cX7_init 140 = .ok (.bipush 8, 2) := by decide +kernel
theorem dX7_init_142 : decode cX7_init 142 = .ok (.newarray .int, 2) := by decide +kernel
theorem dX7_init_144 : decode cX7_init 144 = .ok (.putfield 65, 3) := by decide +kernel
theorem dX7_init_147 : decode cX7_init 147 = .ok (.aload_n 0, 1) := by decide +kernel
theorem dX7_init_148 : decode cX7_init 148 = .ok (.iconst 4, 1) := by decide +kernel
theorem dX7_init_149 : decode cX7_init 149 = .ok (.newarray .int, 2) := by decide +kernel
theorem dX7_init_151 : decode cX7_init 151 = .ok (.putfield 68, 3) := by decide +kernel
theorem dX7_init_154 : decode cX7_init 154 = .ok (.aload_n 0, 1) := by decide +kernel
theorem dX7_init_155 : decode cX7_init 155 = .ok (.iconst 4, 1) := by decide +kernel
theorem dX7_init_156 : decode cX7_init 156 = .ok (.newarray .int, 2) := by decide +kernel
theorem dX7_init_158 : decode cX7_init 158 = .ok (.putfield 71, 3) := by decide +kernel
theorem dX7_init_161 : decode cX7_init 161 = .ok (.aload_n 0, 1) := by decide +kernel
theorem dX7_init_162 : decode cX7_init 162 = .ok (.sipush 320, 3) := by decide +kernel
theorem dX7_init_165 : decode cX7_init 165 = .ok (.newarray .int, 2) := by decide +kernel
theorem dX7_init_167 : decode cX7_init 167 = .ok (.putfield 74, 3) := by decide +kernel
theorem dX7_init_170 : decode cX7_init 170 = .ok (.aload_n 0, 1) := by decide +kernel
theorem dX7_init_171 : decode cX7_init 171 = .ok (.bipush 80, 2) := by decide +kernel
theorem dX7_init_173 : decode cX7_init 173 = .ok (.newarray .int, 2) := by decide +kernel
theorem dX7_init_175 : decode cX7_init 175 = .ok (.putfield 77, 3) := by decide +kernel
theorem dX7_init_178 : decode cX7_init 178 = .ok (.aload_n 0, 1) := by decide +kernel
theorem dX7_init_179 : decode cX7_init 179 = .ok (.sipush 200, 3) := by decide +kernel
theorem dX7_init_182 : decode cX7_init 182 = .ok (.putfield 80, 3) := by decide +kernel
theorem dX7_init_185 : decode cX7_init 185 = .ok (.iconst 0, 1) := by decide +kernel
theorem dX7_init_186 : decode cX7_init 186 = .ok (.istore_n 1, 1) := by decide +kernel
theorem dX7_init_187 : decode cX7_init 187 = .ok (.iload_n 1, 1) := by decide +kernel
theorem dX7_init_188 : decode cX7_init 188 = .ok (.iconst 4, 1) := by decide +kernel
theorem dX7_init_189 : decode cX7_init 189 = .ok (.if_icmp .ge 16, 3) := by decide +kernel
theorem dX7_init_192 : decode cX7_init 192 = .ok (.aload_n 0, 1) := by decide +kernel
theorem dX7_init_193 : decode cX7_init 193 = .ok (.getfield 68, 3) := by decide +kernel
theorem dX7_init_196 : decode cX7_init 196 = .ok (.iload_n 1, 1) := by decide +kernel
theorem dX7_init_197 : decode cX7_init 197 = .ok (.iconst (-1), 1) := by decide +kernel
theorem dX7_init_198 : decode cX7_init 198 = .ok (.iastore, 1) := by decide +kernel
theorem dX7_init_199 : decode cX7_init 199 = .ok (.iinc 1 1, 3) := by decide +kernel
theorem dX7_init_202 : decode cX7_init 202 = .ok (.goto (-15), 3) := by decide +kernel
theorem dX7_init_205 : decode cX7_init 205 = .ok (.return_, 1) := by decide +kernel
theorem dX7_in_0 : decode cX7_in 0 = .ok (.lload_n 0, 1) := by decide +kernel
theorem dX7_in_1 : decode cX7_in 1 = .ok (.lload_n 2, 1) := by decide +kernel
theorem dX7_in_2 : decode cX7_in 2 = .ok (.lcmp, 1) := by decide +kernel
theorem dX7_in_3 : decode cX7_in 3 = .ok (.ifCond .lt 14, 3) := by decide +kernel
theorem dX7_in_6 : decode cX7_in 6 = .ok (.lload_n 0, 1) := by decide +kernel
theorem dX7_in_7 : decode cX7_in 7 = .ok (.lload 4, 2) := by decide +kernel
theorem dX7_in_9 : decode cX7_in 9 = .ok (.lcmp, 1) := by decide +kernel
theorem dX7_in_10 : decode cX7_in 10 = .ok (.ifCond .gt 7, 3) := by decide +kernel
theorem dX7_in_13 : decode cX7_in 13 = .ok (.iconst 1, 1) := by decide +kernel
theorem dX7_in_14 : decode cX7_in 14 = .ok (.goto 4, 3) := by decide +kernel
theorem dX7_in_17 : decode cX7_in 17 = .ok (.iconst 0, 1) := by decide +kernel
theorem dX7_in_18 : decode cX7_in 18 = .ok (.ireturn, 1) := by decide +kernel
theorem dX7_lost_0 : decode cX7_lost 0 = .ok (.ldc2_w 84, 3) := by decide +kernel
theorem dX7_lost_3 : decode cX7_lost 3 = .ok (.lreturn, 1) := by decide +kernel
theorem dX7_hasBit_0 : decode cX7_hasBit 0 = .ok (.iload_n 0, 1) := by decide +kernel
theorem dX7_hasBit_1 : decode cX7_hasBit 1 = .ok (.iload_n 1, 1) := by decide +kernel
theorem dX7_hasBit_2 : decode cX7_hasBit 2 = .ok (.ishr, 1) := by decide +kernel
theorem dX7_hasBit_3 : decode cX7_hasBit 3 = .ok (.iconst 1, 1) := by decide +kernel
theorem dX7_hasBit_4 : decode cX7_hasBit 4 = .ok (.iand, 1) := by decide +kernel
theorem dX7_hasBit_5 : decode cX7_hasBit 5 = .ok (.iconst 1, 1) := by decide +kernel
theorem dX7_hasBit_6 : decode cX7_hasBit 6 = .ok (.if_icmp .ne 7, 3) := by decide +kernel
theorem dX7_hasBit_9 : decode cX7_hasBit 9 = .ok (.iconst 1, 1) := by decide +kernel
theorem dX7_hasBit_10 : decode cX7_hasBit 10 = .ok (.goto 4, 3) := by decide +kernel
theorem dX7_hasBit_13 : decode cX7_hasBit 13 = .ok (.iconst 0, 1) := by decide +kernel
theorem dX7_hasBit_14 : decode cX7_hasBit 14 = .ok (.ireturn, 1) := by decide +kernel
theorem dX7_bits_0 : decode cX7_bits 0 = .ok (.iconst 0, 1) := by decide +kernel
theorem dX7_bits_1 : decode cX7_bits 1 = .ok (.istore_n 1, 1) := by decide +kernel
theorem dX7_bits_2 : decode cX7_bits 2 = .ok (.iconst 0, 1) := by decide +kernel
theorem dX7_bits_3 : decode cX7_bits 3 = .ok (.istore_n 2, 1) := by decide +kernel
theorem dX7_bits_4 : decode cX7_bits 4 = .ok (.iload_n 2, 1) := by decide +kernel
theorem dX7_bits_5 : decode cX7_bits 5 = .ok (.bipush 16, 2) := by decide +kernel
theorem dX7_bits_7 : decode cX7_bits 7 = .ok (.if_icmp .ge 17, 3) := by decide +kernel
theorem dX7_bits_10 : decode cX7_bits 10 = .ok (.iload_n 1, 1) := by decide +kernel
theorem dX7_bits_11 : decode cX7_bits 11 = .ok (.iload_n 0, 1) := by decide +kernel
theorem dX7_bits_12 : decode cX7_bits 12 = .ok (.iload_n 2, 1) := by decide +kernel
theorem dX7_bits_13 : decode cX7_bits 13 = .ok (.ishr, 1) := by decide +kernel
theorem dX7_bits_14 : decode cX7_bits 14 = .ok (.iconst 1, 1) := by decide +kernel
theorem dX7_bits_15 : decode cX7_bits 15 = .ok (.iand, 1) := by decide +kernel
theorem dX7_bits_16 : decode cX7_bits 16 = .ok (.iadd, 1) := by decide +kernel
theorem dX7_bits_17 : decode cX7_bits 17 = .ok (.istore_n 1, 1) := by decide +kernel
theorem dX7_bits_18 : decode cX7_bits 18 = .ok (.iinc 2 1, 3) := by decide +kernel
theorem dX7_bits_21 : decode cX7_bits 21 = .ok (.goto (-17), 3) := by decide +kernel
theorem dX7_bits_24 : decode cX7_bits 24 = .ok (.iload_n 1, 1) := by decide +kernel
theorem dX7_bits_25 : decode cX7_bits 25 = .ok (.ireturn, 1) := by decide +kernel
theorem dX7_sizeOf_0 : decode cX7_sizeOf 0 = .ok (.iload_n 0, 1) := by decide +kernel
theorem dX7_sizeOf_1 : decode cX7_sizeOf 1 = .ok (.ifCond .ge 8, 3) := by decide +kernel
theorem dX7_sizeOf_4 : decode cX7_sizeOf 4 = .ok (.iload_n 0, 1) := by decide +kernel
theorem dX7_sizeOf_5 : decode cX7_sizeOf 5 = .ok (.ineg, 1) := by decide +kernel
theorem dX7_sizeOf_6 : decode cX7_sizeOf 6 = .ok (.goto 4, 3) := by decide +kernel
theorem dX7_sizeOf_9 : decode cX7_sizeOf 9 = .ok (.iload_n 0, 1) := by decide +kernel
theorem dX7_sizeOf_10 : decode cX7_sizeOf 10 = .ok (.ireturn, 1) := by decide +kernel
theorem dX7_isSpot_0 : decode cX7_isSpot 0 = .ok (.iload_n 0, 1) := by decide +kernel
theorem dX7_isSpot_1 : decode cX7_isSpot 1 = .ok (.i2l, 1) := by decide +kernel
theorem dX7_isSpot_2 : decode cX7_isSpot 2 = .ok (.lconst 0, 1) := by decide +kernel
theorem dX7_isSpot_3 : decode cX7_isSpot 3 = .ok (.ldc2_w 86, 3) := by decide +kernel
theorem dX7_isSpot_6 : decode cX7_isSpot 6 = .ok (.invokestatic 88, 3) := by decide +kernel
theorem dX7_isSpot_9 : decode cX7_isSpot 9 = .ok (.ifCond .eq 19, 3) := by decide +kernel
theorem dX7_isSpot_12 : decode cX7_isSpot 12 = .ok (.iload_n 1, 1) := by decide +kernel
theorem dX7_isSpot_13 : decode cX7_isSpot 13 = .ok (.i2l, 1) := by decide +kernel
theorem dX7_isSpot_14 : decode cX7_isSpot 14 = .ok (.lconst 0, 1) := by decide +kernel
theorem dX7_isSpot_15 : decode cX7_isSpot 15 = .ok (.ldc2_w 86, 3) := by decide +kernel
theorem dX7_isSpot_18 : decode cX7_isSpot 18 = .ok (.invokestatic 88, 3) := by decide +kernel
theorem dX7_isSpot_21 : decode cX7_isSpot 21 = .ok (.ifCond .eq 7, 3) := by decide +kernel
theorem dX7_isSpot_24 : decode cX7_isSpot 24 = .ok (.iconst 1, 1) := by decide +kernel
theorem dX7_isSpot_25 : decode cX7_isSpot 25 = .ok (.goto 4, 3) := by decide +kernel
theorem dX7_isSpot_28 : decode cX7_isSpot 28 = .ok (.iconst 0, 1) := by decide +kernel
theorem dX7_isSpot_29 : decode cX7_isSpot 29 = .ok (.ireturn, 1) := by decide +kernel
theorem dX7_refused_0 : decode cX7_refused 0 = .ok (.aload_n 0, 1) := by decide +kernel
theorem dX7_refused_1 : decode cX7_refused 1 = .ok (.iconst 0, 1) := by decide +kernel
theorem dX7_refused_2 : decode cX7_refused 2 = .ok (.putfield 92, 3) := by decide +kernel
theorem dX7_refused_5 : decode cX7_refused 5 = .ok (.iload_n 1, 1) := by decide +kernel
theorem dX7_refused_6 : decode cX7_refused 6 = .ok (.ireturn, 1) := by decide +kernel
theorem dX7_failed_0 : decode cX7_failed 0 = .ok (.aload_n 0, 1) := by decide +kernel
theorem dX7_failed_1 : decode cX7_failed 1 = .ok (.iload_n 1, 1) := by decide +kernel
theorem dX7_failed_2 : decode cX7_failed 2 = .ok (.putfield 92, 3) := by decide +kernel
theorem dX7_failed_5 : decode cX7_failed 5 = .ok (.bipush (-10), 2) := by decide +kernel
theorem dX7_failed_7 : decode cX7_failed 7 = .ok (.iload_n 1, 1) := by decide +kernel
theorem dX7_failed_8 : decode cX7_failed 8 = .ok (.isub, 1) := by decide +kernel
theorem dX7_failed_9 : decode cX7_failed 9 = .ok (.ireturn, 1) := by decide +kernel
theorem dX7_failedLong_0 : decode cX7_failedLong 0 = .ok (.aload_n 0, 1) := by decide +kernel
theorem dX7_failedLong_1 : decode cX7_failedLong 1 = .ok (.iload_n 1, 1) := by decide +kernel
theorem dX7_failedLong_2 : decode cX7_failedLong 2 = .ok (.putfield 92, 3) := by decide +kernel
theorem dX7_failedLong_5 : decode cX7_failedLong 5 = .ok (.invokestatic 95, 3) := by decide +kernel
theorem dX7_failedLong_8 : decode cX7_failedLong 8 = .ok (.lreturn, 1) := by decide +kernel
theorem dX7_refusal_0 : decode cX7_refusal 0 = .ok (.iload_n 2, 1) := by decide +kernel
theorem dX7_refusal_1 : decode cX7_refusal 1 = .ok (.i2l, 1) := by decide +kernel
theorem dX7_refusal_2 : decode cX7_refusal 2 = .ok (.lconst 0, 1) := by decide +kernel
theorem dX7_refusal_3 : decode cX7_refusal 3 = .ok (.ldc2_w 99, 3) := by decide +kernel
theorem dX7_refusal_6 : decode cX7_refusal 6 = .ok (.invokestatic 88, 3) := by decide +kernel
theorem dX7_refusal_9 : decode cX7_refusal 9 = .ok (.ifCond .ne 10, 3) := by decide +kernel
theorem dX7_refusal_12 : decode cX7_refusal 12 = .ok (.aload_n 0, 1) := by decide +kernel
theorem dX7_refusal_13 : decode cX7_refusal 13 = .ok (.bipush (-2), 2) := by decide +kernel
theorem dX7_refusal_15 : decode cX7_refusal 15 = .ok (.invokevirtual 101, 3) := by decide +kernel
theorem dX7_refusal_18 : decode cX7_refusal 18 = .ok (.ireturn, 1) := by decide +kernel
theorem dX7_refusal_19 : decode cX7_refusal 19 = .ok (.aload_n 0, 1) := by decide +kernel
theorem dX7_refusal_20 : decode cX7_refusal 20 = .ok (.getfield 68, 3) := by decide +kernel
theorem dX7_refusal_23 : decode cX7_refusal 23 = .ok (.iload_n 1, 1) := by decide +kernel
theorem dX7_refusal_24 : decode cX7_refusal 24 = .ok (.iaload, 1) := by decide +kernel
theorem dX7_refusal_25 : decode cX7_refusal 25 = .ok (.ifCond .lt 19, 3) := by decide +kernel
theorem dX7_refusal_28 : decode cX7_refusal 28 = .ok (.aload_n 0, 1) := by decide +kernel
theorem dX7_refusal_29 : decode cX7_refusal 29 = .ok (.getfield 71, 3) := by decide +kernel
theorem dX7_refusal_32 : decode cX7_refusal 32 = .ok (.iload_n 1, 1) := by decide +kernel
theorem dX7_refusal_33 : decode cX7_refusal 33 = .ok (.iaload, 1) := by decide +kernel
theorem dX7_refusal_34 : decode cX7_refusal 34 = .ok (.iload_n 2, 1) := by decide +kernel
theorem dX7_refusal_35 : decode cX7_refusal 35 = .ok (.if_icmp .eq 9, 3) := by decide +kernel
theorem dX7_refusal_38 : decode cX7_refusal 38 = .ok (.aload_n 0, 1) := by decide +kernel
theorem dX7_refusal_39 : decode cX7_refusal 39 = .ok (.iconst 2, 1) := by decide +kernel
theorem dX7_refusal_40 : decode cX7_refusal 40 = .ok (.invokevirtual 105, 3) := by decide +kernel
theorem dX7_refusal_43 : decode cX7_refusal 43 = .ok (.ireturn, 1) := by decide +kernel
theorem dX7_refusal_44 : decode cX7_refusal 44 = .ok (.aload_n 0, 1) := by decide +kernel
theorem dX7_refusal_45 : decode cX7_refusal 45 = .ok (.getfield 68, 3) := by decide +kernel
theorem dX7_refusal_48 : decode cX7_refusal 48 = .ok (.iload_n 1, 1) := by decide +kernel
theorem dX7_refusal_49 : decode cX7_refusal 49 = .ok (.iaload, 1) := by decide +kernel
theorem dX7_refusal_50 : decode cX7_refusal 50 = .ok (.ifCond .ge 9, 3) := by decide +kernel
theorem dX7_refusal_53 : decode cX7_refusal 53 = .ok (.aload_n 0, 1) := by decide +kernel
theorem dX7_refusal_54 : decode cX7_refusal 54 = .ok (.iconst 1, 1) := by decide +kernel
theorem dX7_refusal_55 : decode cX7_refusal 55 = .ok (.invokevirtual 105, 3) := by decide +kernel
theorem dX7_refusal_58 : decode cX7_refusal 58 = .ok (.ireturn, 1) := by decide +kernel
theorem dX7_refusal_59 : decode cX7_refusal 59 = .ok (.lload 4, 2) := by decide +kernel
theorem dX7_refusal_61 : decode cX7_refusal 61 = .ok (.lconst 0, 1) := by decide +kernel
theorem dX7_refusal_62 : decode cX7_refusal 62 = .ok (.lcmp, 1) := by decide +kernel
theorem dX7_refusal_63 : decode cX7_refusal 63 = .ok (.ifCond .ge 9, 3) := by decide +kernel
theorem dX7_refusal_66 : decode cX7_refusal 66 = .ok (.aload_n 0, 1) := by decide +kernel
theorem dX7_refusal_67 : decode cX7_refusal 67 = .ok (.iconst 4, 1) := by decide +kernel
theorem dX7_refusal_68 : decode cX7_refusal 68 = .ok (.invokevirtual 105, 3) := by decide +kernel
theorem dX7_refusal_71 : decode cX7_refusal 71 = .ok (.ireturn, 1) := by decide +kernel
theorem dX7_refusal_72 : decode cX7_refusal 72 = .ok (.iload_n 3, 1) := by decide +kernel
theorem dX7_refusal_73 : decode cX7_refusal 73 = .ok (.lload 4, 2) := by decide +kernel
theorem dX7_refusal_75 : decode cX7_refusal 75 = .ok (.aload_n 0, 1) := by decide +kernel
theorem dX7_refusal_76 : decode cX7_refusal 76 = .ok (.getfield 68, 3) := by decide +kernel
theorem dX7_refusal_79 : decode cX7_refusal 79 = .ok (.iload_n 1, 1) := by decide +kernel
theorem dX7_refusal_80 : decode cX7_refusal 80 = .ok (.iaload, 1) := by decide +kernel
theorem dX7_refusal_81 : decode cX7_refusal 81 = .ok (.invokestatic 108, 3) := by decide +kernel
theorem dX7_refusal_84 : decode cX7_refusal 84 = .ok (.ifCond .eq 11, 3) := by decide +kernel
theorem dX7_refusal_87 : decode cX7_refusal 87 = .ok (.aload_n 0, 1) := by decide +kernel
theorem dX7_refusal_88 : decode cX7_refusal 88 = .ok (.iconst 3, 1) := by decide +kernel
theorem dX7_refusal_89 : decode cX7_refusal 89 = .ok (.invokevirtual 105, 3) := by decide +kernel
theorem dX7_refusal_92 : decode cX7_refusal 92 = .ok (.goto 4, 3) := by decide +kernel
theorem dX7_refusal_95 : decode cX7_refusal 95 = .ok (.iconst 0, 1) := by decide +kernel
theorem dX7_refusal_96 : decode cX7_refusal 96 = .ok (.ireturn, 1) := by decide +kernel
theorem dX7_noHome_0 : decode cX7_noHome 0 = .ok (.iload_n 1, 1) := by decide +kernel
theorem dX7_noHome_1 : decode cX7_noHome 1 = .ok (.i2l, 1) := by decide +kernel
theorem dX7_noHome_2 : decode cX7_noHome 2 = .ok (.lconst 0, 1) := by decide +kernel
theorem dX7_noHome_3 : decode cX7_noHome 3 = .ok (.aload_n 0, 1) := by decide +kernel
theorem dX7_noHome_4 : decode cX7_noHome 4 = .ok (.getfield 112, 3) := by decide +kernel
theorem dX7_noHome_7 : decode cX7_noHome 7 = .ok (.i2l, 1) := by decide +kernel
theorem dX7_noHome_8 : decode cX7_noHome 8 = .ok (.lconst 1, 1) := by decide +kernel
theorem dX7_noHome_9 : decode cX7_noHome 9 = .ok (.lsub, 1) := by decide +kernel
theorem dX7_noHome_10 : decode cX7_noHome 10 = .ok (.invokestatic 88, 3) := by decide +kernel
theorem dX7_noHome_13 : decode cX7_noHome 13 = .ok (.ifCond .ne 7, 3) := by decide +kernel
theorem dX7_noHome_16 : decode cX7_noHome 16 = .ok (.iconst 1, 1) := by decide +kernel
theorem dX7_noHome_17 : decode cX7_noHome 17 = .ok (.goto 4, 3) := by decide +kernel
theorem dX7_noHome_20 : decode cX7_noHome 20 = .ok (.iconst 0, 1) := by decide +kernel
theorem dX7_noHome_21 : decode cX7_noHome 21 = .ok (.ireturn, 1) := by decide +kernel
theorem dX7_noChurch_0 : decode cX7_noChurch 0 = .ok (.iload_n 1, 1) := by decide +kernel
theorem dX7_noChurch_1 : decode cX7_noChurch 1 = .ok (.i2l, 1) := by decide +kernel
theorem dX7_noChurch_2 : decode cX7_noChurch 2 = .ok (.lconst 0, 1) := by decide +kernel
theorem dX7_noChurch_3 : decode cX7_noChurch 3 = .ok (.aload_n 0, 1) := by decide +kernel
theorem dX7_noChurch_4 : decode cX7_noChurch 4 = .ok (.getfield 115, 3) := by decide +kernel
theorem dX7_noChurch_7 : decode cX7_noChurch 7 = .ok (.i2l, 1) := by decide +kernel
theorem dX7_noChurch_8 : decode cX7_noChurch 8 = .ok (.lconst 1, 1) := by decide +kernel
theorem dX7_noChurch_9 : decode cX7_noChurch 9 = .ok (.lsub, 1) := by decide +kernel
theorem dX7_noChurch_10 : decode cX7_noChurch 10 = .ok (.invokestatic 88, 3) := by decide +kernel
theorem dX7_noChurch_13 : decode cX7_noChurch 13 = .ok (.ifCond .ne 7, 3) := by decide +kernel
theorem dX7_noChurch_16 : decode cX7_noChurch 16 = .ok (.iconst 1, 1) := by decide +kernel
theorem dX7_noChurch_17 : decode cX7_noChurch 17 = .ok (.goto 4, 3) := by decide +kernel
theorem dX7_noChurch_20 : decode cX7_noChurch 20 = .ok (.iconst 0, 1) := by decide +kernel
theorem dX7_noChurch_21 : decode cX7_noChurch 21 = .ok (.ireturn, 1) := by decide +kernel
theorem dX7_addHome_0 : decode cX7_addHome 0 = .ok (.aload_n 0, 1) := by decide +kernel
theorem dX7_addHome_1 : decode cX7_addHome 1 = .ok (.getfield 7, 3) := by decide +kernel
theorem dX7_addHome_4 : decode cX7_addHome 4 = .ok (.aload_n 0, 1) := by decide +kernel
theorem dX7_addHome_5 : decode cX7_addHome 5 = .ok (.getfield 112, 3) := by decide +kernel
theorem dX7_addHome_8 : decode cX7_addHome 8 = .ok (.iload_n 1, 1) := by decide +kernel
theorem dX7_addHome_9 : decode cX7_addHome 9 = .ok (.iastore, 1) := by decide +kernel
theorem dX7_addHome_10 : decode cX7_addHome 10 = .ok (.aload_n 0, 1) := by decide +kernel
theorem dX7_addHome_11 : decode cX7_addHome 11 = .ok (.getfield 13, 3) := by decide +kernel
theorem dX7_addHome_14 : decode cX7_addHome 14 = .ok (.aload_n 0, 1) := by decide +kernel
theorem dX7_addHome_15 : decode cX7_addHome 15 = .ok (.getfield 112, 3) := by decide +kernel
theorem dX7_addHome_18 : decode cX7_addHome 18 = .ok (.iload_n 2, 1) := by decide +kernel
theorem dX7_addHome_19 : decode cX7_addHome 19 = .ok (.iastore, 1) := by decide +kernel
theorem dX7_addHome_20 : decode cX7_addHome 20 = .ok (.aload_n 0, 1) := by decide +kernel
theorem dX7_addHome_21 : decode cX7_addHome 21 = .ok (.getfield 16, 3) := by decide +kernel
theorem dX7_addHome_24 : decode cX7_addHome 24 = .ok (.aload_n 0, 1) := by decide +kernel
theorem dX7_addHome_25 : decode cX7_addHome 25 = .ok (.getfield 112, 3) := by decide +kernel
theorem dX7_addHome_28 : decode cX7_addHome 28 = .ok (.iload_n 3, 1) := by decide +kernel
theorem dX7_addHome_29 : decode cX7_addHome 29 = .ok (.iastore, 1) := by decide +kernel
theorem dX7_addHome_30 : decode cX7_addHome 30 = .ok (.aload_n 0, 1) := by decide +kernel
theorem dX7_addHome_31 : decode cX7_addHome 31 = .ok (.dup, 1) := by decide +kernel
theorem dX7_addHome_32 : decode cX7_addHome 32 = .ok (.getfield 112, 3) := by decide +kernel
theorem dX7_addHome_35 : decode cX7_addHome 35 = .ok (.iconst 1, 1) := by decide +kernel
theorem dX7_addHome_36 : decode cX7_addHome 36 = .ok (.iadd, 1) := by decide +kernel
theorem dX7_addHome_37 : decode cX7_addHome 37 = .ok (.putfield 112, 3) := by decide +kernel
theorem dX7_addHome_40 : decode cX7_addHome 40 = .ok (.return_, 1) := by decide +kernel
theorem dX7_addChurch_0 : decode cX7_addChurch 0 = .ok (.aload_n 0, 1) := by decide +kernel
theorem dX7_addChurch_1 : decode cX7_addChurch 1 = .ok (.getfield 19, 3) := by decide +kernel
theorem dX7_addChurch_4 : decode cX7_addChurch 4 = .ok (.aload_n 0, 1) := by decide +kernel
theorem dX7_addChurch_5 : decode cX7_addChurch 5 = .ok (.getfield 115, 3) := by decide +kernel
theorem dX7_addChurch_8 : decode cX7_addChurch 8 = .ok (.iload_n 1, 1) := by decide +kernel
theorem dX7_addChurch_9 : decode cX7_addChurch 9 = .ok (.iastore, 1) := by decide +kernel
theorem dX7_addChurch_10 : decode cX7_addChurch 10 = .ok (.aload_n 0, 1) := by decide +kernel
theorem dX7_addChurch_11 : decode cX7_addChurch 11 = .ok (.getfield 22, 3) := by decide +kernel
theorem dX7_addChurch_14 : decode cX7_addChurch 14 = .ok (.aload_n 0, 1) := by decide +kernel
theorem dX7_addChurch_15 : decode cX7_addChurch 15 = .ok (.getfield 115, 3) := by decide +kernel
theorem dX7_addChurch_18 : decode cX7_addChurch 18 = .ok (.iload_n 2, 1) := by decide +kernel
theorem dX7_addChurch_19 : decode cX7_addChurch 19 = .ok (.iastore, 1) := by decide +kernel
theorem dX7_addChurch_20 : decode cX7_addChurch 20 = .ok (.aload_n 0, 1) := by decide +kernel
theorem dX7_addChurch_21 : decode cX7_addChurch 21 = .ok (.getfield 25, 3) := by decide +kernel
theorem dX7_addChurch_24 : decode cX7_addChurch 24 = .ok (.aload_n 0, 1) := by decide +kernel
theorem dX7_addChurch_25 : decode cX7_addChurch 25 = .ok (.getfield 115, 3) := by decide +kernel
theorem dX7_addChurch_28 : decode cX7_addChurch 28 = .ok (.iload_n 3, 1) := by decide +kernel
theorem dX7_addChurch_29 : decode cX7_addChurch 29 = .ok (.iastore, 1) := by decide +kernel
theorem dX7_addChurch_30 : decode cX7_addChurch 30 = .ok (.aload_n 0, 1) := by decide +kernel
theorem dX7_addChurch_31 : decode cX7_addChurch 31 = .ok (.getfield 28, 3) := by decide +kernel
theorem dX7_addChurch_34 : decode cX7_addChurch 34 = .ok (.aload_n 0, 1) := by decide +kernel
theorem dX7_addChurch_35 : decode cX7_addChurch 35 = .ok (.getfield 115, 3) := by decide +kernel
theorem dX7_addChurch_38 : decode cX7_addChurch 38 = .ok (.iload 4, 2) := by decide +kernel
theorem dX7_addChurch_40 : decode cX7_addChurch 40 = .ok (.iastore, 1) := by decide +kernel
theorem dX7_addChurch_41 : decode cX7_addChurch 41 = .ok (.aload_n 0, 1) := by decide +kernel
theorem dX7_addChurch_42 : decode cX7_addChurch 42 = .ok (.dup, 1) := by decide +kernel
theorem dX7_addChurch_43 : decode cX7_addChurch 43 = .ok (.getfield 115, 3) := by decide +kernel
theorem dX7_addChurch_46 : decode cX7_addChurch 46 = .ok (.iconst 1, 1) := by decide +kernel
theorem dX7_addChurch_47 : decode cX7_addChurch 47 = .ok (.iadd, 1) := by decide +kernel
theorem dX7_addChurch_48 : decode cX7_addChurch 48 = .ok (.putfield 115, 3) := by decide +kernel
theorem dX7_addChurch_51 : decode cX7_addChurch 51 = .ok (.return_, 1) := by decide +kernel
theorem dX7_home_0 : decode cX7_home 0 = .ok (.iload_n 1, 1) := by decide +kernel
theorem dX7_home_1 : decode cX7_home 1 = .ok (.iload_n 2, 1) := by decide +kernel
theorem dX7_home_2 : decode cX7_home 2 = .ok (.invokestatic 118, 3) := by decide +kernel
theorem dX7_home_5 : decode cX7_home 5 = .ok (.ifCond .eq 15, 3) := by decide +kernel
theorem dX7_home_8 : decode cX7_home 8 = .ok (.iload_n 3, 1) := by decide +kernel
theorem dX7_home_9 : decode cX7_home 9 = .ok (.i2l, 1) := by decide +kernel
theorem dX7_home_10 : decode cX7_home 10 = .ok (.lconst 1, 1) := by decide +kernel
theorem dX7_home_11 : decode cX7_home 11 = .ok (.ldc2_w 122, 3) := by decide +kernel
theorem dX7_home_14 : decode cX7_home 14 = .ok (.invokestatic 88, 3) := by decide +kernel
theorem dX7_home_17 : decode cX7_home 17 = .ok (.ifCond .ne 6, 3) := by decide +kernel
theorem dX7_home_20 : decode cX7_home 20 = .ok (.bipush (-2), 2) := by decide +kernel
theorem dX7_home_22 : decode cX7_home 22 = .ok (.ireturn, 1) := by decide +kernel
theorem dX7_home_23 : decode cX7_home 23 = .ok (.aload_n 0, 1) := by decide +kernel
theorem dX7_home_24 : decode cX7_home 24 = .ok (.getfield 112, 3) := by decide +kernel
theorem dX7_home_27 : decode cX7_home 27 = .ok (.bipush 10, 2) := by decide +kernel
theorem dX7_home_29 : decode cX7_home 29 = .ok (.if_icmp .ne 6, 3) := by decide +kernel
theorem dX7_home_32 : decode cX7_home 32 = .ok (.bipush (-4), 2) := by decide +kernel
theorem dX7_home_34 : decode cX7_home 34 = .ok (.ireturn, 1) := by decide +kernel
theorem dX7_home_35 : decode cX7_home 35 = .ok (.aload_n 0, 1) := by decide +kernel
theorem dX7_home_36 : decode cX7_home 36 = .ok (.iload_n 1, 1) := by decide +kernel
theorem dX7_home_37 : decode cX7_home 37 = .ok (.iload_n 2, 1) := by decide +kernel
theorem dX7_home_38 : decode cX7_home 38 = .ok (.iload_n 3, 1) := by decide +kernel
theorem dX7_home_39 : decode cX7_home 39 = .ok (.invokevirtual 124, 3) := by decide +kernel
theorem dX7_home_42 : decode cX7_home 42 = .ok (.aload_n 0, 1) := by decide +kernel
theorem dX7_home_43 : decode cX7_home 43 = .ok (.getfield 112, 3) := by decide +kernel
theorem dX7_home_46 : decode cX7_home 46 = .ok (.iconst 1, 1) := by decide +kernel
theorem dX7_home_47 : decode cX7_home 47 = .ok (.isub, 1) := by decide +kernel
theorem dX7_home_48 : decode cX7_home 48 = .ok (.ireturn, 1) := by decide +kernel
theorem dX7_church_0 : decode cX7_church 0 = .ok (.iload_n 1, 1) := by decide +kernel
theorem dX7_church_1 : decode cX7_church 1 = .ok (.i2l, 1) := by decide +kernel
theorem dX7_church_2 : decode cX7_church 2 = .ok (.lconst 0, 1) := by decide +kernel
theorem dX7_church_3 : decode cX7_church 3 = .ok (.ldc2_w 99, 3) := by decide +kernel
theorem dX7_church_6 : decode cX7_church 6 = .ok (.invokestatic 88, 3) := by decide +kernel
theorem dX7_church_9 : decode cX7_church 9 = .ok (.ifCond .eq 24, 3) := by decide +kernel
theorem dX7_church_12 : decode cX7_church 12 = .ok (.iload_n 2, 1) := by decide +kernel
theorem dX7_church_13 : decode cX7_church 13 = .ok (.iload_n 3, 1) := by decide +kernel
theorem dX7_church_14 : decode cX7_church 14 = .ok (.invokestatic 118, 3) := by decide +kernel
theorem dX7_church_17 : decode cX7_church 17 = .ok (.ifCond .eq 16, 3) := by decide +kernel
theorem dX7_church_20 : decode cX7_church 20 = .ok (.iload 4, 2) := by decide +kernel
theorem dX7_church_22 : decode cX7_church 22 = .ok (.i2l, 1) := by decide +kernel
theorem dX7_church_23 : decode cX7_church 23 = .ok (.lconst 0, 1) := by decide +kernel
theorem dX7_church_24 : decode cX7_church 24 = .ok (.ldc2_w 128, 3) := by decide +kernel
theorem dX7_church_27 : decode cX7_church 27 = .ok (.invokestatic 88, 3) := by decide +kernel
theorem dX7_church_30 : decode cX7_church 30 = .ok (.ifCond .ne 6, 3) := by decide +kernel
theorem dX7_church_33 : decode cX7_church 33 = .ok (.bipush (-2), 2) := by decide +kernel
theorem dX7_church_35 : decode cX7_church 35 = .ok (.ireturn, 1) := by decide +kernel
theorem dX7_church_36 : decode cX7_church 36 = .ok (.aload_n 0, 1) := by decide +kernel
theorem dX7_church_37 : decode cX7_church 37 = .ok (.getfield 115, 3) := by decide +kernel
theorem dX7_church_40 : decode cX7_church 40 = .ok (.iconst 5, 1) := by decide +kernel
theorem dX7_church_41 : decode cX7_church 41 = .ok (.if_icmp .ne 6, 3) := by decide +kernel
theorem dX7_church_44 : decode cX7_church 44 = .ok (.bipush (-4), 2) := by decide +kernel
theorem dX7_church_46 : decode cX7_church 46 = .ok (.ireturn, 1) := by decide +kernel
theorem dX7_church_47 : decode cX7_church 47 = .ok (.aload_n 0, 1) := by decide +kernel
theorem dX7_church_48 : decode cX7_church 48 = .ok (.iload_n 1, 1) := by decide +kernel
theorem dX7_church_49 : decode cX7_church 49 = .ok (.iload_n 2, 1) := by decide +kernel
theorem dX7_church_50 : decode cX7_church 50 = .ok (.iload_n 3, 1) := by decide +kernel
theorem dX7_church_51 : decode cX7_church 51 = .ok (.iload 4, 2) := by decide +kernel
theorem dX7_church_53 : decode cX7_church 53 = .ok (.invokevirtual 130, 3) := by decide +kernel
theorem dX7_church_56 : decode cX7_church 56 = .ok (.aload_n 0, 1) := by decide +kernel
theorem dX7_church_57 : decode cX7_church 57 = .ok (.getfield 115, 3) := by decide +kernel
theorem dX7_church_60 : decode cX7_church 60 = .ok (.iconst 1, 1) := by decide +kernel
theorem dX7_church_61 : decode cX7_church 61 = .ok (.isub, 1) := by decide +kernel
theorem dX7_church_62 : decode cX7_church 62 = .ok (.ireturn, 1) := by decide +kernel
theorem dX7_kindBy_0 : decode cX7_kindBy 0 = .ok (.iload_n 0, 1) := by decide +kernel
theorem dX7_kindBy_1 : decode cX7_kindBy 1 = .ok (.bipush 113, 2) := by decide +kernel
theorem dX7_kindBy_3 : decode cX7_kindBy 3 = .ok (.if_icmp .ne 7, 3) := by decide +kernel
theorem dX7_kindBy_6 : decode cX7_kindBy 6 = .ok (.iconst 0, 1) := by decide +kernel
theorem dX7_kindBy_7 : decode cX7_kindBy 7 = .ok (.goto 34, 3) := by decide +kernel
theorem dX7_kindBy_10 : decode cX7_kindBy 10 = .ok (.iload_n 0, 1) := by decide +kernel
theorem dX7_kindBy_11 : decode cX7_kindBy 11 = .ok (.bipush 115, 2) := by decide +kernel
theorem dX7_kindBy_13 : decode cX7_kindBy 13 = .ok (.if_icmp .ne 7, 3) := by decide +kernel
theorem dX7_kindBy_16 : decode cX7_kindBy 16 = .ok (.iconst 1, 1) := by decide +kernel
theorem dX7_kindBy_17 : decode cX7_kindBy 17 = .ok (.goto 24, 3) := by decide +kernel
theorem dX7_kindBy_20 : decode cX7_kindBy 20 = .ok (.iload_n 0, 1) := by decide +kernel
theorem dX7_kindBy_21 : decode cX7_kindBy 21 = .ok (.bipush 102, 2) := by decide +kernel
theorem dX7_kindBy_23 : decode cX7_kindBy 23 = .ok (.if_icmp .ne 7, 3) := by decide +kernel
theorem dX7_kindBy_26 : decode cX7_kindBy 26 = .ok (.iconst 2, 1) := by decide +kernel
theorem dX7_kindBy_27 : decode cX7_kindBy 27 = .ok (.goto 14, 3) := by decide +kernel
theorem dX7_kindBy_30 : decode cX7_kindBy 30 = .ok (.iload_n 0, 1) := by decide +kernel
theorem dX7_kindBy_31 : decode cX7_kindBy 31 = .ok (.bipush 104, 2) := by decide +kernel
theorem dX7_kindBy_33 : decode cX7_kindBy 33 = .ok (.if_icmp .ne 7, 3) := by decide +kernel
theorem dX7_kindBy_36 : decode cX7_kindBy 36 = .ok (.iconst 3, 1) := by decide +kernel
theorem dX7_kindBy_37 : decode cX7_kindBy 37 = .ok (.goto 4, 3) := by decide +kernel
theorem dX7_kindBy_40 : decode cX7_kindBy 40 = .ok (.iconst (-1), 1) := by decide +kernel
theorem dX7_kindBy_41 : decode cX7_kindBy 41 = .ok (.ireturn, 1) := by decide +kernel
theorem dX7_readsNumber_0 : decode cX7_readsNumber 0 = .ok (.aload_n 0, 1) := by decide +kernel
theorem dX7_readsNumber_1 : decode cX7_readsNumber 1 = .ok (.getfield 134, 3) := by decide +kernel
theorem dX7_readsNumber_4 : decode cX7_readsNumber 4 = .ok (.istore 6, 2) := by decide +kernel
theorem dX7_readsNumber_6 : decode cX7_readsNumber 6 = .ok (.iconst 0, 1) := by decide +kernel
theorem dX7_readsNumber_7 : decode cX7_readsNumber 7 = .ok (.istore 7, 2) := by decide +kernel
theorem dX7_readsNumber_9 : decode cX7_readsNumber 9 = .ok (.aload_n 0, 1) := by decide +kernel
theorem dX7_readsNumber_10 : decode cX7_readsNumber 10 = .ok (.getfield 134, 3) := by decide +kernel
theorem dX7_readsNumber_13 : decode cX7_readsNumber 13 = .ok (.iload_n 3, 1) := by decide +kernel
theorem dX7_readsNumber_14 : decode cX7_readsNumber 14 = .ok (.if_icmp .ge 73, 3) := by decide +kernel
theorem dX7_readsNumber_17 : decode cX7_readsNumber 17 = .ok (.aload_n 0, 1) := by decide +kernel
theorem dX7_readsNumber_18 : decode cX7_readsNumber 18 = .ok (.getfield 134, 3) := by decide +kernel
theorem dX7_readsNumber_21 : decode cX7_readsNumber 21 = .ok (.iload 6, 2) := by decide +kernel
theorem dX7_readsNumber_23 : decode cX7_readsNumber 23 = .ok (.iconst 2, 1) := by decide +kernel
theorem dX7_readsNumber_24 : decode cX7_readsNumber 24 = .ok (.iadd, 1) := by decide +kernel
theorem dX7_readsNumber_25 : decode cX7_readsNumber 25 = .ok (.if_icmp .ge 62, 3) := by decide +kernel
theorem dX7_readsNumber_28 : decode cX7_readsNumber 28 = .ok (.aload_n 0, 1) := by decide +kernel
theorem dX7_readsNumber_29 : decode cX7_readsNumber 29 = .ok (.getfield 74, 3) := by decide +kernel
theorem dX7_readsNumber_32 : decode cX7_readsNumber 32 = .ok (.iload_n 2, 1) := by decide +kernel
theorem dX7_readsNumber_33 : decode cX7_readsNumber 33 = .ok (.aload_n 0, 1) := by decide +kernel
theorem dX7_readsNumber_34 : decode cX7_readsNumber 34 = .ok (.getfield 134, 3) := by decide +kernel
theorem dX7_readsNumber_37 : decode cX7_readsNumber 37 = .ok (.iadd, 1) := by decide +kernel
theorem dX7_readsNumber_38 : decode cX7_readsNumber 38 = .ok (.iaload, 1) := by decide +kernel
theorem dX7_readsNumber_39 : decode cX7_readsNumber 39 = .ok (.i2l, 1) := by decide +kernel
theorem dX7_readsNumber_40 : decode cX7_readsNumber 40 = .ok (.ldc2_w 137, 3) := by decide +kernel
theorem dX7_readsNumber_43 : decode cX7_readsNumber 43 = .ok (.ldc2_w 139, 3) := by decide +kernel
theorem dX7_readsNumber_46 : decode cX7_readsNumber 46 = .ok (.invokestatic 88, 3) := by decide +kernel
theorem dX7_readsNumber_49 : decode cX7_readsNumber 49 = .ok (.ifCond .eq 38, 3) := by decide +kernel
theorem dX7_readsNumber_52 : decode cX7_readsNumber 52 = .ok (.bipush 10, 2) := by decide +kernel
theorem dX7_readsNumber_54 : decode cX7_readsNumber 54 = .ok (.iload 7, 2) := by decide +kernel
theorem dX7_readsNumber_56 : decode cX7_readsNumber 56 = .ok (.imul, 1) := by decide +kernel
theorem dX7_readsNumber_57 : decode cX7_readsNumber 57 = .ok (.aload_n 0, 1) := by decide +kernel
theorem dX7_readsNumber_58 : decode cX7_readsNumber 58 = .ok (.getfield 74, 3) := by decide +kernel
theorem dX7_readsNumber_61 : decode cX7_readsNumber 61 = .ok (.iload_n 2, 1) := by decide +kernel
theorem dX7_readsNumber_62 : decode cX7_readsNumber 62 = .ok (.aload_n 0, 1) := by decide +kernel
theorem dX7_readsNumber_63 : decode cX7_readsNumber 63 = .ok (.getfield 134, 3) := by decide +kernel
theorem dX7_readsNumber_66 : decode cX7_readsNumber 66 = .ok (.iadd, 1) := by decide +kernel
theorem dX7_readsNumber_67 : decode cX7_readsNumber 67 = .ok (.iaload, 1) := by decide +kernel
theorem dX7_readsNumber_68 : decode cX7_readsNumber 68 = .ok (.iadd, 1) := by decide +kernel
theorem dX7_readsNumber_69 : decode cX7_readsNumber 69 = .ok (.bipush 48, 2) := by decide +kernel
theorem dX7_readsNumber_71 : decode cX7_readsNumber 71 = .ok (.isub, 1) := by decide +kernel
theorem dX7_readsNumber_72 : decode cX7_readsNumber 72 = .ok (.istore 7, 2) := by decide +kernel
theorem dX7_readsNumber_74 : decode cX7_readsNumber 74 = .ok (.aload_n 0, 1) := by decide +kernel
theorem dX7_readsNumber_75 : decode cX7_readsNumber 75 = .ok (.dup, 1) := by decide +kernel
theorem dX7_readsNumber_76 : decode cX7_readsNumber 76 = .ok (.getfield 134, 3) := by decide +kernel
theorem dX7_readsNumber_79 : decode cX7_readsNumber 79 = .ok (.iconst 1, 1) := by decide +kernel
theorem dX7_readsNumber_80 : decode cX7_readsNumber 80 = .ok (.iadd, 1) := by decide +kernel
theorem dX7_readsNumber_81 : decode cX7_readsNumber 81 = .ok (.putfield 134, 3) := by decide +kernel
theorem dX7_readsNumber_84 : decode cX7_readsNumber 84 = .ok (.goto (-75), 3) := by decide +kernel
theorem dX7_readsNumber_87 : decode cX7_readsNumber 87 = .ok (.iload 7, 2) := by decide +kernel
theorem dX7_readsNumber_89 : decode cX7_readsNumber 89 = .ok (.i2l, 1) := by decide +kernel
theorem dX7_readsNumber_90 : decode cX7_readsNumber 90 = .ok (.iload 4, 2) := by decide +kernel
theorem dX7_readsNumber_92 : decode cX7_readsNumber 92 = .ok (.i2l, 1) := by decide +kernel
theorem dX7_readsNumber_93 : decode cX7_readsNumber 93 = .ok (.iload 5, 2) := by decide +kernel
theorem dX7_readsNumber_95 : decode cX7_readsNumber 95 = .ok (.i2l, 1) := by decide +kernel
theorem dX7_readsNumber_96 : decode cX7_readsNumber 96 = .ok (.invokestatic 88, 3) := by decide +kernel
theorem dX7_readsNumber_99 : decode cX7_readsNumber 99 = .ok (.ifCond .ne 9, 3) := by decide +kernel
theorem dX7_readsNumber_102 : decode cX7_readsNumber 102 = .ok (.aload_n 0, 1) := by decide +kernel
theorem dX7_readsNumber_103 : decode cX7_readsNumber 103 = .ok (.iload 6, 2) := by decide +kernel
theorem dX7_readsNumber_105 : decode cX7_readsNumber 105 = .ok (.putfield 134, 3) := by decide +kernel
theorem dX7_readsNumber_108 : decode cX7_readsNumber 108 = .ok (.aload_n 0, 1) := by decide +kernel
theorem dX7_readsNumber_109 : decode cX7_readsNumber 109 = .ok (.getfield 38, 3) := by decide +kernel
theorem dX7_readsNumber_112 : decode cX7_readsNumber 112 = .ok (.iload_n 1, 1) := by decide +kernel
theorem dX7_readsNumber_113 : decode cX7_readsNumber 113 = .ok (.iload 7, 2) := by decide +kernel
theorem dX7_readsNumber_115 : decode cX7_readsNumber 115 = .ok (.iastore, 1) := by decide +kernel
theorem dX7_readsNumber_116 : decode cX7_readsNumber 116 = .ok (.aload_n 0, 1) := by decide +kernel
theorem dX7_readsNumber_117 : decode cX7_readsNumber 117 = .ok (.getfield 134, 3) := by decide +kernel
theorem dX7_readsNumber_120 : decode cX7_readsNumber 120 = .ok (.iload 6, 2) := by decide +kernel
theorem dX7_readsNumber_122 : decode cX7_readsNumber 122 = .ok (.if_icmp .le 7, 3) := by decide +kernel
theorem dX7_readsNumber_125 : decode cX7_readsNumber 125 = .ok (.iconst 1, 1) := by decide +kernel
theorem dX7_readsNumber_126 : decode cX7_readsNumber 126 = .ok (.goto 4, 3) := by decide +kernel
theorem dX7_readsNumber_129 : decode cX7_readsNumber 129 = .ok (.iconst 0, 1) := by decide +kernel
theorem dX7_readsNumber_130 : decode cX7_readsNumber 130 = .ok (.ireturn, 1) := by decide +kernel
theorem dX7_readsSign_0 : decode cX7_readsSign 0 = .ok (.aload_n 0, 1) := by decide +kernel
theorem dX7_readsSign_1 : decode cX7_readsSign 1 = .ok (.getfield 134, 3) := by decide +kernel
theorem dX7_readsSign_4 : decode cX7_readsSign 4 = .ok (.iload_n 3, 1) := by decide +kernel
theorem dX7_readsSign_5 : decode cX7_readsSign 5 = .ok (.if_icmp .ge 22, 3) := by decide +kernel
theorem dX7_readsSign_8 : decode cX7_readsSign 8 = .ok (.aload_n 0, 1) := by decide +kernel
theorem dX7_readsSign_9 : decode cX7_readsSign 9 = .ok (.getfield 74, 3) := by decide +kernel
theorem dX7_readsSign_12 : decode cX7_readsSign 12 = .ok (.iload_n 2, 1) := by decide +kernel
theorem dX7_readsSign_13 : decode cX7_readsSign 13 = .ok (.aload_n 0, 1) := by decide +kernel
theorem dX7_readsSign_14 : decode cX7_readsSign 14 = .ok (.getfield 134, 3) := by decide +kernel
theorem dX7_readsSign_17 : decode cX7_readsSign 17 = .ok (.iadd, 1) := by decide +kernel
theorem dX7_readsSign_18 : decode cX7_readsSign 18 = .ok (.iaload, 1) := by decide +kernel
theorem dX7_readsSign_19 : decode cX7_readsSign 19 = .ok (.iload_n 1, 1) := by decide +kernel
theorem dX7_readsSign_20 : decode cX7_readsSign 20 = .ok (.if_icmp .ne 7, 3) := by decide +kernel
theorem dX7_readsSign_23 : decode cX7_readsSign 23 = .ok (.iconst 1, 1) := by decide +kernel
theorem dX7_readsSign_24 : decode cX7_readsSign 24 = .ok (.goto 4, 3) := by decide +kernel
theorem dX7_readsSign_27 : decode cX7_readsSign 27 = .ok (.iconst 0, 1) := by decide +kernel
theorem dX7_readsSign_28 : decode cX7_readsSign 28 = .ok (.istore 4, 2) := by decide +kernel
theorem dX7_readsSign_30 : decode cX7_readsSign 30 = .ok (.aload_n 0, 1) := by decide +kernel
theorem dX7_readsSign_31 : decode cX7_readsSign 31 = .ok (.dup, 1) := by decide +kernel
theorem dX7_readsSign_32 : decode cX7_readsSign 32 = .ok (.getfield 134, 3) := by decide +kernel
theorem dX7_readsSign_35 : decode cX7_readsSign 35 = .ok (.iload 4, 2) := by decide +kernel
theorem dX7_readsSign_37 : decode cX7_readsSign 37 = .ok (.ifCond .eq 7, 3) := by decide +kernel
theorem dX7_readsSign_40 : decode cX7_readsSign 40 = .ok (.iconst 1, 1) := by decide +kernel
theorem dX7_readsSign_41 : decode cX7_readsSign 41 = .ok (.goto 4, 3) := by decide +kernel
theorem dX7_readsSign_44 : decode cX7_readsSign 44 = .ok (.iconst 0, 1) := by decide +kernel
theorem dX7_readsSign_45 : decode cX7_readsSign 45 = .ok (.iadd, 1) := by decide +kernel
theorem dX7_readsSign_46 : decode cX7_readsSign 46 = .ok (.putfield 134, 3) := by decide +kernel
theorem dX7_readsSign_49 : decode cX7_readsSign 49 = .ok (.iload 4, 2) := by decide +kernel
theorem dX7_readsSign_51 : decode cX7_readsSign 51 = .ok (.ireturn, 1) := by decide +kernel
theorem dX7_readsItem_0 : decode cX7_readsItem 0 = .ok (.aload_n 0, 1) := by decide +kernel
theorem dX7_readsItem_1 : decode cX7_readsItem 1 = .ok (.getfield 134, 3) := by decide +kernel
theorem dX7_readsItem_4 : decode cX7_readsItem 4 = .ok (.iload_n 2, 1) := by decide +kernel
theorem dX7_readsItem_5 : decode cX7_readsItem 5 = .ok (.if_icmp .ge 20, 3) := by decide +kernel
theorem dX7_readsItem_8 : decode cX7_readsItem 8 = .ok (.aload_n 0, 1) := by decide +kernel
theorem dX7_readsItem_9 : decode cX7_readsItem 9 = .ok (.getfield 74, 3) := by decide +kernel
theorem dX7_readsItem_12 : decode cX7_readsItem 12 = .ok (.iload_n 1, 1) := by decide +kernel
theorem dX7_readsItem_13 : decode cX7_readsItem 13 = .ok (.aload_n 0, 1) := by decide +kernel
theorem dX7_readsItem_14 : decode cX7_readsItem 14 = .ok (.getfield 134, 3) := by decide +kernel
theorem dX7_readsItem_17 : decode cX7_readsItem 17 = .ok (.iadd, 1) := by decide +kernel
theorem dX7_readsItem_18 : decode cX7_readsItem 18 = .ok (.iaload, 1) := by decide +kernel
theorem dX7_readsItem_19 : decode cX7_readsItem 19 = .ok (.invokestatic 141, 3) := by decide +kernel
theorem dX7_readsItem_22 : decode cX7_readsItem 22 = .ok (.goto 4, 3) := by decide +kernel
theorem dX7_readsItem_25 : decode cX7_readsItem 25 = .ok (.iconst (-1), 1) := by decide +kernel
theorem dX7_readsItem_26 : decode cX7_readsItem 26 = .ok (.istore_n 3, 1) := by decide +kernel
theorem dX7_readsItem_27 : decode cX7_readsItem 27 = .ok (.iconst 0, 1) := by decide +kernel
theorem dX7_readsItem_28 : decode cX7_readsItem 28 = .ok (.istore 4, 2) := by decide +kernel
theorem dX7_readsItem_30 : decode cX7_readsItem 30 = .ok (.iconst 0, 1) := by decide +kernel
theorem dX7_readsItem_31 : decode cX7_readsItem 31 = .ok (.istore 5, 2) := by decide +kernel
theorem dX7_readsItem_33 : decode cX7_readsItem 33 = .ok (.iload 5, 2) := by decide +kernel
theorem dX7_readsItem_35 : decode cX7_readsItem 35 = .ok (.aload_n 0, 1) := by decide +kernel
theorem dX7_readsItem_36 : decode cX7_readsItem 36 = .ok (.getfield 144, 3) := by decide +kernel
theorem dX7_readsItem_39 : decode cX7_readsItem 39 = .ok (.if_icmp .ge 30, 3) := by decide +kernel
theorem dX7_readsItem_42 : decode cX7_readsItem 42 = .ok (.iload 4, 2) := by decide +kernel
theorem dX7_readsItem_44 : decode cX7_readsItem 44 = .ok (.aload_n 0, 1) := by decide +kernel
theorem dX7_readsItem_45 : decode cX7_readsItem 45 = .ok (.getfield 35, 3) := by decide +kernel
theorem dX7_readsItem_48 : decode cX7_readsItem 48 = .ok (.iload 5, 2) := by decide +kernel
theorem dX7_readsItem_50 : decode cX7_readsItem 50 = .ok (.iaload, 1) := by decide +kernel
theorem dX7_readsItem_51 : decode cX7_readsItem 51 = .ok (.iconst 3, 1) := by decide +kernel
theorem dX7_readsItem_52 : decode cX7_readsItem 52 = .ok (.if_icmp .ne 7, 3) := by decide +kernel
theorem dX7_readsItem_55 : decode cX7_readsItem 55 = .ok (.iconst 1, 1) := by decide +kernel
theorem dX7_readsItem_56 : decode cX7_readsItem 56 = .ok (.goto 4, 3) := by decide +kernel
theorem dX7_readsItem_59 : decode cX7_readsItem 59 = .ok (.iconst 0, 1) := by decide +kernel
theorem dX7_readsItem_60 : decode cX7_readsItem 60 = .ok (.iadd, 1) := by decide +kernel
theorem dX7_readsItem_61 : decode cX7_readsItem 61 = .ok (.istore 4, 2) := by decide +kernel
theorem dX7_readsItem_63 : decode cX7_readsItem 63 = .ok (.iinc 5 1, 3) := by decide +kernel
theorem dX7_readsItem_66 : decode cX7_readsItem 66 = .ok (.goto (-33), 3) := by decide +kernel
theorem dX7_readsItem_69 : decode cX7_readsItem 69 = .ok (.iload_n 3, 1) := by decide +kernel
theorem dX7_readsItem_70 : decode cX7_readsItem 70 = .ok (.iconst 3, 1) := by decide +kernel
theorem dX7_readsItem_71 : decode cX7_readsItem 71 = .ok (.if_icmp .ne 18, 3) := by decide +kernel
theorem dX7_readsItem_74 : decode cX7_readsItem 74 = .ok (.iload 4, 2) := by decide +kernel
theorem dX7_readsItem_76 : decode cX7_readsItem 76 = .ok (.bipush 10, 2) := by decide +kernel
theorem dX7_readsItem_78 : decode cX7_readsItem 78 = .ok (.if_icmp .ge 7, 3) := by decide +kernel
theorem dX7_readsItem_81 : decode cX7_readsItem 81 = .ok (.iconst 1, 1) := by decide +kernel
theorem dX7_readsItem_82 : decode cX7_readsItem 82 = .ok (.goto 23, 3) := by decide +kernel
theorem dX7_readsItem_85 : decode cX7_readsItem 85 = .ok (.iconst 0, 1) := by decide +kernel
theorem dX7_readsItem_86 : decode cX7_readsItem 86 = .ok (.goto 19, 3) := by decide +kernel
theorem dX7_readsItem_89 : decode cX7_readsItem 89 = .ok (.aload_n 0, 1) := by decide +kernel
theorem dX7_readsItem_90 : decode cX7_readsItem 90 = .ok (.getfield 144, 3) := by decide +kernel
theorem dX7_readsItem_93 : decode cX7_readsItem 93 = .ok (.iload 4, 2) := by decide +kernel
theorem dX7_readsItem_95 : decode cX7_readsItem 95 = .ok (.isub, 1) := by decide +kernel
theorem dX7_readsItem_96 : decode cX7_readsItem 96 = .ok (.iconst 5, 1) := by decide +kernel
theorem dX7_readsItem_97 : decode cX7_readsItem 97 = .ok (.if_icmp .ge 7, 3) := by decide +kernel
theorem dX7_readsItem_100 : decode cX7_readsItem 100 = .ok (.iconst 1, 1) := by decide +kernel
theorem dX7_readsItem_101 : decode cX7_readsItem 101 = .ok (.goto 4, 3) := by decide +kernel
theorem dX7_readsItem_104 : decode cX7_readsItem 104 = .ok (.iconst 0, 1) := by decide +kernel
theorem dX7_readsItem_105 : decode cX7_readsItem 105 = .ok (.istore 5, 2) := by decide +kernel
theorem dX7_readsItem_107 : decode cX7_readsItem 107 = .ok (.iload_n 3, 1) := by decide +kernel
theorem dX7_readsItem_108 : decode cX7_readsItem 108 = .ok (.ifCond .lt 8, 3) := by decide +kernel
theorem dX7_readsItem_111 : decode cX7_readsItem 111 = .ok (.iload 5, 2) := by decide +kernel
theorem dX7_readsItem_113 : decode cX7_readsItem 113 = .ok (.ifCond .ne 5, 3) := by decide +kernel
theorem dX7_readsItem_116 : decode cX7_readsItem 116 = .ok (.iconst 0, 1) := by decide +kernel
theorem dX7_readsItem_117 : decode cX7_readsItem 117 = .ok (.ireturn, 1) := by decide +kernel
theorem dX7_readsItem_118 : decode cX7_readsItem 118 = .ok (.aload_n 0, 1) := by decide +kernel
theorem dX7_readsItem_119 : decode cX7_readsItem 119 = .ok (.dup, 1) := by decide +kernel
theorem dX7_readsItem_120 : decode cX7_readsItem 120 = .ok (.getfield 134, 3) := by decide +kernel
theorem dX7_readsItem_123 : decode cX7_readsItem 123 = .ok (.iconst 1, 1) := by decide +kernel
theorem dX7_readsItem_124 : decode cX7_readsItem 124 = .ok (.iadd, 1) := by decide +kernel
theorem dX7_readsItem_125 : decode cX7_readsItem 125 = .ok (.putfield 134, 3) := by decide +kernel
theorem dX7_readsItem_128 : decode cX7_readsItem 128 = .ok (.aload_n 0, 1) := by decide +kernel
theorem dX7_readsItem_129 : decode cX7_readsItem 129 = .ok (.getfield 35, 3) := by decide +kernel
theorem dX7_readsItem_132 : decode cX7_readsItem 132 = .ok (.aload_n 0, 1) := by decide +kernel
theorem dX7_readsItem_133 : decode cX7_readsItem 133 = .ok (.getfield 144, 3) := by decide +kernel
theorem dX7_readsItem_136 : decode cX7_readsItem 136 = .ok (.iload_n 3, 1) := by decide +kernel
theorem dX7_readsItem_137 : decode cX7_readsItem 137 = .ok (.iastore, 1) := by decide +kernel
theorem dX7_readsItem_138 : decode cX7_readsItem 138 = .ok (.aload_n 0, 1) := by decide +kernel
theorem dX7_readsItem_139 : decode cX7_readsItem 139 = .ok (.iconst 3, 1) := by decide +kernel
theorem dX7_readsItem_140 : decode cX7_readsItem 140 = .ok (.aload_n 0, 1) := by decide +kernel
theorem dX7_readsItem_141 : decode cX7_readsItem 141 = .ok (.getfield 144, 3) := by decide +kernel
theorem dX7_readsItem_144 : decode cX7_readsItem 144 = .ok (.imul, 1) := by decide +kernel
theorem dX7_readsItem_145 : decode cX7_readsItem 145 = .ok (.iload_n 1, 1) := by decide +kernel
theorem dX7_readsItem_146 : decode cX7_readsItem 146 = .ok (.iload_n 2, 1) := by decide +kernel
theorem dX7_readsItem_147 : decode cX7_readsItem 147 = .ok (.iconst 0, 1) := by decide +kernel
theorem dX7_readsItem_148 : decode cX7_readsItem 148 = .ok (.bipush 60, 2) := by decide +kernel
theorem dX7_readsItem_150 : decode cX7_readsItem 150 = .ok (.invokevirtual 147, 3) := by decide +kernel
theorem dX7_readsItem_153 : decode cX7_readsItem 153 = .ok (.ifCond .eq 38, 3) := by decide +kernel
theorem dX7_readsItem_156 : decode cX7_readsItem 156 = .ok (.aload_n 0, 1) := by decide +kernel
theorem dX7_readsItem_157 : decode cX7_readsItem 157 = .ok (.bipush 44, 2) := by decide +kernel
theorem dX7_readsItem_159 : decode cX7_readsItem 159 = .ok (.iload_n 1, 1) := by decide +kernel
theorem dX7_readsItem_160 : decode cX7_readsItem 160 = .ok (.iload_n 2, 1) := by decide +kernel
theorem dX7_readsItem_161 : decode cX7_readsItem 161 = .ok (.invokevirtual 151, 3) := by decide +kernel
theorem dX7_readsItem_164 : decode cX7_readsItem 164 = .ok (.ifCond .eq 27, 3) := by decide +kernel
theorem dX7_readsItem_167 : decode cX7_readsItem 167 = .ok (.aload_n 0, 1) := by decide +kernel
theorem dX7_readsItem_168 : decode cX7_readsItem 168 = .ok (.iconst 3, 1) := by decide +kernel
theorem dX7_readsItem_169 : decode cX7_readsItem 169 = .ok (.aload_n 0, 1) := by decide +kernel
theorem dX7_readsItem_170 : decode cX7_readsItem 170 = .ok (.getfield 144, 3) := by decide +kernel
theorem dX7_readsItem_173 : decode cX7_readsItem 173 = .ok (.imul, 1) := by decide +kernel
theorem dX7_readsItem_174 : decode cX7_readsItem 174 = .ok (.iconst 1, 1) := by decide +kernel
theorem dX7_readsItem_175 : decode cX7_readsItem 175 = .ok (.iadd, 1) := by decide +kernel
theorem dX7_readsItem_176 : decode cX7_readsItem 176 = .ok (.iload_n 1, 1) := by decide +kernel
theorem dX7_readsItem_177 : decode cX7_readsItem 177 = .ok (.iload_n 2, 1) := by decide +kernel
theorem dX7_readsItem_178 : decode cX7_readsItem 178 = .ok (.iconst 0, 1) := by decide +kernel
theorem dX7_readsItem_179 : decode cX7_readsItem 179 = .ok (.bipush 60, 2) := by decide +kernel
theorem dX7_readsItem_181 : decode cX7_readsItem 181 = .ok (.invokevirtual 147, 3) := by decide +kernel
theorem dX7_readsItem_184 : decode cX7_readsItem 184 = .ok (.ifCond .eq 7, 3) := by decide +kernel
theorem dX7_readsItem_187 : decode cX7_readsItem 187 = .ok (.iconst 1, 1) := by decide +kernel
theorem dX7_readsItem_188 : decode cX7_readsItem 188 = .ok (.goto 4, 3) := by decide +kernel
theorem dX7_readsItem_191 : decode cX7_readsItem 191 = .ok (.iconst 0, 1) := by decide +kernel
theorem dX7_readsItem_192 : decode cX7_readsItem 192 = .ok (.istore 6, 2) := by decide +kernel
theorem dX7_readsItem_194 : decode cX7_readsItem 194 = .ok (.iload 6, 2) := by decide +kernel
theorem dX7_readsItem_196 : decode cX7_readsItem 196 = .ok (.ifCond .eq 66, 3) := by decide +kernel
theorem dX7_readsItem_199 : decode cX7_readsItem 199 = .ok (.aload_n 0, 1) := by decide +kernel
theorem dX7_readsItem_200 : decode cX7_readsItem 200 = .ok (.iload_n 3, 1) := by decide +kernel
theorem dX7_readsItem_201 : decode cX7_readsItem 201 = .ok (.iconst 3, 1) := by decide +kernel
theorem dX7_readsItem_202 : decode cX7_readsItem 202 = .ok (.if_icmp .ne 8, 3) := by decide +kernel
theorem dX7_readsItem_205 : decode cX7_readsItem 205 = .ok (.bipush 42, 2) := by decide +kernel
theorem dX7_readsItem_207 : decode cX7_readsItem 207 = .ok (.goto 5, 3) := by decide +kernel
theorem dX7_readsItem_210 : decode cX7_readsItem 210 = .ok (.bipush 61, 2) := by decide +kernel
theorem dX7_readsItem_212 : decode cX7_readsItem 212 = .ok (.iload_n 1, 1) := by decide +kernel
theorem dX7_readsItem_213 : decode cX7_readsItem 213 = .ok (.iload_n 2, 1) := by decide +kernel
theorem dX7_readsItem_214 : decode cX7_readsItem 214 = .ok (.invokevirtual 151, 3) := by decide +kernel
theorem dX7_readsItem_217 : decode cX7_readsItem 217 = .ok (.ifCond .eq 45, 3) := by decide +kernel
theorem dX7_readsItem_220 : decode cX7_readsItem 220 = .ok (.aload_n 0, 1) := by decide +kernel
theorem dX7_readsItem_221 : decode cX7_readsItem 221 = .ok (.iconst 3, 1) := by decide +kernel
theorem dX7_readsItem_222 : decode cX7_readsItem 222 = .ok (.aload_n 0, 1) := by decide +kernel
theorem dX7_readsItem_223 : decode cX7_readsItem 223 = .ok (.getfield 144, 3) := by decide +kernel
theorem dX7_readsItem_226 : decode cX7_readsItem 226 = .ok (.imul, 1) := by decide +kernel
theorem dX7_readsItem_227 : decode cX7_readsItem 227 = .ok (.iconst 2, 1) := by decide +kernel
theorem dX7_readsItem_228 : decode cX7_readsItem 228 = .ok (.iadd, 1) := by decide +kernel
theorem dX7_readsItem_229 : decode cX7_readsItem 229 = .ok (.iload_n 1, 1) := by decide +kernel
theorem dX7_readsItem_230 : decode cX7_readsItem 230 = .ok (.iload_n 2, 1) := by decide +kernel
theorem dX7_readsItem_231 : decode cX7_readsItem 231 = .ok (.iload_n 3, 1) := by decide +kernel
theorem dX7_readsItem_232 : decode cX7_readsItem 232 = .ok (.iconst 3, 1) := by decide +kernel
theorem dX7_readsItem_233 : decode cX7_readsItem 233 = .ok (.if_icmp .ne 7, 3) := by decide +kernel
theorem dX7_readsItem_236 : decode cX7_readsItem 236 = .ok (.iconst 1, 1) := by decide +kernel
theorem dX7_readsItem_237 : decode cX7_readsItem 237 = .ok (.goto 4, 3) := by decide +kernel
theorem dX7_readsItem_240 : decode cX7_readsItem 240 = .ok (.iconst 0, 1) := by decide +kernel
theorem dX7_readsItem_241 : decode cX7_readsItem 241 = .ok (.iload_n 3, 1) := by decide +kernel
theorem dX7_readsItem_242 : decode cX7_readsItem 242 = .ok (.iconst 3, 1) := by decide +kernel
theorem dX7_readsItem_243 : decode cX7_readsItem 243 = .ok (.if_icmp .ne 7, 3) := by decide +kernel
theorem dX7_readsItem_246 : decode cX7_readsItem 246 = .ok (.iconst 5, 1) := by decide +kernel
theorem dX7_readsItem_247 : decode cX7_readsItem 247 = .ok (.goto 5, 3) := by decide +kernel
theorem dX7_readsItem_250 : decode cX7_readsItem 250 = .ok (.bipush 50, 2) := by decide +kernel
theorem dX7_readsItem_252 : decode cX7_readsItem 252 = .ok (.invokevirtual 147, 3) := by decide +kernel
theorem dX7_readsItem_255 : decode cX7_readsItem 255 = .ok (.ifCond .eq 7, 3) := by decide +kernel
theorem dX7_readsItem_258 : decode cX7_readsItem 258 = .ok (.iconst 1, 1) := by decide +kernel
theorem dX7_readsItem_259 : decode cX7_readsItem 259 = .ok (.goto 4, 3) := by decide +kernel
theorem dX7_readsItem_262 : decode cX7_readsItem 262 = .ok (.iconst 0, 1) := by decide +kernel
theorem dX7_readsItem_263 : decode cX7_readsItem 263 = .ok (.istore 6, 2) := by decide +kernel
theorem dX7_readsItem_265 : decode cX7_readsItem 265 = .ok (.aload_n 0, 1) := by decide +kernel
theorem dX7_readsItem_266 : decode cX7_readsItem 266 = .ok (.dup, 1) := by decide +kernel
theorem dX7_readsItem_267 : decode cX7_readsItem 267 = .ok (.getfield 144, 3) := by decide +kernel
theorem dX7_readsItem_270 : decode cX7_readsItem 270 = .ok (.iload 6, 2) := by decide +kernel
theorem dX7_readsItem_272 : decode cX7_readsItem 272 = .ok (.ifCond .eq 7, 3) := by decide +kernel
theorem dX7_readsItem_275 : decode cX7_readsItem 275 = .ok (.iconst 1, 1) := by decide +kernel
theorem dX7_readsItem_276 : decode cX7_readsItem 276 = .ok (.goto 4, 3) := by decide +kernel
theorem dX7_readsItem_279 : decode cX7_readsItem 279 = .ok (.iconst 0, 1) := by decide +kernel
theorem dX7_readsItem_280 : decode cX7_readsItem 280 = .ok (.iadd, 1) := by decide +kernel
theorem dX7_readsItem_281 : decode cX7_readsItem 281 = .ok (.putfield 144, 3) := by decide +kernel
theorem dX7_readsItem_284 : decode cX7_readsItem 284 = .ok (.iload 6, 2) := by decide +kernel
theorem dX7_readsItem_286 : decode cX7_readsItem 286 = .ok (.ireturn, 1) := by decide +kernel
theorem dX7_read_0 : decode cX7_read 0 = .ok (.aload_n 0, 1) := by decide +kernel
theorem dX7_read_1 : decode cX7_read 1 = .ok (.iconst 0, 1) := by decide +kernel
theorem dX7_read_2 : decode cX7_read 2 = .ok (.putfield 134, 3) := by decide +kernel
theorem dX7_read_5 : decode cX7_read 5 = .ok (.aload_n 0, 1) := by decide +kernel
theorem dX7_read_6 : decode cX7_read 6 = .ok (.iconst 0, 1) := by decide +kernel
theorem dX7_read_7 : decode cX7_read 7 = .ok (.putfield 144, 3) := by decide +kernel
theorem dX7_read_10 : decode cX7_read 10 = .ok (.iconst 1, 1) := by decide +kernel
theorem dX7_read_11 : decode cX7_read 11 = .ok (.istore_n 3, 1) := by decide +kernel
theorem dX7_read_12 : decode cX7_read 12 = .ok (.iload_n 3, 1) := by decide +kernel
theorem dX7_read_13 : decode cX7_read 13 = .ok (.ifCond .eq 51, 3) := by decide +kernel
theorem dX7_read_16 : decode cX7_read 16 = .ok (.aload_n 0, 1) := by decide +kernel
theorem dX7_read_17 : decode cX7_read 17 = .ok (.iload_n 1, 1) := by decide +kernel
theorem dX7_read_18 : decode cX7_read 18 = .ok (.iload_n 2, 1) := by decide +kernel
theorem dX7_read_19 : decode cX7_read 19 = .ok (.invokevirtual 155, 3) := by decide +kernel
theorem dX7_read_22 : decode cX7_read 22 = .ok (.ifCond .ne 8, 3) := by decide +kernel
theorem dX7_read_25 : decode cX7_read 25 = .ok (.aload_n 0, 1) := by decide +kernel
theorem dX7_read_26 : decode cX7_read 26 = .ok (.getfield 134, 3) := by decide +kernel
theorem dX7_read_29 : decode cX7_read 29 = .ok (.ireturn, 1) := by decide +kernel
theorem dX7_read_30 : decode cX7_read 30 = .ok (.aload_n 0, 1) := by decide +kernel
theorem dX7_read_31 : decode cX7_read 31 = .ok (.getfield 134, 3) := by decide +kernel
theorem dX7_read_34 : decode cX7_read 34 = .ok (.iload_n 2, 1) := by decide +kernel
theorem dX7_read_35 : decode cX7_read 35 = .ok (.if_icmp .ge 7, 3) := by decide +kernel
theorem dX7_read_38 : decode cX7_read 38 = .ok (.iconst 1, 1) := by decide +kernel
theorem dX7_read_39 : decode cX7_read 39 = .ok (.goto 4, 3) := by decide +kernel
theorem dX7_read_42 : decode cX7_read 42 = .ok (.iconst 0, 1) := by decide +kernel
theorem dX7_read_43 : decode cX7_read 43 = .ok (.istore_n 3, 1) := by decide +kernel
theorem dX7_read_44 : decode cX7_read 44 = .ok (.iload_n 3, 1) := by decide +kernel
theorem dX7_read_45 : decode cX7_read 45 = .ok (.ifCond .eq (-33), 3) := by decide +kernel
theorem dX7_read_48 : decode cX7_read 48 = .ok (.aload_n 0, 1) := by decide +kernel
theorem dX7_read_49 : decode cX7_read 49 = .ok (.bipush 59, 2) := by decide +kernel
theorem dX7_read_51 : decode cX7_read 51 = .ok (.iload_n 1, 1) := by decide +kernel
theorem dX7_read_52 : decode cX7_read 52 = .ok (.iload_n 2, 1) := by decide +kernel
theorem dX7_read_53 : decode cX7_read 53 = .ok (.invokevirtual 151, 3) := by decide +kernel
theorem dX7_read_56 : decode cX7_read 56 = .ok (.ifCond .ne (-44), 3) := by decide +kernel
theorem dX7_read_59 : decode cX7_read 59 = .ok (.aload_n 0, 1) := by decide +kernel
theorem dX7_read_60 : decode cX7_read 60 = .ok (.getfield 134, 3) := by decide +kernel
theorem dX7_read_63 : decode cX7_read 63 = .ok (.ireturn, 1) := by decide +kernel
theorem dX7_read_64 : decode cX7_read 64 = .ok (.iconst (-1), 1) := by decide +kernel
theorem dX7_read_65 : decode cX7_read 65 = .ok (.ireturn, 1) := by decide +kernel
theorem dX7_land_0 : decode cX7_land 0 = .ok (.iload_n 1, 1) := by decide +kernel
theorem dX7_land_1 : decode cX7_land 1 = .ok (.invokestatic 158, 3) := by decide +kernel
theorem dX7_land_4 : decode cX7_land 4 = .ok (.ifCond .eq 9, 3) := by decide +kernel
theorem dX7_land_7 : decode cX7_land 7 = .ok (.aload_n 0, 1) := by decide +kernel
theorem dX7_land_8 : decode cX7_land 8 = .ok (.iconst (-1), 1) := by decide +kernel
theorem dX7_land_9 : decode cX7_land 9 = .ok (.invokevirtual 101, 3) := by decide +kernel
theorem dX7_land_12 : decode cX7_land 12 = .ok (.ireturn, 1) := by decide +kernel
theorem dX7_land_13 : decode cX7_land 13 = .ok (.aload_n 0, 1) := by decide +kernel
theorem dX7_land_14 : decode cX7_land 14 = .ok (.iload_n 1, 1) := by decide +kernel
theorem dX7_land_15 : decode cX7_land 15 = .ok (.iload_n 2, 1) := by decide +kernel
theorem dX7_land_16 : decode cX7_land 16 = .ok (.iload_n 3, 1) := by decide +kernel
theorem dX7_land_17 : decode cX7_land 17 = .ok (.iload 4, 2) := by decide +kernel
theorem dX7_land_19 : decode cX7_land 19 = .ok (.i2l, 1) := by decide +kernel
theorem dX7_land_20 : decode cX7_land 20 = .ok (.invokevirtual 162, 3) := by decide +kernel
theorem dX7_land_23 : decode cX7_land 23 = .ok (.istore 5, 2) := by decide +kernel
theorem dX7_land_25 : decode cX7_land 25 = .ok (.iload 5, 2) := by decide +kernel
theorem dX7_land_27 : decode cX7_land 27 = .ok (.ifCond .ge 6, 3) := by decide +kernel
theorem dX7_land_30 : decode cX7_land 30 = .ok (.iload 5, 2) := by decide +kernel
theorem dX7_land_32 : decode cX7_land 32 = .ok (.ireturn, 1) := by decide +kernel
theorem dX7_land_33 : decode cX7_land 33 = .ok (.aload_n 0, 1) := by decide +kernel
theorem dX7_land_34 : decode cX7_land 34 = .ok (.bipush 80, 2) := by decide +kernel
theorem dX7_land_36 : decode cX7_land 36 = .ok (.iload_n 1, 1) := by decide +kernel
theorem dX7_land_37 : decode cX7_land 37 = .ok (.imul, 1) := by decide +kernel
theorem dX7_land_38 : decode cX7_land 38 = .ok (.iload_n 3, 1) := by decide +kernel
theorem dX7_land_39 : decode cX7_land 39 = .ok (.iadd, 1) := by decide +kernel
theorem dX7_land_40 : decode cX7_land 40 = .ok (.iload 4, 2) := by decide +kernel
theorem dX7_land_42 : decode cX7_land 42 = .ok (.invokevirtual 166, 3) := by decide +kernel
theorem dX7_land_45 : decode cX7_land 45 = .ok (.istore 6, 2) := by decide +kernel
theorem dX7_land_47 : decode cX7_land 47 = .ok (.iload 6, 2) := by decide +kernel
theorem dX7_land_49 : decode cX7_land 49 = .ok (.ifCond .lt 13, 3) := by decide +kernel
theorem dX7_land_52 : decode cX7_land 52 = .ok (.aload_n 0, 1) := by decide +kernel
theorem dX7_land_53 : decode cX7_land 53 = .ok (.bipush (-100), 2) := by decide +kernel
theorem dX7_land_55 : decode cX7_land 55 = .ok (.iload 6, 2) := by decide +kernel
theorem dX7_land_57 : decode cX7_land 57 = .ok (.isub, 1) := by decide +kernel
theorem dX7_land_58 : decode cX7_land 58 = .ok (.invokevirtual 101, 3) := by decide +kernel
theorem dX7_land_61 : decode cX7_land 61 = .ok (.ireturn, 1) := by decide +kernel
theorem dX7_land_62 : decode cX7_land 62 = .ok (.aload_n 0, 1) := by decide +kernel
theorem dX7_land_63 : decode cX7_land 63 = .ok (.iconst 0, 1) := by decide +kernel
theorem dX7_land_64 : decode cX7_land 64 = .ok (.putfield 112, 3) := by decide +kernel
theorem dX7_land_67 : decode cX7_land 67 = .ok (.aload_n 0, 1) := by decide +kernel
theorem dX7_land_68 : decode cX7_land 68 = .ok (.iconst 0, 1) := by decide +kernel
theorem dX7_land_69 : decode cX7_land 69 = .ok (.putfield 115, 3) := by decide +kernel
theorem dX7_land_72 : decode cX7_land 72 = .ok (.iconst 0, 1) := by decide +kernel
theorem dX7_land_73 : decode cX7_land 73 = .ok (.istore 7, 2) := by decide +kernel
theorem dX7_land_75 : decode cX7_land 75 = .ok (.iload 7, 2) := by decide +kernel
theorem dX7_land_77 : decode cX7_land 77 = .ok (.bipush 50, 2) := by decide +kernel
theorem dX7_land_79 : decode cX7_land 79 = .ok (.if_icmp .ge 17, 3) := by decide +kernel
theorem dX7_land_82 : decode cX7_land 82 = .ok (.aload_n 0, 1) := by decide +kernel
theorem dX7_land_83 : decode cX7_land 83 = .ok (.getfield 31, 3) := by decide +kernel
theorem dX7_land_86 : decode cX7_land 86 = .ok (.iload 7, 2) := by decide +kernel
theorem dX7_land_88 : decode cX7_land 88 = .ok (.iconst 0, 1) := by decide +kernel
theorem dX7_land_89 : decode cX7_land 89 = .ok (.bastore, 1) := by decide +kernel
theorem dX7_land_90 : decode cX7_land 90 = .ok (.iinc 7 1, 3) := by decide +kernel
theorem dX7_land_93 : decode cX7_land 93 = .ok (.goto (-18), 3) := by decide +kernel
theorem dX7_land_96 : decode cX7_land 96 = .ok (.iconst 0, 1) := by decide +kernel
theorem dX7_land_97 : decode cX7_land 97 = .ok (.istore 7, 2) := by decide +kernel
theorem dX7_land_99 : decode cX7_land 99 = .ok (.iload 7, 2) := by decide +kernel
theorem dX7_land_101 : decode cX7_land 101 = .ok (.aload_n 0, 1) := by decide +kernel
theorem dX7_land_102 : decode cX7_land 102 = .ok (.getfield 144, 3) := by decide +kernel
theorem dX7_land_105 : decode cX7_land 105 = .ok (.if_icmp .ge 100, 3) := by decide +kernel
theorem dX7_land_108 : decode cX7_land 108 = .ok (.aload_n 0, 1) := by decide +kernel
theorem dX7_land_109 : decode cX7_land 109 = .ok (.getfield 35, 3) := by decide +kernel
theorem dX7_land_112 : decode cX7_land 112 = .ok (.iload 7, 2) := by decide +kernel
theorem dX7_land_114 : decode cX7_land 114 = .ok (.iaload, 1) := by decide +kernel
theorem dX7_land_115 : decode cX7_land 115 = .ok (.iconst 3, 1) := by decide +kernel
theorem dX7_land_116 : decode cX7_land 116 = .ok (.if_icmp .ne 41, 3) := by decide +kernel
theorem dX7_land_119 : decode cX7_land 119 = .ok (.aload_n 0, 1) := by decide +kernel
theorem dX7_land_120 : decode cX7_land 120 = .ok (.aload_n 0, 1) := by decide +kernel
theorem dX7_land_121 : decode cX7_land 121 = .ok (.getfield 38, 3) := by decide +kernel
theorem dX7_land_124 : decode cX7_land 124 = .ok (.iconst 3, 1) := by decide +kernel
theorem dX7_land_125 : decode cX7_land 125 = .ok (.iload 7, 2) := by decide +kernel
theorem dX7_land_127 : decode cX7_land 127 = .ok (.imul, 1) := by decide +kernel
theorem dX7_land_128 : decode cX7_land 128 = .ok (.iaload, 1) := by decide +kernel
theorem dX7_land_129 : decode cX7_land 129 = .ok (.aload_n 0, 1) := by decide +kernel
theorem dX7_land_130 : decode cX7_land 130 = .ok (.getfield 38, 3) := by decide +kernel
theorem dX7_land_133 : decode cX7_land 133 = .ok (.iconst 3, 1) := by decide +kernel
theorem dX7_land_134 : decode cX7_land 134 = .ok (.iload 7, 2) := by decide +kernel
theorem dX7_land_136 : decode cX7_land 136 = .ok (.imul, 1) := by decide +kernel
theorem dX7_land_137 : decode cX7_land 137 = .ok (.iconst 1, 1) := by decide +kernel
theorem dX7_land_138 : decode cX7_land 138 = .ok (.iadd, 1) := by decide +kernel
theorem dX7_land_139 : decode cX7_land 139 = .ok (.iaload, 1) := by decide +kernel
theorem dX7_land_140 : decode cX7_land 140 = .ok (.aload_n 0, 1) := by decide +kernel
theorem dX7_land_141 : decode cX7_land 141 = .ok (.getfield 38, 3) := by decide +kernel
theorem dX7_land_144 : decode cX7_land 144 = .ok (.iconst 3, 1) := by decide +kernel
theorem dX7_land_145 : decode cX7_land 145 = .ok (.iload 7, 2) := by decide +kernel
theorem dX7_land_147 : decode cX7_land 147 = .ok (.imul, 1) := by decide +kernel
theorem dX7_land_148 : decode cX7_land 148 = .ok (.iconst 2, 1) := by decide +kernel
theorem dX7_land_149 : decode cX7_land 149 = .ok (.iadd, 1) := by decide +kernel
theorem dX7_land_150 : decode cX7_land 150 = .ok (.iaload, 1) := by decide +kernel
theorem dX7_land_151 : decode cX7_land 151 = .ok (.invokevirtual 124, 3) := by decide +kernel
theorem dX7_land_154 : decode cX7_land 154 = .ok (.goto 45, 3) := by decide +kernel
theorem dX7_land_157 : decode cX7_land 157 = .ok (.aload_n 0, 1) := by decide +kernel
theorem dX7_land_158 : decode cX7_land 158 = .ok (.aload_n 0, 1) := by decide +kernel
theorem dX7_land_159 : decode cX7_land 159 = .ok (.getfield 35, 3) := by decide +kernel
theorem dX7_land_162 : decode cX7_land 162 = .ok (.iload 7, 2) := by decide +kernel
theorem dX7_land_164 : decode cX7_land 164 = .ok (.iaload, 1) := by decide +kernel
theorem dX7_land_165 : decode cX7_land 165 = .ok (.aload_n 0, 1) := by decide +kernel
theorem dX7_land_166 : decode cX7_land 166 = .ok (.getfield 38, 3) := by decide +kernel
theorem dX7_land_169 : decode cX7_land 169 = .ok (.iconst 3, 1) := by decide +kernel
theorem dX7_land_170 : decode cX7_land 170 = .ok (.iload 7, 2) := by decide +kernel
theorem dX7_land_172 : decode cX7_land 172 = .ok (.imul, 1) := by decide +kernel
theorem dX7_land_173 : decode cX7_land 173 = .ok (.iaload, 1) := by decide +kernel
theorem dX7_land_174 : decode cX7_land 174 = .ok (.aload_n 0, 1) := by decide +kernel
theorem dX7_land_175 : decode cX7_land 175 = .ok (.getfield 38, 3) := by decide +kernel
theorem dX7_land_178 : decode cX7_land 178 = .ok (.iconst 3, 1) := by decide +kernel
theorem dX7_land_179 : decode cX7_land 179 = .ok (.iload 7, 2) := by decide +kernel
theorem dX7_land_181 : decode cX7_land 181 = .ok (.imul, 1) := by decide +kernel
theorem dX7_land_182 : decode cX7_land 182 = .ok (.iconst 1, 1) := by decide +kernel
theorem dX7_land_183 : decode cX7_land 183 = .ok (.iadd, 1) := by decide +kernel
theorem dX7_land_184 : decode cX7_land 184 = .ok (.iaload, 1) := by decide +kernel
theorem dX7_land_185 : decode cX7_land 185 = .ok (.aload_n 0, 1) := by decide +kernel
theorem dX7_land_186 : decode cX7_land 186 = .ok (.getfield 38, 3) := by decide +kernel
theorem dX7_land_189 : decode cX7_land 189 = .ok (.iconst 3, 1) := by decide +kernel
theorem dX7_land_190 : decode cX7_land 190 = .ok (.iload 7, 2) := by decide +kernel
theorem dX7_land_192 : decode cX7_land 192 = .ok (.imul, 1) := by decide +kernel
theorem dX7_land_193 : decode cX7_land 193 = .ok (.iconst 2, 1) := by decide +kernel
theorem dX7_land_194 : decode cX7_land 194 = .ok (.iadd, 1) := by decide +kernel
theorem dX7_land_195 : decode cX7_land 195 = .ok (.iaload, 1) := by decide +kernel
theorem dX7_land_196 : decode cX7_land 196 = .ok (.invokevirtual 130, 3) := by decide +kernel
theorem dX7_land_199 : decode cX7_land 199 = .ok (.iinc 7 1, 3) := by decide +kernel
theorem dX7_land_202 : decode cX7_land 202 = .ok (.goto (-103), 3) := by decide +kernel
theorem dX7_land_205 : decode cX7_land 205 = .ok (.aload_n 0, 1) := by decide +kernel
theorem dX7_land_206 : decode cX7_land 206 = .ok (.aload_n 0, 1) := by decide +kernel
theorem dX7_land_207 : decode cX7_land 207 = .ok (.getfield 144, 3) := by decide +kernel
theorem dX7_land_210 : decode cX7_land 210 = .ok (.invokevirtual 101, 3) := by decide +kernel
theorem dX7_land_213 : decode cX7_land 213 = .ok (.ireturn, 1) := by decide +kernel
theorem dX7_ofHome_0 : decode cX7_ofHome 0 = .ok (.aload_n 0, 1) := by decide +kernel
theorem dX7_ofHome_1 : decode cX7_ofHome 1 = .ok (.iload_n 1, 1) := by decide +kernel
theorem dX7_ofHome_2 : decode cX7_ofHome 2 = .ok (.invokevirtual 170, 3) := by decide +kernel
theorem dX7_ofHome_5 : decode cX7_ofHome 5 = .ok (.ifCond .eq 5, 3) := by decide +kernel
theorem dX7_ofHome_8 : decode cX7_ofHome 8 = .ok (.iconst (-1), 1) := by decide +kernel
theorem dX7_ofHome_9 : decode cX7_ofHome 9 = .ok (.ireturn, 1) := by decide +kernel
theorem dX7_ofHome_10 : decode cX7_ofHome 10 = .ok (.iload_n 2, 1) := by decide +kernel
theorem dX7_ofHome_11 : decode cX7_ofHome 11 = .ok (.ifCond .ne 12, 3) := by decide +kernel
theorem dX7_ofHome_14 : decode cX7_ofHome 14 = .ok (.aload_n 0, 1) := by decide +kernel
theorem dX7_ofHome_15 : decode cX7_ofHome 15 = .ok (.getfield 7, 3) := by decide +kernel
theorem dX7_ofHome_18 : decode cX7_ofHome 18 = .ok (.iload_n 1, 1) := by decide +kernel
theorem dX7_ofHome_19 : decode cX7_ofHome 19 = .ok (.iaload, 1) := by decide +kernel
theorem dX7_ofHome_20 : decode cX7_ofHome 20 = .ok (.goto 33, 3) := by decide +kernel
theorem dX7_ofHome_23 : decode cX7_ofHome 23 = .ok (.iload_n 2, 1) := by decide +kernel
theorem dX7_ofHome_24 : decode cX7_ofHome 24 = .ok (.iconst 1, 1) := by decide +kernel
theorem dX7_ofHome_25 : decode cX7_ofHome 25 = .ok (.if_icmp .ne 12, 3) := by decide +kernel
theorem dX7_ofHome_28 : decode cX7_ofHome 28 = .ok (.aload_n 0, 1) := by decide +kernel
theorem dX7_ofHome_29 : decode cX7_ofHome 29 = .ok (.getfield 13, 3) := by decide +kernel
theorem dX7_ofHome_32 : decode cX7_ofHome 32 = .ok (.iload_n 1, 1) := by decide +kernel
theorem dX7_ofHome_33 : decode cX7_ofHome 33 = .ok (.iaload, 1) := by decide +kernel
theorem dX7_ofHome_34 : decode cX7_ofHome 34 = .ok (.goto 19, 3) := by decide +kernel
theorem dX7_ofHome_37 : decode cX7_ofHome 37 = .ok (.iload_n 2, 1) := by decide +kernel
theorem dX7_ofHome_38 : decode cX7_ofHome 38 = .ok (.iconst 2, 1) := by decide +kernel
theorem dX7_ofHome_39 : decode cX7_ofHome 39 = .ok (.if_icmp .ne 12, 3) := by decide +kernel
theorem dX7_ofHome_42 : decode cX7_ofHome 42 = .ok (.aload_n 0, 1) := by decide +kernel
theorem dX7_ofHome_43 : decode cX7_ofHome 43 = .ok (.getfield 16, 3) := by decide +kernel
theorem dX7_ofHome_46 : decode cX7_ofHome 46 = .ok (.iload_n 1, 1) := by decide +kernel
theorem dX7_ofHome_47 : decode cX7_ofHome 47 = .ok (.iaload, 1) := by decide +kernel
theorem dX7_ofHome_48 : decode cX7_ofHome 48 = .ok (.goto 5, 3) := by decide +kernel
theorem dX7_ofHome_51 : decode cX7_ofHome 51 = .ok (.bipush (-2), 2) := by decide +kernel
theorem dX7_ofHome_53 : decode cX7_ofHome 53 = .ok (.ireturn, 1) := by decide +kernel
theorem dX7_ofChurch_0 : decode cX7_ofChurch 0 = .ok (.aload_n 0, 1) := by decide +kernel
theorem dX7_ofChurch_1 : decode cX7_ofChurch 1 = .ok (.iload_n 1, 1) := by decide +kernel
theorem dX7_ofChurch_2 : decode cX7_ofChurch 2 = .ok (.invokevirtual 173, 3) := by decide +kernel
theorem dX7_ofChurch_5 : decode cX7_ofChurch 5 = .ok (.ifCond .eq 5, 3) := by decide +kernel
theorem dX7_ofChurch_8 : decode cX7_ofChurch 8 = .ok (.iconst (-1), 1) := by decide +kernel
theorem dX7_ofChurch_9 : decode cX7_ofChurch 9 = .ok (.ireturn, 1) := by decide +kernel
theorem dX7_ofChurch_10 : decode cX7_ofChurch 10 = .ok (.iload_n 2, 1) := by decide +kernel
theorem dX7_ofChurch_11 : decode cX7_ofChurch 11 = .ok (.ifCond .ne 12, 3) := by decide +kernel
theorem dX7_ofChurch_14 : decode cX7_ofChurch 14 = .ok (.aload_n 0, 1) := by decide +kernel
theorem dX7_ofChurch_15 : decode cX7_ofChurch 15 = .ok (.getfield 19, 3) := by decide +kernel
theorem dX7_ofChurch_18 : decode cX7_ofChurch 18 = .ok (.iload_n 1, 1) := by decide +kernel
theorem dX7_ofChurch_19 : decode cX7_ofChurch 19 = .ok (.iaload, 1) := by decide +kernel
theorem dX7_ofChurch_20 : decode cX7_ofChurch 20 = .ok (.goto 47, 3) := by decide +kernel
theorem dX7_ofChurch_23 : decode cX7_ofChurch 23 = .ok (.iload_n 2, 1) := by decide +kernel
theorem dX7_ofChurch_24 : decode cX7_ofChurch 24 = .ok (.iconst 1, 1) := by decide +kernel
theorem dX7_ofChurch_25 : decode cX7_ofChurch 25 = .ok (.if_icmp .ne 12, 3) := by decide +kernel
theorem dX7_ofChurch_28 : decode cX7_ofChurch 28 = .ok (.aload_n 0, 1) := by decide +kernel
theorem dX7_ofChurch_29 : decode cX7_ofChurch 29 = .ok (.getfield 22, 3) := by decide +kernel
theorem dX7_ofChurch_32 : decode cX7_ofChurch 32 = .ok (.iload_n 1, 1) := by decide +kernel
theorem dX7_ofChurch_33 : decode cX7_ofChurch 33 = .ok (.iaload, 1) := by decide +kernel
theorem dX7_ofChurch_34 : decode cX7_ofChurch 34 = .ok (.goto 33, 3) := by decide +kernel
theorem dX7_ofChurch_37 : decode cX7_ofChurch 37 = .ok (.iload_n 2, 1) := by decide +kernel
theorem dX7_ofChurch_38 : decode cX7_ofChurch 38 = .ok (.iconst 2, 1) := by decide +kernel
theorem dX7_ofChurch_39 : decode cX7_ofChurch 39 = .ok (.if_icmp .ne 12, 3) := by decide +kernel
theorem dX7_ofChurch_42 : decode cX7_ofChurch 42 = .ok (.aload_n 0, 1) := by decide +kernel
theorem dX7_ofChurch_43 : decode cX7_ofChurch 43 = .ok (.getfield 25, 3) := by decide +kernel
theorem dX7_ofChurch_46 : decode cX7_ofChurch 46 = .ok (.iload_n 1, 1) := by decide +kernel
theorem dX7_ofChurch_47 : decode cX7_ofChurch 47 = .ok (.iaload, 1) := by decide +kernel
theorem dX7_ofChurch_48 : decode cX7_ofChurch 48 = .ok (.goto 19, 3) := by decide +kernel
theorem dX7_ofChurch_51 : decode cX7_ofChurch 51 = .ok (.iload_n 2, 1) := by decide +kernel
theorem dX7_ofChurch_52 : decode cX7_ofChurch 52 = .ok (.iconst 3, 1) := by decide +kernel
theorem dX7_ofChurch_53 : decode cX7_ofChurch 53 = .ok (.if_icmp .ne 12, 3) := by decide +kernel
theorem dX7_ofChurch_56 : decode cX7_ofChurch 56 = .ok (.aload_n 0, 1) := by decide +kernel
theorem dX7_ofChurch_57 : decode cX7_ofChurch 57 = .ok (.getfield 28, 3) := by decide +kernel
theorem dX7_ofChurch_60 : decode cX7_ofChurch 60 = .ok (.iload_n 1, 1) := by decide +kernel
theorem dX7_ofChurch_61 : decode cX7_ofChurch 61 = .ok (.iaload, 1) := by decide +kernel
theorem dX7_ofChurch_62 : decode cX7_ofChurch 62 = .ok (.goto 5, 3) := by decide +kernel
theorem dX7_ofChurch_65 : decode cX7_ofChurch 65 = .ok (.bipush (-2), 2) := by decide +kernel
theorem dX7_ofChurch_67 : decode cX7_ofChurch 67 = .ok (.ireturn, 1) := by decide +kernel
theorem dX7_bar_0 : decode cX7_bar 0 = .ok (.aload_n 0, 1) := by decide +kernel
theorem dX7_bar_1 : decode cX7_bar 1 = .ok (.iload_n 1, 1) := by decide +kernel
theorem dX7_bar_2 : decode cX7_bar 2 = .ok (.invokevirtual 170, 3) := by decide +kernel
theorem dX7_bar_5 : decode cX7_bar 5 = .ok (.ifCond .ne 11, 3) := by decide +kernel
theorem dX7_bar_8 : decode cX7_bar 8 = .ok (.aload_n 0, 1) := by decide +kernel
theorem dX7_bar_9 : decode cX7_bar 9 = .ok (.iload_n 2, 1) := by decide +kernel
theorem dX7_bar_10 : decode cX7_bar 10 = .ok (.invokevirtual 173, 3) := by decide +kernel
theorem dX7_bar_13 : decode cX7_bar 13 = .ok (.ifCond .eq 5, 3) := by decide +kernel
theorem dX7_bar_16 : decode cX7_bar 16 = .ok (.iconst (-1), 1) := by decide +kernel
theorem dX7_bar_17 : decode cX7_bar 17 = .ok (.ireturn, 1) := by decide +kernel
theorem dX7_bar_18 : decode cX7_bar 18 = .ok (.aload_n 0, 1) := by decide +kernel
theorem dX7_bar_19 : decode cX7_bar 19 = .ok (.getfield 31, 3) := by decide +kernel
theorem dX7_bar_22 : decode cX7_bar 22 = .ok (.iconst 5, 1) := by decide +kernel
theorem dX7_bar_23 : decode cX7_bar 23 = .ok (.iload_n 1, 1) := by decide +kernel
theorem dX7_bar_24 : decode cX7_bar 24 = .ok (.imul, 1) := by decide +kernel
theorem dX7_bar_25 : decode cX7_bar 25 = .ok (.iload_n 2, 1) := by decide +kernel
theorem dX7_bar_26 : decode cX7_bar 26 = .ok (.iadd, 1) := by decide +kernel
theorem dX7_bar_27 : decode cX7_bar 27 = .ok (.baload, 1) := by decide +kernel
theorem dX7_bar_28 : decode cX7_bar 28 = .ok (.istore 4, 2) := by decide +kernel
theorem dX7_bar_30 : decode cX7_bar 30 = .ok (.aload_n 0, 1) := by decide +kernel
theorem dX7_bar_31 : decode cX7_bar 31 = .ok (.getfield 31, 3) := by decide +kernel
theorem dX7_bar_34 : decode cX7_bar 34 = .ok (.iconst 5, 1) := by decide +kernel
theorem dX7_bar_35 : decode cX7_bar 35 = .ok (.iload_n 1, 1) := by decide +kernel
theorem dX7_bar_36 : decode cX7_bar 36 = .ok (.imul, 1) := by decide +kernel
theorem dX7_bar_37 : decode cX7_bar 37 = .ok (.iload_n 2, 1) := by decide +kernel
theorem dX7_bar_38 : decode cX7_bar 38 = .ok (.iadd, 1) := by decide +kernel
theorem dX7_bar_39 : decode cX7_bar 39 = .ok (.iload_n 3, 1) := by decide +kernel
theorem dX7_bar_40 : decode cX7_bar 40 = .ok (.bastore, 1) := by decide +kernel
theorem dX7_bar_41 : decode cX7_bar 41 = .ok (.iload 4, 2) := by decide +kernel
theorem dX7_bar_43 : decode cX7_bar 43 = .ok (.iload_n 3, 1) := by decide +kernel
theorem dX7_bar_44 : decode cX7_bar 44 = .ok (.if_icmp .ne 7, 3) := by decide +kernel
theorem dX7_bar_47 : decode cX7_bar 47 = .ok (.iconst 0, 1) := by decide +kernel
theorem dX7_bar_48 : decode cX7_bar 48 = .ok (.goto 4, 3) := by decide +kernel
theorem dX7_bar_51 : decode cX7_bar 51 = .ok (.iconst 1, 1) := by decide +kernel
theorem dX7_bar_52 : decode cX7_bar 52 = .ok (.ireturn, 1) := by decide +kernel
theorem dX7_seats_0 : decode cX7_seats 0 = .ok (.aload_n 0, 1) := by decide +kernel
theorem dX7_seats_1 : decode cX7_seats 1 = .ok (.iload_n 1, 1) := by decide +kernel
theorem dX7_seats_2 : decode cX7_seats 2 = .ok (.invokevirtual 173, 3) := by decide +kernel
theorem dX7_seats_5 : decode cX7_seats 5 = .ok (.ifCond .eq 5, 3) := by decide +kernel
theorem dX7_seats_8 : decode cX7_seats 8 = .ok (.iconst (-1), 1) := by decide +kernel
theorem dX7_seats_9 : decode cX7_seats 9 = .ok (.ireturn, 1) := by decide +kernel
theorem dX7_seats_10 : decode cX7_seats 10 = .ok (.iload_n 2, 1) := by decide +kernel
theorem dX7_seats_11 : decode cX7_seats 11 = .ok (.i2l, 1) := by decide +kernel
theorem dX7_seats_12 : decode cX7_seats 12 = .ok (.lconst 0, 1) := by decide +kernel
theorem dX7_seats_13 : decode cX7_seats 13 = .ok (.ldc2_w 128, 3) := by decide +kernel
theorem dX7_seats_16 : decode cX7_seats 16 = .ok (.invokestatic 88, 3) := by decide +kernel
theorem dX7_seats_19 : decode cX7_seats 19 = .ok (.ifCond .ne 6, 3) := by decide +kernel
theorem dX7_seats_22 : decode cX7_seats 22 = .ok (.bipush (-2), 2) := by decide +kernel
theorem dX7_seats_24 : decode cX7_seats 24 = .ok (.ireturn, 1) := by decide +kernel
theorem dX7_seats_25 : decode cX7_seats 25 = .ok (.aload_n 0, 1) := by decide +kernel
theorem dX7_seats_26 : decode cX7_seats 26 = .ok (.getfield 28, 3) := by decide +kernel
theorem dX7_seats_29 : decode cX7_seats 29 = .ok (.iload_n 1, 1) := by decide +kernel
theorem dX7_seats_30 : decode cX7_seats 30 = .ok (.iaload, 1) := by decide +kernel
theorem dX7_seats_31 : decode cX7_seats 31 = .ok (.istore_n 3, 1) := by decide +kernel
theorem dX7_seats_32 : decode cX7_seats 32 = .ok (.aload_n 0, 1) := by decide +kernel
theorem dX7_seats_33 : decode cX7_seats 33 = .ok (.getfield 28, 3) := by decide +kernel
theorem dX7_seats_36 : decode cX7_seats 36 = .ok (.iload_n 1, 1) := by decide +kernel
theorem dX7_seats_37 : decode cX7_seats 37 = .ok (.iload_n 2, 1) := by decide +kernel
theorem dX7_seats_38 : decode cX7_seats 38 = .ok (.iastore, 1) := by decide +kernel
theorem dX7_seats_39 : decode cX7_seats 39 = .ok (.iload_n 3, 1) := by decide +kernel
theorem dX7_seats_40 : decode cX7_seats 40 = .ok (.ireturn, 1) := by decide +kernel
theorem dX7_toll_0 : decode cX7_toll 0 = .ok (.iload_n 1, 1) := by decide +kernel
theorem dX7_toll_1 : decode cX7_toll 1 = .ok (.i2l, 1) := by decide +kernel
theorem dX7_toll_2 : decode cX7_toll 2 = .ok (.lconst 0, 1) := by decide +kernel
theorem dX7_toll_3 : decode cX7_toll 3 = .ok (.ldc2_w 176, 3) := by decide +kernel
theorem dX7_toll_6 : decode cX7_toll 6 = .ok (.invokestatic 88, 3) := by decide +kernel
theorem dX7_toll_9 : decode cX7_toll 9 = .ok (.ifCond .ne 6, 3) := by decide +kernel
theorem dX7_toll_12 : decode cX7_toll 12 = .ok (.bipush (-2), 2) := by decide +kernel
theorem dX7_toll_14 : decode cX7_toll 14 = .ok (.ireturn, 1) := by decide +kernel
theorem dX7_toll_15 : decode cX7_toll 15 = .ok (.aload_n 0, 1) := by decide +kernel
theorem dX7_toll_16 : decode cX7_toll 16 = .ok (.getfield 80, 3) := by decide +kernel
theorem dX7_toll_19 : decode cX7_toll 19 = .ok (.istore_n 2, 1) := by decide +kernel
theorem dX7_toll_20 : decode cX7_toll 20 = .ok (.aload_n 0, 1) := by decide +kernel
theorem dX7_toll_21 : decode cX7_toll 21 = .ok (.iload_n 1, 1) := by decide +kernel
theorem dX7_toll_22 : decode cX7_toll 22 = .ok (.putfield 80, 3) := by decide +kernel
theorem dX7_toll_25 : decode cX7_toll 25 = .ok (.iload_n 2, 1) := by decide +kernel
theorem dX7_toll_26 : decode cX7_toll 26 = .ok (.ireturn, 1) := by decide +kernel
theorem dX7_farOf_0 : decode cX7_farOf 0 = .ok (.iload_n 1, 1) := by decide +kernel
theorem dX7_farOf_1 : decode cX7_farOf 1 = .ok (.aload_n 0, 1) := by decide +kernel
theorem dX7_farOf_2 : decode cX7_farOf 2 = .ok (.getfield 22, 3) := by decide +kernel
theorem dX7_farOf_5 : decode cX7_farOf 5 = .ok (.iload_n 3, 1) := by decide +kernel
theorem dX7_farOf_6 : decode cX7_farOf 6 = .ok (.iaload, 1) := by decide +kernel
theorem dX7_farOf_7 : decode cX7_farOf 7 = .ok (.isub, 1) := by decide +kernel
theorem dX7_farOf_8 : decode cX7_farOf 8 = .ok (.invokestatic 178, 3) := by decide +kernel
theorem dX7_farOf_11 : decode cX7_farOf 11 = .ok (.istore 4, 2) := by decide +kernel
theorem dX7_farOf_13 : decode cX7_farOf 13 = .ok (.iload_n 2, 1) := by decide +kernel
theorem dX7_farOf_14 : decode cX7_farOf 14 = .ok (.aload_n 0, 1) := by decide +kernel
theorem dX7_farOf_15 : decode cX7_farOf 15 = .ok (.getfield 25, 3) := by decide +kernel
theorem dX7_farOf_18 : decode cX7_farOf 18 = .ok (.iload_n 3, 1) := by decide +kernel
theorem dX7_farOf_19 : decode cX7_farOf 19 = .ok (.iaload, 1) := by decide +kernel
theorem dX7_farOf_20 : decode cX7_farOf 20 = .ok (.isub, 1) := by decide +kernel
theorem dX7_farOf_21 : decode cX7_farOf 21 = .ok (.invokestatic 178, 3) := by decide +kernel
theorem dX7_farOf_24 : decode cX7_farOf 24 = .ok (.istore 5, 2) := by decide +kernel
theorem dX7_farOf_26 : decode cX7_farOf 26 = .ok (.aload_n 0, 1) := by decide +kernel
theorem dX7_farOf_27 : decode cX7_farOf 27 = .ok (.getfield 19, 3) := by decide +kernel
theorem dX7_farOf_30 : decode cX7_farOf 30 = .ok (.iload_n 3, 1) := by decide +kernel
theorem dX7_farOf_31 : decode cX7_farOf 31 = .ok (.iaload, 1) := by decide +kernel
theorem dX7_farOf_32 : decode cX7_farOf 32 = .ok (.ifCond .ne 15, 3) := by decide +kernel
theorem dX7_farOf_35 : decode cX7_farOf 35 = .ok (.iload 4, 2) := by decide +kernel
theorem dX7_farOf_37 : decode cX7_farOf 37 = .ok (.iload 4, 2) := by decide +kernel
theorem dX7_farOf_39 : decode cX7_farOf 39 = .ok (.imul, 1) := by decide +kernel
theorem dX7_farOf_40 : decode cX7_farOf 40 = .ok (.iload 5, 2) := by decide +kernel
theorem dX7_farOf_42 : decode cX7_farOf 42 = .ok (.iload 5, 2) := by decide +kernel
theorem dX7_farOf_44 : decode cX7_farOf 44 = .ok (.imul, 1) := by decide +kernel
theorem dX7_farOf_45 : decode cX7_farOf 45 = .ok (.iadd, 1) := by decide +kernel
theorem dX7_farOf_46 : decode cX7_farOf 46 = .ok (.ireturn, 1) := by decide +kernel
theorem dX7_farOf_47 : decode cX7_farOf 47 = .ok (.aload_n 0, 1) := by decide +kernel
theorem dX7_farOf_48 : decode cX7_farOf 48 = .ok (.getfield 19, 3) := by decide +kernel
theorem dX7_farOf_51 : decode cX7_farOf 51 = .ok (.iload_n 3, 1) := by decide +kernel
theorem dX7_farOf_52 : decode cX7_farOf 52 = .ok (.iaload, 1) := by decide +kernel
theorem dX7_farOf_53 : decode cX7_farOf 53 = .ok (.iconst 2, 1) := by decide +kernel
theorem dX7_farOf_54 : decode cX7_farOf 54 = .ok (.if_icmp .ne 37, 3) := by decide +kernel
theorem dX7_farOf_57 : decode cX7_farOf 57 = .ok (.iload_n 1, 1) := by decide +kernel
theorem dX7_farOf_58 : decode cX7_farOf 58 = .ok (.bipush 30, 2) := by decide +kernel
theorem dX7_farOf_60 : decode cX7_farOf 60 = .ok (.if_icmp .ge 7, 3) := by decide +kernel
theorem dX7_farOf_63 : decode cX7_farOf 63 = .ok (.iconst 1, 1) := by decide +kernel
theorem dX7_farOf_64 : decode cX7_farOf 64 = .ok (.goto 4, 3) := by decide +kernel
theorem dX7_farOf_67 : decode cX7_farOf 67 = .ok (.iconst 0, 1) := by decide +kernel
theorem dX7_farOf_68 : decode cX7_farOf 68 = .ok (.aload_n 0, 1) := by decide +kernel
theorem dX7_farOf_69 : decode cX7_farOf 69 = .ok (.getfield 22, 3) := by decide +kernel
theorem dX7_farOf_72 : decode cX7_farOf 72 = .ok (.iload_n 3, 1) := by decide +kernel
theorem dX7_farOf_73 : decode cX7_farOf 73 = .ok (.iaload, 1) := by decide +kernel
theorem dX7_farOf_74 : decode cX7_farOf 74 = .ok (.bipush 30, 2) := by decide +kernel
theorem dX7_farOf_76 : decode cX7_farOf 76 = .ok (.if_icmp .ge 7, 3) := by decide +kernel
theorem dX7_farOf_79 : decode cX7_farOf 79 = .ok (.iconst 1, 1) := by decide +kernel
theorem dX7_farOf_80 : decode cX7_farOf 80 = .ok (.goto 4, 3) := by decide +kernel
theorem dX7_farOf_83 : decode cX7_farOf 83 = .ok (.iconst 0, 1) := by decide +kernel
theorem dX7_farOf_84 : decode cX7_farOf 84 = .ok (.if_icmp .eq 7, 3) := by decide +kernel
theorem dX7_farOf_87 : decode cX7_farOf 87 = .ok (.iconst 1, 1) := by decide +kernel
theorem dX7_farOf_88 : decode cX7_farOf 88 = .ok (.goto 4, 3) := by decide +kernel
theorem dX7_farOf_91 : decode cX7_farOf 91 = .ok (.iconst 0, 1) := by decide +kernel
theorem dX7_farOf_92 : decode cX7_farOf 92 = .ok (.istore 6, 2) := by decide +kernel
theorem dX7_farOf_94 : decode cX7_farOf 94 = .ok (.bipush 10, 2) := by decide +kernel
theorem dX7_farOf_96 : decode cX7_farOf 96 = .ok (.iload 4, 2) := by decide +kernel
theorem dX7_farOf_98 : decode cX7_farOf 98 = .ok (.iload 5, 2) := by decide +kernel
theorem dX7_farOf_100 : decode cX7_farOf 100 = .ok (.iadd, 1) := by decide +kernel
theorem dX7_farOf_101 : decode cX7_farOf 101 = .ok (.imul, 1) := by decide +kernel
theorem dX7_farOf_102 : decode cX7_farOf 102 = .ok (.iload 6, 2) := by decide +kernel
theorem dX7_farOf_104 : decode cX7_farOf 104 = .ok (.ifCond .eq 10, 3) := by decide +kernel
theorem dX7_farOf_107 : decode cX7_farOf 107 = .ok (.aload_n 0, 1) := by decide +kernel
theorem dX7_farOf_108 : decode cX7_farOf 108 = .ok (.getfield 80, 3) := by decide +kernel
theorem dX7_farOf_111 : decode cX7_farOf 111 = .ok (.goto 4, 3) := by decide +kernel
theorem dX7_farOf_114 : decode cX7_farOf 114 = .ok (.iconst 0, 1) := by decide +kernel
theorem dX7_farOf_115 : decode cX7_farOf 115 = .ok (.iadd, 1) := by decide +kernel
theorem dX7_farOf_116 : decode cX7_farOf 116 = .ok (.ireturn, 1) := by decide +kernel
theorem dX7_far_0 : decode cX7_far 0 = .ok (.aload_n 0, 1) := by decide +kernel
theorem dX7_far_1 : decode cX7_far 1 = .ok (.iload_n 3, 1) := by decide +kernel
theorem dX7_far_2 : decode cX7_far 2 = .ok (.invokevirtual 173, 3) := by decide +kernel
theorem dX7_far_5 : decode cX7_far 5 = .ok (.ifCond .eq 5, 3) := by decide +kernel
theorem dX7_far_8 : decode cX7_far 8 = .ok (.iconst (-1), 1) := by decide +kernel
theorem dX7_far_9 : decode cX7_far 9 = .ok (.ireturn, 1) := by decide +kernel
theorem dX7_far_10 : decode cX7_far 10 = .ok (.iload_n 1, 1) := by decide +kernel
theorem dX7_far_11 : decode cX7_far 11 = .ok (.iload_n 2, 1) := by decide +kernel
theorem dX7_far_12 : decode cX7_far 12 = .ok (.invokestatic 118, 3) := by decide +kernel
theorem dX7_far_15 : decode cX7_far 15 = .ok (.ifCond .eq 13, 3) := by decide +kernel
theorem dX7_far_18 : decode cX7_far 18 = .ok (.aload_n 0, 1) := by decide +kernel
theorem dX7_far_19 : decode cX7_far 19 = .ok (.iload_n 1, 1) := by decide +kernel
theorem dX7_far_20 : decode cX7_far 20 = .ok (.iload_n 2, 1) := by decide +kernel
theorem dX7_far_21 : decode cX7_far 21 = .ok (.iload_n 3, 1) := by decide +kernel
theorem dX7_far_22 : decode cX7_far 22 = .ok (.invokevirtual 181, 3) := by decide +kernel
theorem dX7_far_25 : decode cX7_far 25 = .ok (.goto 5, 3) := by decide +kernel
theorem dX7_far_28 : decode cX7_far 28 = .ok (.bipush (-2), 2) := by decide +kernel
theorem dX7_far_30 : decode cX7_far 30 = .ok (.ireturn, 1) := by decide +kernel
theorem dX7_layCosts_0 : decode cX7_layCosts 0 = .ok (.iconst 0, 1) := by decide +kernel
theorem dX7_layCosts_1 : decode cX7_layCosts 1 = .ok (.istore_n 2, 1) := by decide +kernel
theorem dX7_layCosts_2 : decode cX7_layCosts 2 = .ok (.iload_n 2, 1) := by decide +kernel
theorem dX7_layCosts_3 : decode cX7_layCosts 3 = .ok (.aload_n 0, 1) := by decide +kernel
theorem dX7_layCosts_4 : decode cX7_layCosts 4 = .ok (.getfield 115, 3) := by decide +kernel
theorem dX7_layCosts_7 : decode cX7_layCosts 7 = .ok (.if_icmp .ge 92, 3) := by decide +kernel
theorem dX7_layCosts_10 : decode cX7_layCosts 10 = .ok (.aload_n 0, 1) := by decide +kernel
theorem dX7_layCosts_11 : decode cX7_layCosts 11 = .ok (.getfield 41, 3) := by decide +kernel
theorem dX7_layCosts_14 : decode cX7_layCosts 14 = .ok (.iload_n 2, 1) := by decide +kernel
theorem dX7_layCosts_15 : decode cX7_layCosts 15 = .ok (.aload_n 0, 1) := by decide +kernel
theorem dX7_layCosts_16 : decode cX7_layCosts 16 = .ok (.getfield 28, 3) := by decide +kernel
theorem dX7_layCosts_19 : decode cX7_layCosts 19 = .ok (.iload_n 2, 1) := by decide +kernel
theorem dX7_layCosts_20 : decode cX7_layCosts 20 = .ok (.iaload, 1) := by decide +kernel
theorem dX7_layCosts_21 : decode cX7_layCosts 21 = .ok (.iastore, 1) := by decide +kernel
theorem dX7_layCosts_22 : decode cX7_layCosts 22 = .ok (.iconst 0, 1) := by decide +kernel
theorem dX7_layCosts_23 : decode cX7_layCosts 23 = .ok (.istore_n 3, 1) := by decide +kernel
theorem dX7_layCosts_24 : decode cX7_layCosts 24 = .ok (.iload_n 3, 1) := by decide +kernel
theorem dX7_layCosts_25 : decode cX7_layCosts 25 = .ok (.aload_n 0, 1) := by decide +kernel
theorem dX7_layCosts_26 : decode cX7_layCosts 26 = .ok (.getfield 112, 3) := by decide +kernel
theorem dX7_layCosts_29 : decode cX7_layCosts 29 = .ok (.if_icmp .ge 64, 3) := by decide +kernel
theorem dX7_layCosts_32 : decode cX7_layCosts 32 = .ok (.aload_n 0, 1) := by decide +kernel
theorem dX7_layCosts_33 : decode cX7_layCosts 33 = .ok (.aload_n 0, 1) := by decide +kernel
theorem dX7_layCosts_34 : decode cX7_layCosts 34 = .ok (.getfield 7, 3) := by decide +kernel
theorem dX7_layCosts_37 : decode cX7_layCosts 37 = .ok (.iload_n 3, 1) := by decide +kernel
theorem dX7_layCosts_38 : decode cX7_layCosts 38 = .ok (.iaload, 1) := by decide +kernel
theorem dX7_layCosts_39 : decode cX7_layCosts 39 = .ok (.aload_n 0, 1) := by decide +kernel
theorem dX7_layCosts_40 : decode cX7_layCosts 40 = .ok (.getfield 13, 3) := by decide +kernel
theorem dX7_layCosts_43 : decode cX7_layCosts 43 = .ok (.iload_n 3, 1) := by decide +kernel
theorem dX7_layCosts_44 : decode cX7_layCosts 44 = .ok (.iaload, 1) := by decide +kernel
theorem dX7_layCosts_45 : decode cX7_layCosts 45 = .ok (.iload_n 2, 1) := by decide +kernel
theorem dX7_layCosts_46 : decode cX7_layCosts 46 = .ok (.invokevirtual 181, 3) := by decide +kernel
theorem dX7_layCosts_49 : decode cX7_layCosts 49 = .ok (.istore 4, 2) := by decide +kernel
theorem dX7_layCosts_51 : decode cX7_layCosts 51 = .ok (.aload_n 0, 1) := by decide +kernel
theorem dX7_layCosts_52 : decode cX7_layCosts 52 = .ok (.getfield 44, 3) := by decide +kernel
theorem dX7_layCosts_55 : decode cX7_layCosts 55 = .ok (.iconst 5, 1) := by decide +kernel
theorem dX7_layCosts_56 : decode cX7_layCosts 56 = .ok (.iload_n 3, 1) := by decide +kernel
theorem dX7_layCosts_57 : decode cX7_layCosts 57 = .ok (.imul, 1) := by decide +kernel
theorem dX7_layCosts_58 : decode cX7_layCosts 58 = .ok (.iload_n 2, 1) := by decide +kernel
theorem dX7_layCosts_59 : decode cX7_layCosts 59 = .ok (.iadd, 1) := by decide +kernel
theorem dX7_layCosts_60 : decode cX7_layCosts 60 = .ok (.aload_n 0, 1) := by decide +kernel
theorem dX7_layCosts_61 : decode cX7_layCosts 61 = .ok (.getfield 31, 3) := by decide +kernel
theorem dX7_layCosts_64 : decode cX7_layCosts 64 = .ok (.iconst 5, 1) := by decide +kernel
theorem dX7_layCosts_65 : decode cX7_layCosts 65 = .ok (.iload_n 3, 1) := by decide +kernel
theorem dX7_layCosts_66 : decode cX7_layCosts 66 = .ok (.imul, 1) := by decide +kernel
theorem dX7_layCosts_67 : decode cX7_layCosts 67 = .ok (.iload_n 2, 1) := by decide +kernel
theorem dX7_layCosts_68 : decode cX7_layCosts 68 = .ok (.iadd, 1) := by decide +kernel
theorem dX7_layCosts_69 : decode cX7_layCosts 69 = .ok (.baload, 1) := by decide +kernel
theorem dX7_layCosts_70 : decode cX7_layCosts 70 = .ok (.ifCond .ne 9, 3) := by decide +kernel
theorem dX7_layCosts_73 : decode cX7_layCosts 73 = .ok (.iload 4, 2) := by decide +kernel
theorem dX7_layCosts_75 : decode cX7_layCosts 75 = .ok (.iload_n 1, 1) := by decide +kernel
theorem dX7_layCosts_76 : decode cX7_layCosts 76 = .ok (.if_icmp .le 8, 3) := by decide +kernel
theorem dX7_layCosts_79 : decode cX7_layCosts 79 = .ok (.ldc 185, 2) := by decide +kernel
theorem dX7_layCosts_81 : decode cX7_layCosts 81 = .ok (.goto 5, 3) := by decide +kernel
theorem dX7_layCosts_84 : decode cX7_layCosts 84 = .ok (.iload 4, 2) := by decide +kernel
theorem dX7_layCosts_86 : decode cX7_layCosts 86 = .ok (.iastore, 1) := by decide +kernel
theorem dX7_layCosts_87 : decode cX7_layCosts 87 = .ok (.iinc 3 1, 3) := by decide +kernel
theorem dX7_layCosts_90 : decode cX7_layCosts 90 = .ok (.goto (-66), 3) := by decide +kernel
theorem dX7_layCosts_93 : decode cX7_layCosts 93 = .ok (.iinc 2 1, 3) := by decide +kernel
theorem dX7_layCosts_96 : decode cX7_layCosts 96 = .ok (.goto (-94), 3) := by decide +kernel
theorem dX7_layCosts_99 : decode cX7_layCosts 99 = .ok (.return_, 1) := by decide +kernel
theorem dX7_takenIn_0 : decode cX7_takenIn 0 = .ok (.iconst 0, 1) := by decide +kernel
theorem dX7_takenIn_1 : decode cX7_takenIn 1 = .ok (.istore_n 2, 1) := by decide +kernel
theorem dX7_takenIn_2 : decode cX7_takenIn 2 = .ok (.iconst 0, 1) := by decide +kernel
theorem dX7_takenIn_3 : decode cX7_takenIn 3 = .ok (.istore_n 3, 1) := by decide +kernel
theorem dX7_takenIn_4 : decode cX7_takenIn 4 = .ok (.iload_n 3, 1) := by decide +kernel
theorem dX7_takenIn_5 : decode cX7_takenIn 5 = .ok (.aload_n 0, 1) := by decide +kernel
theorem dX7_takenIn_6 : decode cX7_takenIn 6 = .ok (.getfield 112, 3) := by decide +kernel
theorem dX7_takenIn_9 : decode cX7_takenIn 9 = .ok (.if_icmp .ge 22, 3) := by decide +kernel
theorem dX7_takenIn_12 : decode cX7_takenIn 12 = .ok (.iload_n 2, 1) := by decide +kernel
theorem dX7_takenIn_13 : decode cX7_takenIn 13 = .ok (.aload_n 0, 1) := by decide +kernel
theorem dX7_takenIn_14 : decode cX7_takenIn 14 = .ok (.getfield 47, 3) := by decide +kernel
theorem dX7_takenIn_17 : decode cX7_takenIn 17 = .ok (.iconst 5, 1) := by decide +kernel
theorem dX7_takenIn_18 : decode cX7_takenIn 18 = .ok (.iload_n 3, 1) := by decide +kernel
theorem dX7_takenIn_19 : decode cX7_takenIn 19 = .ok (.imul, 1) := by decide +kernel
theorem dX7_takenIn_20 : decode cX7_takenIn 20 = .ok (.iload_n 1, 1) := by decide +kernel
theorem dX7_takenIn_21 : decode cX7_takenIn 21 = .ok (.iadd, 1) := by decide +kernel
theorem dX7_takenIn_22 : decode cX7_takenIn 22 = .ok (.iaload, 1) := by decide +kernel
theorem dX7_takenIn_23 : decode cX7_takenIn 23 = .ok (.iadd, 1) := by decide +kernel
theorem dX7_takenIn_24 : decode cX7_takenIn 24 = .ok (.istore_n 2, 1) := by decide +kernel
theorem dX7_takenIn_25 : decode cX7_takenIn 25 = .ok (.iinc 3 1, 3) := by decide +kernel
theorem dX7_takenIn_28 : decode cX7_takenIn 28 = .ok (.goto (-24), 3) := by decide +kernel
theorem dX7_takenIn_31 : decode cX7_takenIn 31 = .ok (.iload_n 2, 1) := by decide +kernel
theorem dX7_takenIn_32 : decode cX7_takenIn 32 = .ok (.ireturn, 1) := by decide +kernel
theorem dX7_moverOf_0 : decode cX7_moverOf 0 = .ok (.bipush (-9), 2) := by decide +kernel
theorem dX7_moverOf_2 : decode cX7_moverOf 2 = .ok (.istore_n 3, 1) := by decide +kernel
theorem dX7_moverOf_3 : decode cX7_moverOf 3 = .ok (.ldc 185, 2) := by decide +kernel
theorem dX7_moverOf_5 : decode cX7_moverOf 5 = .ok (.istore 4, 2) := by decide +kernel
theorem dX7_moverOf_7 : decode cX7_moverOf 7 = .ok (.iconst 0, 1) := by decide +kernel
theorem dX7_moverOf_8 : decode cX7_moverOf 8 = .ok (.istore 5, 2) := by decide +kernel
theorem dX7_moverOf_10 : decode cX7_moverOf 10 = .ok (.iload 5, 2) := by decide +kernel
theorem dX7_moverOf_12 : decode cX7_moverOf 12 = .ok (.aload_n 0, 1) := by decide +kernel
theorem dX7_moverOf_13 : decode cX7_moverOf 13 = .ok (.getfield 112, 3) := by decide +kernel
theorem dX7_moverOf_16 : decode cX7_moverOf 16 = .ok (.if_icmp .ge 94, 3) := by decide +kernel
theorem dX7_moverOf_19 : decode cX7_moverOf 19 = .ok (.aload_n 0, 1) := by decide +kernel
theorem dX7_moverOf_20 : decode cX7_moverOf 20 = .ok (.getfield 47, 3) := by decide +kernel
theorem dX7_moverOf_23 : decode cX7_moverOf 23 = .ok (.iconst 5, 1) := by decide +kernel
theorem dX7_moverOf_24 : decode cX7_moverOf 24 = .ok (.iload 5, 2) := by decide +kernel
theorem dX7_moverOf_26 : decode cX7_moverOf 26 = .ok (.imul, 1) := by decide +kernel
theorem dX7_moverOf_27 : decode cX7_moverOf 27 = .ok (.iload_n 1, 1) := by decide +kernel
theorem dX7_moverOf_28 : decode cX7_moverOf 28 = .ok (.iadd, 1) := by decide +kernel
theorem dX7_moverOf_29 : decode cX7_moverOf 29 = .ok (.iaload, 1) := by decide +kernel
theorem dX7_moverOf_30 : decode cX7_moverOf 30 = .ok (.ifCond .le 74, 3) := by decide +kernel
theorem dX7_moverOf_33 : decode cX7_moverOf 33 = .ok (.aload_n 0, 1) := by decide +kernel
theorem dX7_moverOf_34 : decode cX7_moverOf 34 = .ok (.getfield 44, 3) := by decide +kernel
theorem dX7_moverOf_37 : decode cX7_moverOf 37 = .ok (.iconst 5, 1) := by decide +kernel
theorem dX7_moverOf_38 : decode cX7_moverOf 38 = .ok (.iload 5, 2) := by decide +kernel
theorem dX7_moverOf_40 : decode cX7_moverOf 40 = .ok (.imul, 1) := by decide +kernel
theorem dX7_moverOf_41 : decode cX7_moverOf 41 = .ok (.iload_n 2, 1) := by decide +kernel
theorem dX7_moverOf_42 : decode cX7_moverOf 42 = .ok (.iadd, 1) := by decide +kernel
theorem dX7_moverOf_43 : decode cX7_moverOf 43 = .ok (.iaload, 1) := by decide +kernel
theorem dX7_moverOf_44 : decode cX7_moverOf 44 = .ok (.ldc 185, 2) := by decide +kernel
theorem dX7_moverOf_46 : decode cX7_moverOf 46 = .ok (.if_icmp .ge 58, 3) := by decide +kernel
theorem dX7_moverOf_49 : decode cX7_moverOf 49 = .ok (.aload_n 0, 1) := by decide +kernel
theorem dX7_moverOf_50 : decode cX7_moverOf 50 = .ok (.getfield 44, 3) := by decide +kernel
theorem dX7_moverOf_53 : decode cX7_moverOf 53 = .ok (.iconst 5, 1) := by decide +kernel
theorem dX7_moverOf_54 : decode cX7_moverOf 54 = .ok (.iload 5, 2) := by decide +kernel
theorem dX7_moverOf_56 : decode cX7_moverOf 56 = .ok (.imul, 1) := by decide +kernel
theorem dX7_moverOf_57 : decode cX7_moverOf 57 = .ok (.iload_n 2, 1) := by decide +kernel
theorem dX7_moverOf_58 : decode cX7_moverOf 58 = .ok (.iadd, 1) := by decide +kernel
theorem dX7_moverOf_59 : decode cX7_moverOf 59 = .ok (.iaload, 1) := by decide +kernel
theorem dX7_moverOf_60 : decode cX7_moverOf 60 = .ok (.aload_n 0, 1) := by decide +kernel
theorem dX7_moverOf_61 : decode cX7_moverOf 61 = .ok (.getfield 44, 3) := by decide +kernel
theorem dX7_moverOf_64 : decode cX7_moverOf 64 = .ok (.iconst 5, 1) := by decide +kernel
theorem dX7_moverOf_65 : decode cX7_moverOf 65 = .ok (.iload 5, 2) := by decide +kernel
theorem dX7_moverOf_67 : decode cX7_moverOf 67 = .ok (.imul, 1) := by decide +kernel
theorem dX7_moverOf_68 : decode cX7_moverOf 68 = .ok (.iload_n 1, 1) := by decide +kernel
theorem dX7_moverOf_69 : decode cX7_moverOf 69 = .ok (.iadd, 1) := by decide +kernel
theorem dX7_moverOf_70 : decode cX7_moverOf 70 = .ok (.iaload, 1) := by decide +kernel
theorem dX7_moverOf_71 : decode cX7_moverOf 71 = .ok (.isub, 1) := by decide +kernel
theorem dX7_moverOf_72 : decode cX7_moverOf 72 = .ok (.istore 6, 2) := by decide +kernel
theorem dX7_moverOf_74 : decode cX7_moverOf 74 = .ok (.iload 6, 2) := by decide +kernel
theorem dX7_moverOf_76 : decode cX7_moverOf 76 = .ok (.iload 4, 2) := by decide +kernel
theorem dX7_moverOf_78 : decode cX7_moverOf 78 = .ok (.if_icmp .ge 8, 3) := by decide +kernel
theorem dX7_moverOf_81 : decode cX7_moverOf 81 = .ok (.iload 5, 2) := by decide +kernel
theorem dX7_moverOf_83 : decode cX7_moverOf 83 = .ok (.goto 4, 3) := by decide +kernel
theorem dX7_moverOf_86 : decode cX7_moverOf 86 = .ok (.iload_n 3, 1) := by decide +kernel
theorem dX7_moverOf_87 : decode cX7_moverOf 87 = .ok (.istore_n 3, 1) := by decide +kernel
theorem dX7_moverOf_88 : decode cX7_moverOf 88 = .ok (.iload 6, 2) := by decide +kernel
theorem dX7_moverOf_90 : decode cX7_moverOf 90 = .ok (.iload 4, 2) := by decide +kernel
theorem dX7_moverOf_92 : decode cX7_moverOf 92 = .ok (.if_icmp .ge 8, 3) := by decide +kernel
theorem dX7_moverOf_95 : decode cX7_moverOf 95 = .ok (.iload 6, 2) := by decide +kernel
theorem dX7_moverOf_97 : decode cX7_moverOf 97 = .ok (.goto 5, 3) := by decide +kernel
theorem dX7_moverOf_100 : decode cX7_moverOf 100 = .ok (.iload 4, 2) := by decide +kernel
theorem dX7_moverOf_102 : decode cX7_moverOf 102 = .ok (.istore 4, 2) := by decide +kernel
theorem dX7_moverOf_104 : decode cX7_moverOf 104 = .ok (.iinc 5 1, 3) := by decide +kernel
theorem dX7_moverOf_107 : decode cX7_moverOf 107 = .ok (.goto (-97), 3) := by decide +kernel
theorem dX7_moverOf_110 : decode cX7_moverOf 110 = .ok (.iload_n 3, 1) := by decide +kernel
theorem dX7_moverOf_111 : decode cX7_moverOf 111 = .ok (.ireturn, 1) := by decide +kernel
theorem dX7_layDear_0 : decode cX7_layDear 0 = .ok (.iconst 0, 1) := by decide +kernel
theorem dX7_layDear_1 : decode cX7_layDear 1 = .ok (.istore_n 2, 1) := by decide +kernel
theorem dX7_layDear_2 : decode cX7_layDear 2 = .ok (.iload_n 2, 1) := by decide +kernel
theorem dX7_layDear_3 : decode cX7_layDear 3 = .ok (.aload_n 0, 1) := by decide +kernel
theorem dX7_layDear_4 : decode cX7_layDear 4 = .ok (.getfield 115, 3) := by decide +kernel
theorem dX7_layDear_7 : decode cX7_layDear 7 = .ok (.if_icmp .ge 33, 3) := by decide +kernel
theorem dX7_layDear_10 : decode cX7_layDear 10 = .ok (.aload_n 0, 1) := by decide +kernel
theorem dX7_layDear_11 : decode cX7_layDear 11 = .ok (.getfield 50, 3) := by decide +kernel
theorem dX7_layDear_14 : decode cX7_layDear 14 = .ok (.iload_n 2, 1) := by decide +kernel
theorem dX7_layDear_15 : decode cX7_layDear 15 = .ok (.aload_n 0, 1) := by decide +kernel
theorem dX7_layDear_16 : decode cX7_layDear 16 = .ok (.getfield 44, 3) := by decide +kernel
theorem dX7_layDear_19 : decode cX7_layDear 19 = .ok (.iconst 5, 1) := by decide +kernel
theorem dX7_layDear_20 : decode cX7_layDear 20 = .ok (.iload_n 1, 1) := by decide +kernel
theorem dX7_layDear_21 : decode cX7_layDear 21 = .ok (.imul, 1) := by decide +kernel
theorem dX7_layDear_22 : decode cX7_layDear 22 = .ok (.iload_n 2, 1) := by decide +kernel
theorem dX7_layDear_23 : decode cX7_layDear 23 = .ok (.iadd, 1) := by decide +kernel
theorem dX7_layDear_24 : decode cX7_layDear 24 = .ok (.iaload, 1) := by decide +kernel
theorem dX7_layDear_25 : decode cX7_layDear 25 = .ok (.iastore, 1) := by decide +kernel
theorem dX7_layDear_26 : decode cX7_layDear 26 = .ok (.aload_n 0, 1) := by decide +kernel
theorem dX7_layDear_27 : decode cX7_layDear 27 = .ok (.getfield 53, 3) := by decide +kernel
theorem dX7_layDear_30 : decode cX7_layDear 30 = .ok (.iload_n 2, 1) := by decide +kernel
theorem dX7_layDear_31 : decode cX7_layDear 31 = .ok (.bipush (-9), 2) := by decide +kernel
theorem dX7_layDear_33 : decode cX7_layDear 33 = .ok (.iastore, 1) := by decide +kernel
theorem dX7_layDear_34 : decode cX7_layDear 34 = .ok (.iinc 2 1, 3) := by decide +kernel
theorem dX7_layDear_37 : decode cX7_layDear 37 = .ok (.goto (-35), 3) := by decide +kernel
theorem dX7_layDear_40 : decode cX7_layDear 40 = .ok (.iconst 1, 1) := by decide +kernel
theorem dX7_layDear_41 : decode cX7_layDear 41 = .ok (.istore_n 2, 1) := by decide +kernel
theorem dX7_layDear_42 : decode cX7_layDear 42 = .ok (.iload_n 2, 1) := by decide +kernel
theorem dX7_layDear_43 : decode cX7_layDear 43 = .ok (.ifCond .eq 156, 3) := by decide +kernel
theorem dX7_layDear_46 : decode cX7_layDear 46 = .ok (.iconst 0, 1) := by decide +kernel
theorem dX7_layDear_47 : decode cX7_layDear 47 = .ok (.istore_n 2, 1) := by decide +kernel
theorem dX7_layDear_48 : decode cX7_layDear 48 = .ok (.iconst 0, 1) := by decide +kernel
theorem dX7_layDear_49 : decode cX7_layDear 49 = .ok (.istore_n 3, 1) := by decide +kernel
theorem dX7_layDear_50 : decode cX7_layDear 50 = .ok (.iload_n 3, 1) := by decide +kernel
theorem dX7_layDear_51 : decode cX7_layDear 51 = .ok (.aload_n 0, 1) := by decide +kernel
theorem dX7_layDear_52 : decode cX7_layDear 52 = .ok (.getfield 115, 3) := by decide +kernel
theorem dX7_layDear_55 : decode cX7_layDear 55 = .ok (.if_icmp .ge 141, 3) := by decide +kernel
theorem dX7_layDear_58 : decode cX7_layDear 58 = .ok (.iconst 0, 1) := by decide +kernel
theorem dX7_layDear_59 : decode cX7_layDear 59 = .ok (.istore 4, 2) := by decide +kernel
theorem dX7_layDear_61 : decode cX7_layDear 61 = .ok (.iload 4, 2) := by decide +kernel
theorem dX7_layDear_63 : decode cX7_layDear 63 = .ok (.aload_n 0, 1) := by decide +kernel
theorem dX7_layDear_64 : decode cX7_layDear 64 = .ok (.getfield 115, 3) := by decide +kernel
theorem dX7_layDear_67 : decode cX7_layDear 67 = .ok (.if_icmp .ge 123, 3) := by decide +kernel
theorem dX7_layDear_70 : decode cX7_layDear 70 = .ok (.aload_n 0, 1) := by decide +kernel
theorem dX7_layDear_71 : decode cX7_layDear 71 = .ok (.getfield 50, 3) := by decide +kernel
theorem dX7_layDear_74 : decode cX7_layDear 74 = .ok (.iload_n 3, 1) := by decide +kernel
theorem dX7_layDear_75 : decode cX7_layDear 75 = .ok (.iaload, 1) := by decide +kernel
theorem dX7_layDear_76 : decode cX7_layDear 76 = .ok (.ldc 185, 2) := by decide +kernel
theorem dX7_layDear_78 : decode cX7_layDear 78 = .ok (.if_icmp .ge 112, 3) := by decide +kernel
theorem dX7_layDear_81 : decode cX7_layDear 81 = .ok (.iload 4, 2) := by decide +kernel
theorem dX7_layDear_83 : decode cX7_layDear 83 = .ok (.iload_n 3, 1) := by decide +kernel
theorem dX7_layDear_84 : decode cX7_layDear 84 = .ok (.if_icmp .ne 8, 3) := by decide +kernel
theorem dX7_layDear_87 : decode cX7_layDear 87 = .ok (.bipush (-9), 2) := by decide +kernel
theorem dX7_layDear_89 : decode cX7_layDear 89 = .ok (.goto 10, 3) := by decide +kernel
theorem dX7_layDear_92 : decode cX7_layDear 92 = .ok (.aload_n 0, 1) := by decide +kernel
theorem dX7_layDear_93 : decode cX7_layDear 93 = .ok (.iload_n 3, 1) := by decide +kernel
theorem dX7_layDear_94 : decode cX7_layDear 94 = .ok (.iload 4, 2) := by decide +kernel
theorem dX7_layDear_96 : decode cX7_layDear 96 = .ok (.invokevirtual 186, 3) := by decide +kernel
theorem dX7_layDear_99 : decode cX7_layDear 99 = .ok (.istore 5, 2) := by decide +kernel
theorem dX7_layDear_101 : decode cX7_layDear 101 = .ok (.iload 5, 2) := by decide +kernel
theorem dX7_layDear_103 : decode cX7_layDear 103 = .ok (.ifCond .ge 8, 3) := by decide +kernel
theorem dX7_layDear_106 : decode cX7_layDear 106 = .ok (.ldc 185, 2) := by decide +kernel
theorem dX7_layDear_108 : decode cX7_layDear 108 = .ok (.goto 34, 3) := by decide +kernel
theorem dX7_layDear_111 : decode cX7_layDear 111 = .ok (.aload_n 0, 1) := by decide +kernel
theorem dX7_layDear_112 : decode cX7_layDear 112 = .ok (.getfield 50, 3) := by decide +kernel
theorem dX7_layDear_115 : decode cX7_layDear 115 = .ok (.iload_n 3, 1) := by decide +kernel
theorem dX7_layDear_116 : decode cX7_layDear 116 = .ok (.iaload, 1) := by decide +kernel
theorem dX7_layDear_117 : decode cX7_layDear 117 = .ok (.aload_n 0, 1) := by decide +kernel
theorem dX7_layDear_118 : decode cX7_layDear 118 = .ok (.getfield 44, 3) := by decide +kernel
theorem dX7_layDear_121 : decode cX7_layDear 121 = .ok (.iconst 5, 1) := by decide +kernel
theorem dX7_layDear_122 : decode cX7_layDear 122 = .ok (.iload 5, 2) := by decide +kernel
theorem dX7_layDear_124 : decode cX7_layDear 124 = .ok (.imul, 1) := by decide +kernel
theorem dX7_layDear_125 : decode cX7_layDear 125 = .ok (.iload 4, 2) := by decide +kernel
theorem dX7_layDear_127 : decode cX7_layDear 127 = .ok (.iadd, 1) := by decide +kernel
theorem dX7_layDear_128 : decode cX7_layDear 128 = .ok (.iaload, 1) := by decide +kernel
theorem dX7_layDear_129 : decode cX7_layDear 129 = .ok (.iadd, 1) := by decide +kernel
theorem dX7_layDear_130 : decode cX7_layDear 130 = .ok (.aload_n 0, 1) := by decide +kernel
theorem dX7_layDear_131 : decode cX7_layDear 131 = .ok (.getfield 44, 3) := by decide +kernel
theorem dX7_layDear_134 : decode cX7_layDear 134 = .ok (.iconst 5, 1) := by decide +kernel
theorem dX7_layDear_135 : decode cX7_layDear 135 = .ok (.iload 5, 2) := by decide +kernel
theorem dX7_layDear_137 : decode cX7_layDear 137 = .ok (.imul, 1) := by decide +kernel
theorem dX7_layDear_138 : decode cX7_layDear 138 = .ok (.iload_n 3, 1) := by decide +kernel
theorem dX7_layDear_139 : decode cX7_layDear 139 = .ok (.iadd, 1) := by decide +kernel
theorem dX7_layDear_140 : decode cX7_layDear 140 = .ok (.iaload, 1) := by decide +kernel
theorem dX7_layDear_141 : decode cX7_layDear 141 = .ok (.isub, 1) := by decide +kernel
theorem dX7_layDear_142 : decode cX7_layDear 142 = .ok (.istore 6, 2) := by decide +kernel
theorem dX7_layDear_144 : decode cX7_layDear 144 = .ok (.iload 6, 2) := by decide +kernel
theorem dX7_layDear_146 : decode cX7_layDear 146 = .ok (.aload_n 0, 1) := by decide +kernel
theorem dX7_layDear_147 : decode cX7_layDear 147 = .ok (.getfield 50, 3) := by decide +kernel
theorem dX7_layDear_150 : decode cX7_layDear 150 = .ok (.iload 4, 2) := by decide +kernel
theorem dX7_layDear_152 : decode cX7_layDear 152 = .ok (.iaload, 1) := by decide +kernel
theorem dX7_layDear_153 : decode cX7_layDear 153 = .ok (.if_icmp .ge 31, 3) := by decide +kernel
theorem dX7_layDear_156 : decode cX7_layDear 156 = .ok (.aload_n 0, 1) := by decide +kernel
theorem dX7_layDear_157 : decode cX7_layDear 157 = .ok (.getfield 50, 3) := by decide +kernel
theorem dX7_layDear_160 : decode cX7_layDear 160 = .ok (.iload 4, 2) := by decide +kernel
theorem dX7_layDear_162 : decode cX7_layDear 162 = .ok (.iload 6, 2) := by decide +kernel
theorem dX7_layDear_164 : decode cX7_layDear 164 = .ok (.iastore, 1) := by decide +kernel
theorem dX7_layDear_165 : decode cX7_layDear 165 = .ok (.aload_n 0, 1) := by decide +kernel
theorem dX7_layDear_166 : decode cX7_layDear 166 = .ok (.getfield 53, 3) := by decide +kernel
theorem dX7_layDear_169 : decode cX7_layDear 169 = .ok (.iload 4, 2) := by decide +kernel
theorem dX7_layDear_171 : decode cX7_layDear 171 = .ok (.iload_n 3, 1) := by decide +kernel
theorem dX7_layDear_172 : decode cX7_layDear 172 = .ok (.iastore, 1) := by decide +kernel
theorem dX7_layDear_173 : decode cX7_layDear 173 = .ok (.aload_n 0, 1) := by decide +kernel
theorem dX7_layDear_174 : decode cX7_layDear 174 = .ok (.getfield 56, 3) := by decide +kernel
theorem dX7_layDear_177 : decode cX7_layDear 177 = .ok (.iload 4, 2) := by decide +kernel
theorem dX7_layDear_179 : decode cX7_layDear 179 = .ok (.iload 5, 2) := by decide +kernel
theorem dX7_layDear_181 : decode cX7_layDear 181 = .ok (.iastore, 1) := by decide +kernel
theorem dX7_layDear_182 : decode cX7_layDear 182 = .ok (.iconst 1, 1) := by decide +kernel
theorem dX7_layDear_183 : decode cX7_layDear 183 = .ok (.istore_n 2, 1) := by decide +kernel
theorem dX7_layDear_184 : decode cX7_layDear 184 = .ok (.iinc 4 1, 3) := by decide +kernel
theorem dX7_layDear_187 : decode cX7_layDear 187 = .ok (.goto (-126), 3) := by decide +kernel
theorem dX7_layDear_190 : decode cX7_layDear 190 = .ok (.iinc 3 1, 3) := by decide +kernel
theorem dX7_layDear_193 : decode cX7_layDear 193 = .ok (.goto (-143), 3) := by decide +kernel
theorem dX7_layDear_196 : decode cX7_layDear 196 = .ok (.goto (-154), 3) := by decide +kernel
theorem dX7_layDear_199 : decode cX7_layDear 199 = .ok (.return_, 1) := by decide +kernel
theorem dX7_seatOne_0 : decode cX7_seatOne 0 = .ok (.aload_n 0, 1) := by decide +kernel
theorem dX7_seatOne_1 : decode cX7_seatOne 1 = .ok (.iload_n 1, 1) := by decide +kernel
theorem dX7_seatOne_2 : decode cX7_seatOne 2 = .ok (.invokevirtual 189, 3) := by decide +kernel
theorem dX7_seatOne_5 : decode cX7_seatOne 5 = .ok (.bipush (-9), 2) := by decide +kernel
theorem dX7_seatOne_7 : decode cX7_seatOne 7 = .ok (.istore_n 2, 1) := by decide +kernel
theorem dX7_seatOne_8 : decode cX7_seatOne 8 = .ok (.iconst 0, 1) := by decide +kernel
theorem dX7_seatOne_9 : decode cX7_seatOne 9 = .ok (.istore_n 3, 1) := by decide +kernel
theorem dX7_seatOne_10 : decode cX7_seatOne 10 = .ok (.iload_n 3, 1) := by decide +kernel
theorem dX7_seatOne_11 : decode cX7_seatOne 11 = .ok (.aload_n 0, 1) := by decide +kernel
theorem dX7_seatOne_12 : decode cX7_seatOne 12 = .ok (.getfield 115, 3) := by decide +kernel
theorem dX7_seatOne_15 : decode cX7_seatOne 15 = .ok (.if_icmp .ge 71, 3) := by decide +kernel
theorem dX7_seatOne_18 : decode cX7_seatOne 18 = .ok (.aload_n 0, 1) := by decide +kernel
theorem dX7_seatOne_19 : decode cX7_seatOne 19 = .ok (.getfield 50, 3) := by decide +kernel
theorem dX7_seatOne_22 : decode cX7_seatOne 22 = .ok (.iload_n 3, 1) := by decide +kernel
theorem dX7_seatOne_23 : decode cX7_seatOne 23 = .ok (.iaload, 1) := by decide +kernel
theorem dX7_seatOne_24 : decode cX7_seatOne 24 = .ok (.ldc 185, 2) := by decide +kernel
theorem dX7_seatOne_26 : decode cX7_seatOne 26 = .ok (.if_icmp .ge 21, 3) := by decide +kernel
theorem dX7_seatOne_29 : decode cX7_seatOne 29 = .ok (.aload_n 0, 1) := by decide +kernel
theorem dX7_seatOne_30 : decode cX7_seatOne 30 = .ok (.iload_n 3, 1) := by decide +kernel
theorem dX7_seatOne_31 : decode cX7_seatOne 31 = .ok (.invokevirtual 193, 3) := by decide +kernel
theorem dX7_seatOne_34 : decode cX7_seatOne 34 = .ok (.aload_n 0, 1) := by decide +kernel
theorem dX7_seatOne_35 : decode cX7_seatOne 35 = .ok (.getfield 41, 3) := by decide +kernel
theorem dX7_seatOne_38 : decode cX7_seatOne 38 = .ok (.iload_n 3, 1) := by decide +kernel
theorem dX7_seatOne_39 : decode cX7_seatOne 39 = .ok (.iaload, 1) := by decide +kernel
theorem dX7_seatOne_40 : decode cX7_seatOne 40 = .ok (.if_icmp .ge 7, 3) := by decide +kernel
theorem dX7_seatOne_43 : decode cX7_seatOne 43 = .ok (.iconst 1, 1) := by decide +kernel
theorem dX7_seatOne_44 : decode cX7_seatOne 44 = .ok (.goto 4, 3) := by decide +kernel
theorem dX7_seatOne_47 : decode cX7_seatOne 47 = .ok (.iconst 0, 1) := by decide +kernel
theorem dX7_seatOne_48 : decode cX7_seatOne 48 = .ok (.istore 4, 2) := by decide +kernel
theorem dX7_seatOne_50 : decode cX7_seatOne 50 = .ok (.iload 4, 2) := by decide +kernel
theorem dX7_seatOne_52 : decode cX7_seatOne 52 = .ok (.ifCond .eq 26, 3) := by decide +kernel
theorem dX7_seatOne_55 : decode cX7_seatOne 55 = .ok (.iload_n 2, 1) := by decide +kernel
theorem dX7_seatOne_56 : decode cX7_seatOne 56 = .ok (.ifCond .lt 18, 3) := by decide +kernel
theorem dX7_seatOne_59 : decode cX7_seatOne 59 = .ok (.aload_n 0, 1) := by decide +kernel
theorem dX7_seatOne_60 : decode cX7_seatOne 60 = .ok (.getfield 50, 3) := by decide +kernel
theorem dX7_seatOne_63 : decode cX7_seatOne 63 = .ok (.iload_n 3, 1) := by decide +kernel
theorem dX7_seatOne_64 : decode cX7_seatOne 64 = .ok (.iaload, 1) := by decide +kernel
theorem dX7_seatOne_65 : decode cX7_seatOne 65 = .ok (.aload_n 0, 1) := by decide +kernel
theorem dX7_seatOne_66 : decode cX7_seatOne 66 = .ok (.getfield 50, 3) := by decide +kernel
theorem dX7_seatOne_69 : decode cX7_seatOne 69 = .ok (.iload_n 2, 1) := by decide +kernel
theorem dX7_seatOne_70 : decode cX7_seatOne 70 = .ok (.iaload, 1) := by decide +kernel
theorem dX7_seatOne_71 : decode cX7_seatOne 71 = .ok (.if_icmp .ge 7, 3) := by decide +kernel
theorem dX7_seatOne_74 : decode cX7_seatOne 74 = .ok (.iload_n 3, 1) := by decide +kernel
theorem dX7_seatOne_75 : decode cX7_seatOne 75 = .ok (.goto 4, 3) := by decide +kernel
theorem dX7_seatOne_78 : decode cX7_seatOne 78 = .ok (.iload_n 2, 1) := by decide +kernel
theorem dX7_seatOne_79 : decode cX7_seatOne 79 = .ok (.istore_n 2, 1) := by decide +kernel
theorem dX7_seatOne_80 : decode cX7_seatOne 80 = .ok (.iinc 3 1, 3) := by decide +kernel
theorem dX7_seatOne_83 : decode cX7_seatOne 83 = .ok (.goto (-73), 3) := by decide +kernel
theorem dX7_seatOne_86 : decode cX7_seatOne 86 = .ok (.iload_n 2, 1) := by decide +kernel
theorem dX7_seatOne_87 : decode cX7_seatOne 87 = .ok (.ifCond .ge 6, 3) := by decide +kernel
theorem dX7_seatOne_90 : decode cX7_seatOne 90 = .ok (.ldc 185, 2) := by decide +kernel
theorem dX7_seatOne_92 : decode cX7_seatOne 92 = .ok (.ireturn, 1) := by decide +kernel
theorem dX7_seatOne_93 : decode cX7_seatOne 93 = .ok (.aload_n 0, 1) := by decide +kernel
theorem dX7_seatOne_94 : decode cX7_seatOne 94 = .ok (.getfield 50, 3) := by decide +kernel
theorem dX7_seatOne_97 : decode cX7_seatOne 97 = .ok (.iload_n 2, 1) := by decide +kernel
theorem dX7_seatOne_98 : decode cX7_seatOne 98 = .ok (.iaload, 1) := by decide +kernel
theorem dX7_seatOne_99 : decode cX7_seatOne 99 = .ok (.istore_n 3, 1) := by decide +kernel
theorem dX7_seatOne_100 : decode cX7_seatOne 100 = .ok (.iload_n 2, 1) := by decide +kernel
theorem dX7_seatOne_101 : decode cX7_seatOne 101 = .ok (.istore 4, 2) := by decide +kernel
theorem dX7_seatOne_103 : decode cX7_seatOne 103 = .ok (.aload_n 0, 1) := by decide +kernel
theorem dX7_seatOne_104 : decode cX7_seatOne 104 = .ok (.getfield 53, 3) := by decide +kernel
theorem dX7_seatOne_107 : decode cX7_seatOne 107 = .ok (.iload 4, 2) := by decide +kernel
theorem dX7_seatOne_109 : decode cX7_seatOne 109 = .ok (.iaload, 1) := by decide +kernel
theorem dX7_seatOne_110 : decode cX7_seatOne 110 = .ok (.ifCond .lt 62, 3) := by decide +kernel
theorem dX7_seatOne_113 : decode cX7_seatOne 113 = .ok (.aload_n 0, 1) := by decide +kernel
theorem dX7_seatOne_114 : decode cX7_seatOne 114 = .ok (.getfield 47, 3) := by decide +kernel
theorem dX7_seatOne_117 : decode cX7_seatOne 117 = .ok (.iconst 5, 1) := by decide +kernel
theorem dX7_seatOne_118 : decode cX7_seatOne 118 = .ok (.aload_n 0, 1) := by decide +kernel
theorem dX7_seatOne_119 : decode cX7_seatOne 119 = .ok (.getfield 56, 3) := by decide +kernel
theorem dX7_seatOne_122 : decode cX7_seatOne 122 = .ok (.iload 4, 2) := by decide +kernel
theorem dX7_seatOne_124 : decode cX7_seatOne 124 = .ok (.iaload, 1) := by decide +kernel
theorem dX7_seatOne_125 : decode cX7_seatOne 125 = .ok (.imul, 1) := by decide +kernel
theorem dX7_seatOne_126 : decode cX7_seatOne 126 = .ok (.iload 4, 2) := by decide +kernel
theorem dX7_seatOne_128 : decode cX7_seatOne 128 = .ok (.iadd, 1) := by decide +kernel
theorem dX7_seatOne_129 : decode cX7_seatOne 129 = .ok (.dup2, 1) := by decide +kernel
theorem dX7_seatOne_130 : decode cX7_seatOne 130 = .ok (.iaload, 1) := by decide +kernel
theorem dX7_seatOne_131 : decode cX7_seatOne 131 = .ok (.iconst 1, 1) := by decide +kernel
theorem dX7_seatOne_132 : decode cX7_seatOne 132 = .ok (.iadd, 1) := by decide +kernel
theorem dX7_seatOne_133 : decode cX7_seatOne 133 = .ok (.iastore, 1) := by decide +kernel
theorem dX7_seatOne_134 : decode cX7_seatOne 134 = .ok (.aload_n 0, 1) := by decide +kernel
theorem dX7_seatOne_135 : decode cX7_seatOne 135 = .ok (.getfield 47, 3) := by decide +kernel
theorem dX7_seatOne_138 : decode cX7_seatOne 138 = .ok (.iconst 5, 1) := by decide +kernel
theorem dX7_seatOne_139 : decode cX7_seatOne 139 = .ok (.aload_n 0, 1) := by decide +kernel
theorem dX7_seatOne_140 : decode cX7_seatOne 140 = .ok (.getfield 56, 3) := by decide +kernel
theorem dX7_seatOne_143 : decode cX7_seatOne 143 = .ok (.iload 4, 2) := by decide +kernel
theorem dX7_seatOne_145 : decode cX7_seatOne 145 = .ok (.iaload, 1) := by decide +kernel
theorem dX7_seatOne_146 : decode cX7_seatOne 146 = .ok (.imul, 1) := by decide +kernel
theorem dX7_seatOne_147 : decode cX7_seatOne 147 = .ok (.aload_n 0, 1) := by decide +kernel
theorem dX7_seatOne_148 : decode cX7_seatOne 148 = .ok (.getfield 53, 3) := by decide +kernel
theorem dX7_seatOne_151 : decode cX7_seatOne 151 = .ok (.iload 4, 2) := by decide +kernel
theorem dX7_seatOne_153 : decode cX7_seatOne 153 = .ok (.iaload, 1) := by decide +kernel
theorem dX7_seatOne_154 : decode cX7_seatOne 154 = .ok (.iadd, 1) := by decide +kernel
theorem dX7_seatOne_155 : decode cX7_seatOne 155 = .ok (.dup2, 1) := by decide +kernel
theorem dX7_seatOne_156 : decode cX7_seatOne 156 = .ok (.iaload, 1) := by decide +kernel
theorem dX7_seatOne_157 : decode cX7_seatOne 157 = .ok (.iconst 1, 1) := by decide +kernel
theorem dX7_seatOne_158 : decode cX7_seatOne 158 = .ok (.isub, 1) := by decide +kernel
theorem dX7_seatOne_159 : decode cX7_seatOne 159 = .ok (.iastore, 1) := by decide +kernel
theorem dX7_seatOne_160 : decode cX7_seatOne 160 = .ok (.aload_n 0, 1) := by decide +kernel
theorem dX7_seatOne_161 : decode cX7_seatOne 161 = .ok (.getfield 53, 3) := by decide +kernel
theorem dX7_seatOne_164 : decode cX7_seatOne 164 = .ok (.iload 4, 2) := by decide +kernel
theorem dX7_seatOne_166 : decode cX7_seatOne 166 = .ok (.iaload, 1) := by decide +kernel
theorem dX7_seatOne_167 : decode cX7_seatOne 167 = .ok (.istore 4, 2) := by decide +kernel
theorem dX7_seatOne_169 : decode cX7_seatOne 169 = .ok (.goto (-66), 3) := by decide +kernel
theorem dX7_seatOne_172 : decode cX7_seatOne 172 = .ok (.aload_n 0, 1) := by decide +kernel
theorem dX7_seatOne_173 : decode cX7_seatOne 173 = .ok (.getfield 47, 3) := by decide +kernel
theorem dX7_seatOne_176 : decode cX7_seatOne 176 = .ok (.iconst 5, 1) := by decide +kernel
theorem dX7_seatOne_177 : decode cX7_seatOne 177 = .ok (.iload_n 1, 1) := by decide +kernel
theorem dX7_seatOne_178 : decode cX7_seatOne 178 = .ok (.imul, 1) := by decide +kernel
theorem dX7_seatOne_179 : decode cX7_seatOne 179 = .ok (.iload 4, 2) := by decide +kernel
theorem dX7_seatOne_181 : decode cX7_seatOne 181 = .ok (.iadd, 1) := by decide +kernel
theorem dX7_seatOne_182 : decode cX7_seatOne 182 = .ok (.dup2, 1) := by decide +kernel
theorem dX7_seatOne_183 : decode cX7_seatOne 183 = .ok (.iaload, 1) := by decide +kernel
theorem dX7_seatOne_184 : decode cX7_seatOne 184 = .ok (.iconst 1, 1) := by decide +kernel
theorem dX7_seatOne_185 : decode cX7_seatOne 185 = .ok (.iadd, 1) := by decide +kernel
theorem dX7_seatOne_186 : decode cX7_seatOne 186 = .ok (.iastore, 1) := by decide +kernel
theorem dX7_seatOne_187 : decode cX7_seatOne 187 = .ok (.iload_n 3, 1) := by decide +kernel
theorem dX7_seatOne_188 : decode cX7_seatOne 188 = .ok (.ireturn, 1) := by decide +kernel
theorem dX7_leastMiles_0 : decode cX7_leastMiles 0 = .ok (.iconst 0, 1) := by decide +kernel
theorem dX7_leastMiles_1 : decode cX7_leastMiles 1 = .ok (.istore_n 1, 1) := by decide +kernel
theorem dX7_leastMiles_2 : decode cX7_leastMiles 2 = .ok (.iload_n 1, 1) := by decide +kernel
theorem dX7_leastMiles_3 : decode cX7_leastMiles 3 = .ok (.bipush 50, 2) := by decide +kernel
theorem dX7_leastMiles_5 : decode cX7_leastMiles 5 = .ok (.if_icmp .ge 16, 3) := by decide +kernel
theorem dX7_leastMiles_8 : decode cX7_leastMiles 8 = .ok (.aload_n 0, 1) := by decide +kernel
theorem dX7_leastMiles_9 : decode cX7_leastMiles 9 = .ok (.getfield 47, 3) := by decide +kernel
theorem dX7_leastMiles_12 : decode cX7_leastMiles 12 = .ok (.iload_n 1, 1) := by decide +kernel
theorem dX7_leastMiles_13 : decode cX7_leastMiles 13 = .ok (.iconst 0, 1) := by decide +kernel
theorem dX7_leastMiles_14 : decode cX7_leastMiles 14 = .ok (.iastore, 1) := by decide +kernel
theorem dX7_leastMiles_15 : decode cX7_leastMiles 15 = .ok (.iinc 1 1, 3) := by decide +kernel
theorem dX7_leastMiles_18 : decode cX7_leastMiles 18 = .ok (.goto (-16), 3) := by decide +kernel
theorem dX7_leastMiles_21 : decode cX7_leastMiles 21 = .ok (.iconst 0, 1) := by decide +kernel
theorem dX7_leastMiles_22 : decode cX7_leastMiles 22 = .ok (.istore_n 1, 1) := by decide +kernel
theorem dX7_leastMiles_23 : decode cX7_leastMiles 23 = .ok (.iconst 0, 1) := by decide +kernel
theorem dX7_leastMiles_24 : decode cX7_leastMiles 24 = .ok (.istore_n 2, 1) := by decide +kernel
theorem dX7_leastMiles_25 : decode cX7_leastMiles 25 = .ok (.iload_n 2, 1) := by decide +kernel
theorem dX7_leastMiles_26 : decode cX7_leastMiles 26 = .ok (.aload_n 0, 1) := by decide +kernel
theorem dX7_leastMiles_27 : decode cX7_leastMiles 27 = .ok (.getfield 112, 3) := by decide +kernel
theorem dX7_leastMiles_30 : decode cX7_leastMiles 30 = .ok (.if_icmp .ge 49, 3) := by decide +kernel
theorem dX7_leastMiles_33 : decode cX7_leastMiles 33 = .ok (.iconst 0, 1) := by decide +kernel
theorem dX7_leastMiles_34 : decode cX7_leastMiles 34 = .ok (.istore_n 3, 1) := by decide +kernel
theorem dX7_leastMiles_35 : decode cX7_leastMiles 35 = .ok (.iload_n 3, 1) := by decide +kernel
theorem dX7_leastMiles_36 : decode cX7_leastMiles 36 = .ok (.aload_n 0, 1) := by decide +kernel
theorem dX7_leastMiles_37 : decode cX7_leastMiles 37 = .ok (.getfield 16, 3) := by decide +kernel
theorem dX7_leastMiles_40 : decode cX7_leastMiles 40 = .ok (.iload_n 2, 1) := by decide +kernel
theorem dX7_leastMiles_41 : decode cX7_leastMiles 41 = .ok (.iaload, 1) := by decide +kernel
theorem dX7_leastMiles_42 : decode cX7_leastMiles 42 = .ok (.if_icmp .ge 31, 3) := by decide +kernel
theorem dX7_leastMiles_45 : decode cX7_leastMiles 45 = .ok (.aload_n 0, 1) := by decide +kernel
theorem dX7_leastMiles_46 : decode cX7_leastMiles 46 = .ok (.iload_n 2, 1) := by decide +kernel
theorem dX7_leastMiles_47 : decode cX7_leastMiles 47 = .ok (.invokevirtual 196, 3) := by decide +kernel
theorem dX7_leastMiles_50 : decode cX7_leastMiles 50 = .ok (.istore 4, 2) := by decide +kernel
theorem dX7_leastMiles_52 : decode cX7_leastMiles 52 = .ok (.iload 4, 2) := by decide +kernel
theorem dX7_leastMiles_54 : decode cX7_leastMiles 54 = .ok (.ldc 185, 2) := by decide +kernel
theorem dX7_leastMiles_56 : decode cX7_leastMiles 56 = .ok (.if_icmp .ne 6, 3) := by decide +kernel
theorem dX7_leastMiles_59 : decode cX7_leastMiles 59 = .ok (.bipush (-9), 2) := by decide +kernel
theorem dX7_leastMiles_61 : decode cX7_leastMiles 61 = .ok (.ireturn, 1) := by decide +kernel
theorem dX7_leastMiles_62 : decode cX7_leastMiles 62 = .ok (.iload_n 1, 1) := by decide +kernel
theorem dX7_leastMiles_63 : decode cX7_leastMiles 63 = .ok (.iload 4, 2) := by decide +kernel
theorem dX7_leastMiles_65 : decode cX7_leastMiles 65 = .ok (.iadd, 1) := by decide +kernel
theorem dX7_leastMiles_66 : decode cX7_leastMiles 66 = .ok (.istore_n 1, 1) := by decide +kernel
theorem dX7_leastMiles_67 : decode cX7_leastMiles 67 = .ok (.iinc 3 1, 3) := by decide +kernel
theorem dX7_leastMiles_70 : decode cX7_leastMiles 70 = .ok (.goto (-35), 3) := by decide +kernel
theorem dX7_leastMiles_73 : decode cX7_leastMiles 73 = .ok (.iinc 2 1, 3) := by decide +kernel
theorem dX7_leastMiles_76 : decode cX7_leastMiles 76 = .ok (.goto (-51), 3) := by decide +kernel
theorem dX7_leastMiles_79 : decode cX7_leastMiles 79 = .ok (.iload_n 1, 1) := by decide +kernel
theorem dX7_leastMiles_80 : decode cX7_leastMiles 80 = .ok (.ireturn, 1) := by decide +kernel
theorem dX7_milesNow_0 : decode cX7_milesNow 0 = .ok (.aload_n 0, 1) := by decide +kernel
theorem dX7_milesNow_1 : decode cX7_milesNow 1 = .ok (.ldc 199, 2) := by decide +kernel
theorem dX7_milesNow_3 : decode cX7_milesNow 3 = .ok (.invokevirtual 200, 3) := by decide +kernel
theorem dX7_milesNow_6 : decode cX7_milesNow 6 = .ok (.aload_n 0, 1) := by decide +kernel
theorem dX7_milesNow_7 : decode cX7_milesNow 7 = .ok (.invokevirtual 203, 3) := by decide +kernel
theorem dX7_milesNow_10 : decode cX7_milesNow 10 = .ok (.ireturn, 1) := by decide +kernel
theorem dX7_miles_0 : decode cX7_miles 0 = .ok (.aload_n 0, 1) := by decide +kernel
theorem dX7_miles_1 : decode cX7_miles 1 = .ok (.invokevirtual 207, 3) := by decide +kernel
theorem dX7_miles_4 : decode cX7_miles 4 = .ok (.ireturn, 1) := by decide +kernel
theorem dX7_few_0 : decode cX7_few 0 = .ok (.iconst 1, 1) := by decide +kernel
theorem dX7_few_1 : decode cX7_few 1 = .ok (.istore_n 1, 1) := by decide +kernel
theorem dX7_few_2 : decode cX7_few 2 = .ok (.iload_n 1, 1) := by decide +kernel
theorem dX7_few_3 : decode cX7_few 3 = .ok (.iconst 1, 1) := by decide +kernel
theorem dX7_few_4 : decode cX7_few 4 = .ok (.aload_n 0, 1) := by decide +kernel
theorem dX7_few_5 : decode cX7_few 5 = .ok (.getfield 112, 3) := by decide +kernel
theorem dX7_few_8 : decode cX7_few 8 = .ok (.ishl, 1) := by decide +kernel
theorem dX7_few_9 : decode cX7_few 9 = .ok (.if_icmp .ge 155, 3) := by decide +kernel
theorem dX7_few_12 : decode cX7_few 12 = .ok (.iconst 0, 1) := by decide +kernel
theorem dX7_few_13 : decode cX7_few 13 = .ok (.istore_n 2, 1) := by decide +kernel
theorem dX7_few_14 : decode cX7_few 14 = .ok (.iconst 0, 1) := by decide +kernel
theorem dX7_few_15 : decode cX7_few 15 = .ok (.istore_n 3, 1) := by decide +kernel
theorem dX7_few_16 : decode cX7_few 16 = .ok (.iconst 0, 1) := by decide +kernel
theorem dX7_few_17 : decode cX7_few 17 = .ok (.istore 4, 2) := by decide +kernel
theorem dX7_few_19 : decode cX7_few 19 = .ok (.iload 4, 2) := by decide +kernel
theorem dX7_few_21 : decode cX7_few 21 = .ok (.aload_n 0, 1) := by decide +kernel
theorem dX7_few_22 : decode cX7_few 22 = .ok (.getfield 112, 3) := by decide +kernel
theorem dX7_few_25 : decode cX7_few 25 = .ok (.if_icmp .ge 32, 3) := by decide +kernel
theorem dX7_few_28 : decode cX7_few 28 = .ok (.iload_n 2, 1) := by decide +kernel
theorem dX7_few_29 : decode cX7_few 29 = .ok (.iload_n 1, 1) := by decide +kernel
theorem dX7_few_30 : decode cX7_few 30 = .ok (.iload 4, 2) := by decide +kernel
theorem dX7_few_32 : decode cX7_few 32 = .ok (.invokestatic 210, 3) := by decide +kernel
theorem dX7_few_35 : decode cX7_few 35 = .ok (.ifCond .eq 13, 3) := by decide +kernel
theorem dX7_few_38 : decode cX7_few 38 = .ok (.aload_n 0, 1) := by decide +kernel
theorem dX7_few_39 : decode cX7_few 39 = .ok (.getfield 16, 3) := by decide +kernel
theorem dX7_few_42 : decode cX7_few 42 = .ok (.iload 4, 2) := by decide +kernel
theorem dX7_few_44 : decode cX7_few 44 = .ok (.iaload, 1) := by decide +kernel
theorem dX7_few_45 : decode cX7_few 45 = .ok (.goto 4, 3) := by decide +kernel
theorem dX7_few_48 : decode cX7_few 48 = .ok (.iconst 0, 1) := by decide +kernel
theorem dX7_few_49 : decode cX7_few 49 = .ok (.iadd, 1) := by decide +kernel
theorem dX7_few_50 : decode cX7_few 50 = .ok (.istore_n 2, 1) := by decide +kernel
theorem dX7_few_51 : decode cX7_few 51 = .ok (.iinc 4 1, 3) := by decide +kernel
theorem dX7_few_54 : decode cX7_few 54 = .ok (.goto (-35), 3) := by decide +kernel
theorem dX7_few_57 : decode cX7_few 57 = .ok (.iconst 0, 1) := by decide +kernel
theorem dX7_few_58 : decode cX7_few 58 = .ok (.istore 4, 2) := by decide +kernel
theorem dX7_few_60 : decode cX7_few 60 = .ok (.iload 4, 2) := by decide +kernel
theorem dX7_few_62 : decode cX7_few 62 = .ok (.aload_n 0, 1) := by decide +kernel
theorem dX7_few_63 : decode cX7_few 63 = .ok (.getfield 115, 3) := by decide +kernel
theorem dX7_few_66 : decode cX7_few 66 = .ok (.if_icmp .ge 85, 3) := by decide +kernel
theorem dX7_few_69 : decode cX7_few 69 = .ok (.iconst 0, 1) := by decide +kernel
theorem dX7_few_70 : decode cX7_few 70 = .ok (.istore 5, 2) := by decide +kernel
theorem dX7_few_72 : decode cX7_few 72 = .ok (.iconst 0, 1) := by decide +kernel
theorem dX7_few_73 : decode cX7_few 73 = .ok (.istore 6, 2) := by decide +kernel
theorem dX7_few_75 : decode cX7_few 75 = .ok (.iload 6, 2) := by decide +kernel
theorem dX7_few_77 : decode cX7_few 77 = .ok (.aload_n 0, 1) := by decide +kernel
theorem dX7_few_78 : decode cX7_few 78 = .ok (.getfield 112, 3) := by decide +kernel
theorem dX7_few_81 : decode cX7_few 81 = .ok (.if_icmp .ge 45, 3) := by decide +kernel
theorem dX7_few_84 : decode cX7_few 84 = .ok (.iload 5, 2) := by decide +kernel
theorem dX7_few_86 : decode cX7_few 86 = .ok (.ifCond .ne 27, 3) := by decide +kernel
theorem dX7_few_89 : decode cX7_few 89 = .ok (.iload_n 1, 1) := by decide +kernel
theorem dX7_few_90 : decode cX7_few 90 = .ok (.iload 6, 2) := by decide +kernel
theorem dX7_few_92 : decode cX7_few 92 = .ok (.invokestatic 210, 3) := by decide +kernel
theorem dX7_few_95 : decode cX7_few 95 = .ok (.ifCond .eq 22, 3) := by decide +kernel
theorem dX7_few_98 : decode cX7_few 98 = .ok (.aload_n 0, 1) := by decide +kernel
theorem dX7_few_99 : decode cX7_few 99 = .ok (.getfield 31, 3) := by decide +kernel
theorem dX7_few_102 : decode cX7_few 102 = .ok (.iconst 5, 1) := by decide +kernel
theorem dX7_few_103 : decode cX7_few 103 = .ok (.iload 6, 2) := by decide +kernel
theorem dX7_few_105 : decode cX7_few 105 = .ok (.imul, 1) := by decide +kernel
theorem dX7_few_106 : decode cX7_few 106 = .ok (.iload 4, 2) := by decide +kernel
theorem dX7_few_108 : decode cX7_few 108 = .ok (.iadd, 1) := by decide +kernel
theorem dX7_few_109 : decode cX7_few 109 = .ok (.baload, 1) := by decide +kernel
theorem dX7_few_110 : decode cX7_few 110 = .ok (.ifCond .ne 7, 3) := by decide +kernel
theorem dX7_few_113 : decode cX7_few 113 = .ok (.iconst 1, 1) := by decide +kernel
theorem dX7_few_114 : decode cX7_few 114 = .ok (.goto 4, 3) := by decide +kernel
theorem dX7_few_117 : decode cX7_few 117 = .ok (.iconst 0, 1) := by decide +kernel
theorem dX7_few_118 : decode cX7_few 118 = .ok (.istore 5, 2) := by decide +kernel
theorem dX7_few_120 : decode cX7_few 120 = .ok (.iinc 6 1, 3) := by decide +kernel
theorem dX7_few_123 : decode cX7_few 123 = .ok (.goto (-48), 3) := by decide +kernel
theorem dX7_few_126 : decode cX7_few 126 = .ok (.iload_n 3, 1) := by decide +kernel
theorem dX7_few_127 : decode cX7_few 127 = .ok (.iload 5, 2) := by decide +kernel
theorem dX7_few_129 : decode cX7_few 129 = .ok (.ifCond .eq 13, 3) := by decide +kernel
theorem dX7_few_132 : decode cX7_few 132 = .ok (.aload_n 0, 1) := by decide +kernel
theorem dX7_few_133 : decode cX7_few 133 = .ok (.getfield 28, 3) := by decide +kernel
theorem dX7_few_136 : decode cX7_few 136 = .ok (.iload 4, 2) := by decide +kernel
theorem dX7_few_138 : decode cX7_few 138 = .ok (.iaload, 1) := by decide +kernel
theorem dX7_few_139 : decode cX7_few 139 = .ok (.goto 4, 3) := by decide +kernel
theorem dX7_few_142 : decode cX7_few 142 = .ok (.iconst 0, 1) := by decide +kernel
theorem dX7_few_143 : decode cX7_few 143 = .ok (.iadd, 1) := by decide +kernel
theorem dX7_few_144 : decode cX7_few 144 = .ok (.istore_n 3, 1) := by decide +kernel
theorem dX7_few_145 : decode cX7_few 145 = .ok (.iinc 4 1, 3) := by decide +kernel
theorem dX7_few_148 : decode cX7_few 148 = .ok (.goto (-88), 3) := by decide +kernel
theorem dX7_few_151 : decode cX7_few 151 = .ok (.iload_n 2, 1) := by decide +kernel
theorem dX7_few_152 : decode cX7_few 152 = .ok (.iload_n 3, 1) := by decide +kernel
theorem dX7_few_153 : decode cX7_few 153 = .ok (.if_icmp .le 5, 3) := by decide +kernel
theorem dX7_few_156 : decode cX7_few 156 = .ok (.iload_n 1, 1) := by decide +kernel
theorem dX7_few_157 : decode cX7_few 157 = .ok (.ireturn, 1) := by decide +kernel
theorem dX7_few_158 : decode cX7_few 158 = .ok (.iinc 1 1, 3) := by decide +kernel
theorem dX7_few_161 : decode cX7_few 161 = .ok (.goto (-159), 3) := by decide +kernel
theorem dX7_few_164 : decode cX7_few 164 = .ok (.iconst 0, 1) := by decide +kernel
theorem dX7_few_165 : decode cX7_few 165 = .ok (.ireturn, 1) := by decide +kernel
theorem dX7_layWeights_0 : decode cX7_layWeights 0 = .ok (.aload_n 0, 1) := by decide +kernel
theorem dX7_layWeights_1 : decode cX7_layWeights 1 = .ok (.invokevirtual 207, 3) := by decide +kernel
theorem dX7_layWeights_4 : decode cX7_layWeights 4 = .ok (.istore_n 1, 1) := by decide +kernel
theorem dX7_layWeights_5 : decode cX7_layWeights 5 = .ok (.iconst 0, 1) := by decide +kernel
theorem dX7_layWeights_6 : decode cX7_layWeights 6 = .ok (.istore_n 2, 1) := by decide +kernel
theorem dX7_layWeights_7 : decode cX7_layWeights 7 = .ok (.iload_n 2, 1) := by decide +kernel
theorem dX7_layWeights_8 : decode cX7_layWeights 8 = .ok (.aload_n 0, 1) := by decide +kernel
theorem dX7_layWeights_9 : decode cX7_layWeights 9 = .ok (.getfield 115, 3) := by decide +kernel
theorem dX7_layWeights_12 : decode cX7_layWeights 12 = .ok (.if_icmp .ge 41, 3) := by decide +kernel
theorem dX7_layWeights_15 : decode cX7_layWeights 15 = .ok (.iload_n 1, 1) := by decide +kernel
theorem dX7_layWeights_16 : decode cX7_layWeights 16 = .ok (.ifCond .lt 37, 3) := by decide +kernel
theorem dX7_layWeights_19 : decode cX7_layWeights 19 = .ok (.aload_n 0, 1) := by decide +kernel
theorem dX7_layWeights_20 : decode cX7_layWeights 20 = .ok (.ldc 199, 2) := by decide +kernel
theorem dX7_layWeights_22 : decode cX7_layWeights 22 = .ok (.invokevirtual 200, 3) := by decide +kernel
theorem dX7_layWeights_25 : decode cX7_layWeights 25 = .ok (.aload_n 0, 1) := by decide +kernel
theorem dX7_layWeights_26 : decode cX7_layWeights 26 = .ok (.getfield 41, 3) := by decide +kernel
theorem dX7_layWeights_29 : decode cX7_layWeights 29 = .ok (.iload_n 2, 1) := by decide +kernel
theorem dX7_layWeights_30 : decode cX7_layWeights 30 = .ok (.dup2, 1) := by decide +kernel
theorem dX7_layWeights_31 : decode cX7_layWeights 31 = .ok (.iaload, 1) := by decide +kernel
theorem dX7_layWeights_32 : decode cX7_layWeights 32 = .ok (.iconst 1, 1) := by decide +kernel
theorem dX7_layWeights_33 : decode cX7_layWeights 33 = .ok (.iadd, 1) := by decide +kernel
theorem dX7_layWeights_34 : decode cX7_layWeights 34 = .ok (.iastore, 1) := by decide +kernel
theorem dX7_layWeights_35 : decode cX7_layWeights 35 = .ok (.aload_n 0, 1) := by decide +kernel
theorem dX7_layWeights_36 : decode cX7_layWeights 36 = .ok (.getfield 59, 3) := by decide +kernel
theorem dX7_layWeights_39 : decode cX7_layWeights 39 = .ok (.iload_n 2, 1) := by decide +kernel
theorem dX7_layWeights_40 : decode cX7_layWeights 40 = .ok (.iload_n 1, 1) := by decide +kernel
theorem dX7_layWeights_41 : decode cX7_layWeights 41 = .ok (.aload_n 0, 1) := by decide +kernel
theorem dX7_layWeights_42 : decode cX7_layWeights 42 = .ok (.invokevirtual 203, 3) := by decide +kernel
theorem dX7_layWeights_45 : decode cX7_layWeights 45 = .ok (.isub, 1) := by decide +kernel
theorem dX7_layWeights_46 : decode cX7_layWeights 46 = .ok (.iastore, 1) := by decide +kernel
theorem dX7_layWeights_47 : decode cX7_layWeights 47 = .ok (.iinc 2 1, 3) := by decide +kernel
theorem dX7_layWeights_50 : decode cX7_layWeights 50 = .ok (.goto (-43), 3) := by decide +kernel
theorem dX7_layWeights_53 : decode cX7_layWeights 53 = .ok (.iload_n 1, 1) := by decide +kernel
theorem dX7_layWeights_54 : decode cX7_layWeights 54 = .ok (.ifCond .lt 7, 3) := by decide +kernel
theorem dX7_layWeights_57 : decode cX7_layWeights 57 = .ok (.iconst 1, 1) := by decide +kernel
theorem dX7_layWeights_58 : decode cX7_layWeights 58 = .ok (.goto 4, 3) := by decide +kernel
theorem dX7_layWeights_61 : decode cX7_layWeights 61 = .ok (.iconst 0, 1) := by decide +kernel
theorem dX7_layWeights_62 : decode cX7_layWeights 62 = .ok (.ireturn, 1) := by decide +kernel
theorem dX7_weight_0 : decode cX7_weight 0 = .ok (.aload_n 0, 1) := by decide +kernel
theorem dX7_weight_1 : decode cX7_weight 1 = .ok (.iload_n 1, 1) := by decide +kernel
theorem dX7_weight_2 : decode cX7_weight 2 = .ok (.invokevirtual 173, 3) := by decide +kernel
theorem dX7_weight_5 : decode cX7_weight 5 = .ok (.ifCond .eq 5, 3) := by decide +kernel
theorem dX7_weight_8 : decode cX7_weight 8 = .ok (.iconst (-1), 1) := by decide +kernel
theorem dX7_weight_9 : decode cX7_weight 9 = .ok (.ireturn, 1) := by decide +kernel
theorem dX7_weight_10 : decode cX7_weight 10 = .ok (.aload_n 0, 1) := by decide +kernel
theorem dX7_weight_11 : decode cX7_weight 11 = .ok (.invokevirtual 213, 3) := by decide +kernel
theorem dX7_weight_14 : decode cX7_weight 14 = .ok (.ifCond .eq 12, 3) := by decide +kernel
theorem dX7_weight_17 : decode cX7_weight 17 = .ok (.aload_n 0, 1) := by decide +kernel
theorem dX7_weight_18 : decode cX7_weight 18 = .ok (.getfield 59, 3) := by decide +kernel
theorem dX7_weight_21 : decode cX7_weight 21 = .ok (.iload_n 1, 1) := by decide +kernel
theorem dX7_weight_22 : decode cX7_weight 22 = .ok (.iaload, 1) := by decide +kernel
theorem dX7_weight_23 : decode cX7_weight 23 = .ok (.goto 5, 3) := by decide +kernel
theorem dX7_weight_26 : decode cX7_weight 26 = .ok (.bipush (-9), 2) := by decide +kernel
theorem dX7_weight_28 : decode cX7_weight 28 = .ok (.ireturn, 1) := by decide +kernel
theorem dX7_line_0 : decode cX7_line 0 = .ok (.aload_n 0, 1) := by decide +kernel
theorem dX7_line_1 : decode cX7_line 1 = .ok (.iload_n 1, 1) := by decide +kernel
theorem dX7_line_2 : decode cX7_line 2 = .ok (.invokevirtual 170, 3) := by decide +kernel
theorem dX7_line_5 : decode cX7_line 5 = .ok (.ifCond .eq 5, 3) := by decide +kernel
theorem dX7_line_8 : decode cX7_line 8 = .ok (.iconst (-1), 1) := by decide +kernel
theorem dX7_line_9 : decode cX7_line 9 = .ok (.ireturn, 1) := by decide +kernel
theorem dX7_line_10 : decode cX7_line 10 = .ok (.aload_n 0, 1) := by decide +kernel
theorem dX7_line_11 : decode cX7_line 11 = .ok (.invokevirtual 213, 3) := by decide +kernel
theorem dX7_line_14 : decode cX7_line 14 = .ok (.ifCond .ne 6, 3) := by decide +kernel
theorem dX7_line_17 : decode cX7_line 17 = .ok (.bipush (-9), 2) := by decide +kernel
theorem dX7_line_19 : decode cX7_line 19 = .ok (.ireturn, 1) := by decide +kernel
theorem dX7_line_20 : decode cX7_line 20 = .ok (.iconst 0, 1) := by decide +kernel
theorem dX7_line_21 : decode cX7_line 21 = .ok (.istore_n 2, 1) := by decide +kernel
theorem dX7_line_22 : decode cX7_line 22 = .ok (.ldc 185, 2) := by decide +kernel
theorem dX7_line_24 : decode cX7_line 24 = .ok (.istore_n 3, 1) := by decide +kernel
theorem dX7_line_25 : decode cX7_line 25 = .ok (.iconst 0, 1) := by decide +kernel
theorem dX7_line_26 : decode cX7_line 26 = .ok (.istore 4, 2) := by decide +kernel
theorem dX7_line_28 : decode cX7_line 28 = .ok (.iload 4, 2) := by decide +kernel
theorem dX7_line_30 : decode cX7_line 30 = .ok (.aload_n 0, 1) := by decide +kernel
theorem dX7_line_31 : decode cX7_line 31 = .ok (.getfield 115, 3) := by decide +kernel
theorem dX7_line_34 : decode cX7_line 34 = .ok (.if_icmp .ge 106, 3) := by decide +kernel
theorem dX7_line_37 : decode cX7_line 37 = .ok (.aload_n 0, 1) := by decide +kernel
theorem dX7_line_38 : decode cX7_line 38 = .ok (.getfield 31, 3) := by decide +kernel
theorem dX7_line_41 : decode cX7_line 41 = .ok (.iconst 5, 1) := by decide +kernel
theorem dX7_line_42 : decode cX7_line 42 = .ok (.iload_n 1, 1) := by decide +kernel
theorem dX7_line_43 : decode cX7_line 43 = .ok (.imul, 1) := by decide +kernel
theorem dX7_line_44 : decode cX7_line 44 = .ok (.iload 4, 2) := by decide +kernel
theorem dX7_line_46 : decode cX7_line 46 = .ok (.iadd, 1) := by decide +kernel
theorem dX7_line_47 : decode cX7_line 47 = .ok (.baload, 1) := by decide +kernel
theorem dX7_line_48 : decode cX7_line 48 = .ok (.ifCond .eq 8, 3) := by decide +kernel
theorem dX7_line_51 : decode cX7_line 51 = .ok (.ldc 185, 2) := by decide +kernel
theorem dX7_line_53 : decode cX7_line 53 = .ok (.goto 29, 3) := by decide +kernel
theorem dX7_line_56 : decode cX7_line 56 = .ok (.aload_n 0, 1) := by decide +kernel
theorem dX7_line_57 : decode cX7_line 57 = .ok (.aload_n 0, 1) := by decide +kernel
theorem dX7_line_58 : decode cX7_line 58 = .ok (.getfield 7, 3) := by decide +kernel
theorem dX7_line_61 : decode cX7_line 61 = .ok (.iload_n 1, 1) := by decide +kernel
theorem dX7_line_62 : decode cX7_line 62 = .ok (.iaload, 1) := by decide +kernel
theorem dX7_line_63 : decode cX7_line 63 = .ok (.aload_n 0, 1) := by decide +kernel
theorem dX7_line_64 : decode cX7_line 64 = .ok (.getfield 13, 3) := by decide +kernel
theorem dX7_line_67 : decode cX7_line 67 = .ok (.iload_n 1, 1) := by decide +kernel
theorem dX7_line_68 : decode cX7_line 68 = .ok (.iaload, 1) := by decide +kernel
theorem dX7_line_69 : decode cX7_line 69 = .ok (.iload 4, 2) := by decide +kernel
theorem dX7_line_71 : decode cX7_line 71 = .ok (.invokevirtual 181, 3) := by decide +kernel
theorem dX7_line_74 : decode cX7_line 74 = .ok (.aload_n 0, 1) := by decide +kernel
theorem dX7_line_75 : decode cX7_line 75 = .ok (.getfield 59, 3) := by decide +kernel
theorem dX7_line_78 : decode cX7_line 78 = .ok (.iload 4, 2) := by decide +kernel
theorem dX7_line_80 : decode cX7_line 80 = .ok (.iaload, 1) := by decide +kernel
theorem dX7_line_81 : decode cX7_line 81 = .ok (.iadd, 1) := by decide +kernel
theorem dX7_line_82 : decode cX7_line 82 = .ok (.istore 5, 2) := by decide +kernel
theorem dX7_line_84 : decode cX7_line 84 = .ok (.iload 5, 2) := by decide +kernel
theorem dX7_line_86 : decode cX7_line 86 = .ok (.iload_n 3, 1) := by decide +kernel
theorem dX7_line_87 : decode cX7_line 87 = .ok (.if_icmp .ge 10, 3) := by decide +kernel
theorem dX7_line_90 : decode cX7_line 90 = .ok (.iconst 1, 1) := by decide +kernel
theorem dX7_line_91 : decode cX7_line 91 = .ok (.iload 4, 2) := by decide +kernel
theorem dX7_line_93 : decode cX7_line 93 = .ok (.ishl, 1) := by decide +kernel
theorem dX7_line_94 : decode cX7_line 94 = .ok (.goto 26, 3) := by decide +kernel
theorem dX7_line_97 : decode cX7_line 97 = .ok (.iload 5, 2) := by decide +kernel
theorem dX7_line_99 : decode cX7_line 99 = .ok (.iload_n 3, 1) := by decide +kernel
theorem dX7_line_100 : decode cX7_line 100 = .ok (.if_icmp .ne 19, 3) := by decide +kernel
theorem dX7_line_103 : decode cX7_line 103 = .ok (.iload 5, 2) := by decide +kernel
theorem dX7_line_105 : decode cX7_line 105 = .ok (.ldc 185, 2) := by decide +kernel
theorem dX7_line_107 : decode cX7_line 107 = .ok (.if_icmp .ge 12, 3) := by decide +kernel
theorem dX7_line_110 : decode cX7_line 110 = .ok (.iload_n 2, 1) := by decide +kernel
theorem dX7_line_111 : decode cX7_line 111 = .ok (.iconst 1, 1) := by decide +kernel
theorem dX7_line_112 : decode cX7_line 112 = .ok (.iload 4, 2) := by decide +kernel
theorem dX7_line_114 : decode cX7_line 114 = .ok (.ishl, 1) := by decide +kernel
theorem dX7_line_115 : decode cX7_line 115 = .ok (.ior, 1) := by decide +kernel
theorem dX7_line_116 : decode cX7_line 116 = .ok (.goto 4, 3) := by decide +kernel
theorem dX7_line_119 : decode cX7_line 119 = .ok (.iload_n 2, 1) := by decide +kernel
theorem dX7_line_120 : decode cX7_line 120 = .ok (.istore_n 2, 1) := by decide +kernel
theorem dX7_line_121 : decode cX7_line 121 = .ok (.iload 5, 2) := by decide +kernel
theorem dX7_line_123 : decode cX7_line 123 = .ok (.iload_n 3, 1) := by decide +kernel
theorem dX7_line_124 : decode cX7_line 124 = .ok (.if_icmp .ge 8, 3) := by decide +kernel
theorem dX7_line_127 : decode cX7_line 127 = .ok (.iload 5, 2) := by decide +kernel
theorem dX7_line_129 : decode cX7_line 129 = .ok (.goto 4, 3) := by decide +kernel
theorem dX7_line_132 : decode cX7_line 132 = .ok (.iload_n 3, 1) := by decide +kernel
theorem dX7_line_133 : decode cX7_line 133 = .ok (.istore_n 3, 1) := by decide +kernel
theorem dX7_line_134 : decode cX7_line 134 = .ok (.iinc 4 1, 3) := by decide +kernel
theorem dX7_line_137 : decode cX7_line 137 = .ok (.goto (-109), 3) := by decide +kernel
theorem dX7_line_140 : decode cX7_line 140 = .ok (.iload_n 2, 1) := by decide +kernel
theorem dX7_line_141 : decode cX7_line 141 = .ok (.ireturn, 1) := by decide +kernel
theorem dX7_holdsFor_0 : decode cX7_holdsFor 0 = .ok (.ldc2_w 217, 3) := by decide +kernel
theorem dX7_holdsFor_3 : decode cX7_holdsFor 3 = .ok (.lstore 4, 2) := by decide +kernel
theorem dX7_holdsFor_5 : decode cX7_holdsFor 5 = .ok (.iconst 0, 1) := by decide +kernel
theorem dX7_holdsFor_6 : decode cX7_holdsFor 6 = .ok (.istore 6, 2) := by decide +kernel
theorem dX7_holdsFor_8 : decode cX7_holdsFor 8 = .ok (.iload 6, 2) := by decide +kernel
theorem dX7_holdsFor_10 : decode cX7_holdsFor 10 = .ok (.aload_n 0, 1) := by decide +kernel
theorem dX7_holdsFor_11 : decode cX7_holdsFor 11 = .ok (.getfield 115, 3) := by decide +kernel
theorem dX7_holdsFor_14 : decode cX7_holdsFor 14 = .ok (.if_icmp .ge 72, 3) := by decide +kernel
theorem dX7_holdsFor_17 : decode cX7_holdsFor 17 = .ok (.aload_n 0, 1) := by decide +kernel
theorem dX7_holdsFor_18 : decode cX7_holdsFor 18 = .ok (.aload_n 0, 1) := by decide +kernel
theorem dX7_holdsFor_19 : decode cX7_holdsFor 19 = .ok (.getfield 7, 3) := by decide +kernel
theorem dX7_holdsFor_22 : decode cX7_holdsFor 22 = .ok (.iload_n 1, 1) := by decide +kernel
theorem dX7_holdsFor_23 : decode cX7_holdsFor 23 = .ok (.iaload, 1) := by decide +kernel
theorem dX7_holdsFor_24 : decode cX7_holdsFor 24 = .ok (.aload_n 0, 1) := by decide +kernel
theorem dX7_holdsFor_25 : decode cX7_holdsFor 25 = .ok (.getfield 13, 3) := by decide +kernel
theorem dX7_holdsFor_28 : decode cX7_holdsFor 28 = .ok (.iload_n 1, 1) := by decide +kernel
theorem dX7_holdsFor_29 : decode cX7_holdsFor 29 = .ok (.iaload, 1) := by decide +kernel
theorem dX7_holdsFor_30 : decode cX7_holdsFor 30 = .ok (.iload 6, 2) := by decide +kernel
theorem dX7_holdsFor_32 : decode cX7_holdsFor 32 = .ok (.invokevirtual 181, 3) := by decide +kernel
theorem dX7_holdsFor_35 : decode cX7_holdsFor 35 = .ok (.i2l, 1) := by decide +kernel
theorem dX7_holdsFor_36 : decode cX7_holdsFor 36 = .ok (.aload_n 0, 1) := by decide +kernel
theorem dX7_holdsFor_37 : decode cX7_holdsFor 37 = .ok (.getfield 74, 3) := by decide +kernel
theorem dX7_holdsFor_40 : decode cX7_holdsFor 40 = .ok (.iload_n 3, 1) := by decide +kernel
theorem dX7_holdsFor_41 : decode cX7_holdsFor 41 = .ok (.iload 6, 2) := by decide +kernel
theorem dX7_holdsFor_43 : decode cX7_holdsFor 43 = .ok (.iadd, 1) := by decide +kernel
theorem dX7_holdsFor_44 : decode cX7_holdsFor 44 = .ok (.iaload, 1) := by decide +kernel
theorem dX7_holdsFor_45 : decode cX7_holdsFor 45 = .ok (.i2l, 1) := by decide +kernel
theorem dX7_holdsFor_46 : decode cX7_holdsFor 46 = .ok (.ladd, 1) := by decide +kernel
theorem dX7_holdsFor_47 : decode cX7_holdsFor 47 = .ok (.lstore 7, 2) := by decide +kernel
theorem dX7_holdsFor_49 : decode cX7_holdsFor 49 = .ok (.aload_n 0, 1) := by decide +kernel
theorem dX7_holdsFor_50 : decode cX7_holdsFor 50 = .ok (.getfield 31, 3) := by decide +kernel
theorem dX7_holdsFor_53 : decode cX7_holdsFor 53 = .ok (.iconst 5, 1) := by decide +kernel
theorem dX7_holdsFor_54 : decode cX7_holdsFor 54 = .ok (.iload_n 1, 1) := by decide +kernel
theorem dX7_holdsFor_55 : decode cX7_holdsFor 55 = .ok (.imul, 1) := by decide +kernel
theorem dX7_holdsFor_56 : decode cX7_holdsFor 56 = .ok (.iload 6, 2) := by decide +kernel
theorem dX7_holdsFor_58 : decode cX7_holdsFor 58 = .ok (.iadd, 1) := by decide +kernel
theorem dX7_holdsFor_59 : decode cX7_holdsFor 59 = .ok (.baload, 1) := by decide +kernel
theorem dX7_holdsFor_60 : decode cX7_holdsFor 60 = .ok (.ifCond .ne 16, 3) := by decide +kernel
theorem dX7_holdsFor_63 : decode cX7_holdsFor 63 = .ok (.lload 7, 2) := by decide +kernel
theorem dX7_holdsFor_65 : decode cX7_holdsFor 65 = .ok (.lload 4, 2) := by decide +kernel
theorem dX7_holdsFor_67 : decode cX7_holdsFor 67 = .ok (.lcmp, 1) := by decide +kernel
theorem dX7_holdsFor_68 : decode cX7_holdsFor 68 = .ok (.ifCond .ge 8, 3) := by decide +kernel
theorem dX7_holdsFor_71 : decode cX7_holdsFor 71 = .ok (.lload 7, 2) := by decide +kernel
theorem dX7_holdsFor_73 : decode cX7_holdsFor 73 = .ok (.goto 5, 3) := by decide +kernel
theorem dX7_holdsFor_76 : decode cX7_holdsFor 76 = .ok (.lload 4, 2) := by decide +kernel
theorem dX7_holdsFor_78 : decode cX7_holdsFor 78 = .ok (.lstore 4, 2) := by decide +kernel
theorem dX7_holdsFor_80 : decode cX7_holdsFor 80 = .ok (.iinc 6 1, 3) := by decide +kernel
theorem dX7_holdsFor_83 : decode cX7_holdsFor 83 = .ok (.goto (-75), 3) := by decide +kernel
theorem dX7_holdsFor_86 : decode cX7_holdsFor 86 = .ok (.lconst 0, 1) := by decide +kernel
theorem dX7_holdsFor_87 : decode cX7_holdsFor 87 = .ok (.lstore 6, 2) := by decide +kernel
theorem dX7_holdsFor_89 : decode cX7_holdsFor 89 = .ok (.iconst 1, 1) := by decide +kernel
theorem dX7_holdsFor_90 : decode cX7_holdsFor 90 = .ok (.istore 8, 2) := by decide +kernel
theorem dX7_holdsFor_92 : decode cX7_holdsFor 92 = .ok (.iconst 0, 1) := by decide +kernel
theorem dX7_holdsFor_93 : decode cX7_holdsFor 93 = .ok (.istore 9, 2) := by decide +kernel
theorem dX7_holdsFor_95 : decode cX7_holdsFor 95 = .ok (.iload 9, 2) := by decide +kernel
theorem dX7_holdsFor_97 : decode cX7_holdsFor 97 = .ok (.aload_n 0, 1) := by decide +kernel
theorem dX7_holdsFor_98 : decode cX7_holdsFor 98 = .ok (.getfield 115, 3) := by decide +kernel
theorem dX7_holdsFor_101 : decode cX7_holdsFor 101 = .ok (.if_icmp .ge 111, 3) := by decide +kernel
theorem dX7_holdsFor_104 : decode cX7_holdsFor 104 = .ok (.aload_n 0, 1) := by decide +kernel
theorem dX7_holdsFor_105 : decode cX7_holdsFor 105 = .ok (.getfield 74, 3) := by decide +kernel
theorem dX7_holdsFor_108 : decode cX7_holdsFor 108 = .ok (.iload_n 2, 1) := by decide +kernel
theorem dX7_holdsFor_109 : decode cX7_holdsFor 109 = .ok (.aload_n 0, 1) := by decide +kernel
theorem dX7_holdsFor_110 : decode cX7_holdsFor 110 = .ok (.getfield 115, 3) := by decide +kernel
theorem dX7_holdsFor_113 : decode cX7_holdsFor 113 = .ok (.iload_n 1, 1) := by decide +kernel
theorem dX7_holdsFor_114 : decode cX7_holdsFor 114 = .ok (.imul, 1) := by decide +kernel
theorem dX7_holdsFor_115 : decode cX7_holdsFor 115 = .ok (.iadd, 1) := by decide +kernel
theorem dX7_holdsFor_116 : decode cX7_holdsFor 116 = .ok (.iload 9, 2) := by decide +kernel
theorem dX7_holdsFor_118 : decode cX7_holdsFor 118 = .ok (.iadd, 1) := by decide +kernel
theorem dX7_holdsFor_119 : decode cX7_holdsFor 119 = .ok (.iaload, 1) := by decide +kernel
theorem dX7_holdsFor_120 : decode cX7_holdsFor 120 = .ok (.istore 10, 2) := by decide +kernel
theorem dX7_holdsFor_122 : decode cX7_holdsFor 122 = .ok (.aload_n 0, 1) := by decide +kernel
theorem dX7_holdsFor_123 : decode cX7_holdsFor 123 = .ok (.aload_n 0, 1) := by decide +kernel
theorem dX7_holdsFor_124 : decode cX7_holdsFor 124 = .ok (.getfield 7, 3) := by decide +kernel
theorem dX7_holdsFor_127 : decode cX7_holdsFor 127 = .ok (.iload_n 1, 1) := by decide +kernel
theorem dX7_holdsFor_128 : decode cX7_holdsFor 128 = .ok (.iaload, 1) := by decide +kernel
theorem dX7_holdsFor_129 : decode cX7_holdsFor 129 = .ok (.aload_n 0, 1) := by decide +kernel
theorem dX7_holdsFor_130 : decode cX7_holdsFor 130 = .ok (.getfield 13, 3) := by decide +kernel
theorem dX7_holdsFor_133 : decode cX7_holdsFor 133 = .ok (.iload_n 1, 1) := by decide +kernel
theorem dX7_holdsFor_134 : decode cX7_holdsFor 134 = .ok (.iaload, 1) := by decide +kernel
theorem dX7_holdsFor_135 : decode cX7_holdsFor 135 = .ok (.iload 9, 2) := by decide +kernel
theorem dX7_holdsFor_137 : decode cX7_holdsFor 137 = .ok (.invokevirtual 181, 3) := by decide +kernel
theorem dX7_holdsFor_140 : decode cX7_holdsFor 140 = .ok (.i2l, 1) := by decide +kernel
theorem dX7_holdsFor_141 : decode cX7_holdsFor 141 = .ok (.aload_n 0, 1) := by decide +kernel
theorem dX7_holdsFor_142 : decode cX7_holdsFor 142 = .ok (.getfield 74, 3) := by decide +kernel
theorem dX7_holdsFor_145 : decode cX7_holdsFor 145 = .ok (.iload_n 3, 1) := by decide +kernel
theorem dX7_holdsFor_146 : decode cX7_holdsFor 146 = .ok (.iload 9, 2) := by decide +kernel
theorem dX7_holdsFor_148 : decode cX7_holdsFor 148 = .ok (.iadd, 1) := by decide +kernel
theorem dX7_holdsFor_149 : decode cX7_holdsFor 149 = .ok (.iaload, 1) := by decide +kernel
theorem dX7_holdsFor_150 : decode cX7_holdsFor 150 = .ok (.i2l, 1) := by decide +kernel
theorem dX7_holdsFor_151 : decode cX7_holdsFor 151 = .ok (.ladd, 1) := by decide +kernel
theorem dX7_holdsFor_152 : decode cX7_holdsFor 152 = .ok (.lstore 11, 2) := by decide +kernel
theorem dX7_holdsFor_154 : decode cX7_holdsFor 154 = .ok (.iload 8, 2) := by decide +kernel
theorem dX7_holdsFor_156 : decode cX7_holdsFor 156 = .ok (.ifCond .eq 39, 3) := by decide +kernel
theorem dX7_holdsFor_159 : decode cX7_holdsFor 159 = .ok (.iload 10, 2) := by decide +kernel
theorem dX7_holdsFor_161 : decode cX7_holdsFor 161 = .ok (.ifCond .lt 34, 3) := by decide +kernel
theorem dX7_holdsFor_164 : decode cX7_holdsFor 164 = .ok (.iload 10, 2) := by decide +kernel
theorem dX7_holdsFor_166 : decode cX7_holdsFor 166 = .ok (.ifCond .eq 25, 3) := by decide +kernel
theorem dX7_holdsFor_169 : decode cX7_holdsFor 169 = .ok (.aload_n 0, 1) := by decide +kernel
theorem dX7_holdsFor_170 : decode cX7_holdsFor 170 = .ok (.getfield 31, 3) := by decide +kernel
theorem dX7_holdsFor_173 : decode cX7_holdsFor 173 = .ok (.iconst 5, 1) := by decide +kernel
theorem dX7_holdsFor_174 : decode cX7_holdsFor 174 = .ok (.iload_n 1, 1) := by decide +kernel
theorem dX7_holdsFor_175 : decode cX7_holdsFor 175 = .ok (.imul, 1) := by decide +kernel
theorem dX7_holdsFor_176 : decode cX7_holdsFor 176 = .ok (.iload 9, 2) := by decide +kernel
theorem dX7_holdsFor_178 : decode cX7_holdsFor 178 = .ok (.iadd, 1) := by decide +kernel
theorem dX7_holdsFor_179 : decode cX7_holdsFor 179 = .ok (.baload, 1) := by decide +kernel
theorem dX7_holdsFor_180 : decode cX7_holdsFor 180 = .ok (.ifCond .ne 15, 3) := by decide +kernel
theorem dX7_holdsFor_183 : decode cX7_holdsFor 183 = .ok (.lload 11, 2) := by decide +kernel
theorem dX7_holdsFor_185 : decode cX7_holdsFor 185 = .ok (.lload 4, 2) := by decide +kernel
theorem dX7_holdsFor_187 : decode cX7_holdsFor 187 = .ok (.lcmp, 1) := by decide +kernel
theorem dX7_holdsFor_188 : decode cX7_holdsFor 188 = .ok (.ifCond .ne 7, 3) := by decide +kernel
theorem dX7_holdsFor_191 : decode cX7_holdsFor 191 = .ok (.iconst 1, 1) := by decide +kernel
theorem dX7_holdsFor_192 : decode cX7_holdsFor 192 = .ok (.goto 4, 3) := by decide +kernel
theorem dX7_holdsFor_195 : decode cX7_holdsFor 195 = .ok (.iconst 0, 1) := by decide +kernel
theorem dX7_holdsFor_196 : decode cX7_holdsFor 196 = .ok (.istore 8, 2) := by decide +kernel
theorem dX7_holdsFor_198 : decode cX7_holdsFor 198 = .ok (.lload 6, 2) := by decide +kernel
theorem dX7_holdsFor_200 : decode cX7_holdsFor 200 = .ok (.iload 10, 2) := by decide +kernel
theorem dX7_holdsFor_202 : decode cX7_holdsFor 202 = .ok (.i2l, 1) := by decide +kernel
theorem dX7_holdsFor_203 : decode cX7_holdsFor 203 = .ok (.ladd, 1) := by decide +kernel
theorem dX7_holdsFor_204 : decode cX7_holdsFor 204 = .ok (.lstore 6, 2) := by decide +kernel
theorem dX7_holdsFor_206 : decode cX7_holdsFor 206 = .ok (.iinc 9 1, 3) := by decide +kernel
theorem dX7_holdsFor_209 : decode cX7_holdsFor 209 = .ok (.goto (-114), 3) := by decide +kernel
theorem dX7_holdsFor_212 : decode cX7_holdsFor 212 = .ok (.iload 8, 2) := by decide +kernel
theorem dX7_holdsFor_214 : decode cX7_holdsFor 214 = .ok (.ifCond .eq 20, 3) := by decide +kernel
theorem dX7_holdsFor_217 : decode cX7_holdsFor 217 = .ok (.lload 6, 2) := by decide +kernel
theorem dX7_holdsFor_219 : decode cX7_holdsFor 219 = .ok (.aload_n 0, 1) := by decide +kernel
theorem dX7_holdsFor_220 : decode cX7_holdsFor 220 = .ok (.getfield 16, 3) := by decide +kernel
theorem dX7_holdsFor_223 : decode cX7_holdsFor 223 = .ok (.iload_n 1, 1) := by decide +kernel
theorem dX7_holdsFor_224 : decode cX7_holdsFor 224 = .ok (.iaload, 1) := by decide +kernel
theorem dX7_holdsFor_225 : decode cX7_holdsFor 225 = .ok (.i2l, 1) := by decide +kernel
theorem dX7_holdsFor_226 : decode cX7_holdsFor 226 = .ok (.lcmp, 1) := by decide +kernel
theorem dX7_holdsFor_227 : decode cX7_holdsFor 227 = .ok (.ifCond .ne 7, 3) := by decide +kernel
theorem dX7_holdsFor_230 : decode cX7_holdsFor 230 = .ok (.iconst 1, 1) := by decide +kernel
theorem dX7_holdsFor_231 : decode cX7_holdsFor 231 = .ok (.goto 4, 3) := by decide +kernel
theorem dX7_holdsFor_234 : decode cX7_holdsFor 234 = .ok (.iconst 0, 1) := by decide +kernel
theorem dX7_holdsFor_235 : decode cX7_holdsFor 235 = .ok (.ireturn, 1) := by decide +kernel
theorem dX7_holdsIn_0 : decode cX7_holdsIn 0 = .ok (.lconst 0, 1) := by decide +kernel
theorem dX7_holdsIn_1 : decode cX7_holdsIn 1 = .ok (.lstore 4, 2) := by decide +kernel
theorem dX7_holdsIn_3 : decode cX7_holdsIn 3 = .ok (.iconst 0, 1) := by decide +kernel
theorem dX7_holdsIn_4 : decode cX7_holdsIn 4 = .ok (.istore 6, 2) := by decide +kernel
theorem dX7_holdsIn_6 : decode cX7_holdsIn 6 = .ok (.iload 6, 2) := by decide +kernel
theorem dX7_holdsIn_8 : decode cX7_holdsIn 8 = .ok (.aload_n 0, 1) := by decide +kernel
theorem dX7_holdsIn_9 : decode cX7_holdsIn 9 = .ok (.getfield 112, 3) := by decide +kernel
theorem dX7_holdsIn_12 : decode cX7_holdsIn 12 = .ok (.if_icmp .ge 31, 3) := by decide +kernel
theorem dX7_holdsIn_15 : decode cX7_holdsIn 15 = .ok (.lload 4, 2) := by decide +kernel
theorem dX7_holdsIn_17 : decode cX7_holdsIn 17 = .ok (.aload_n 0, 1) := by decide +kernel
theorem dX7_holdsIn_18 : decode cX7_holdsIn 18 = .ok (.getfield 74, 3) := by decide +kernel
theorem dX7_holdsIn_21 : decode cX7_holdsIn 21 = .ok (.iload_n 2, 1) := by decide +kernel
theorem dX7_holdsIn_22 : decode cX7_holdsIn 22 = .ok (.aload_n 0, 1) := by decide +kernel
theorem dX7_holdsIn_23 : decode cX7_holdsIn 23 = .ok (.getfield 115, 3) := by decide +kernel
theorem dX7_holdsIn_26 : decode cX7_holdsIn 26 = .ok (.iload 6, 2) := by decide +kernel
theorem dX7_holdsIn_28 : decode cX7_holdsIn 28 = .ok (.imul, 1) := by decide +kernel
theorem dX7_holdsIn_29 : decode cX7_holdsIn 29 = .ok (.iadd, 1) := by decide +kernel
theorem dX7_holdsIn_30 : decode cX7_holdsIn 30 = .ok (.iload_n 1, 1) := by decide +kernel
theorem dX7_holdsIn_31 : decode cX7_holdsIn 31 = .ok (.iadd, 1) := by decide +kernel
theorem dX7_holdsIn_32 : decode cX7_holdsIn 32 = .ok (.iaload, 1) := by decide +kernel
theorem dX7_holdsIn_33 : decode cX7_holdsIn 33 = .ok (.i2l, 1) := by decide +kernel
theorem dX7_holdsIn_34 : decode cX7_holdsIn 34 = .ok (.ladd, 1) := by decide +kernel
theorem dX7_holdsIn_35 : decode cX7_holdsIn 35 = .ok (.lstore 4, 2) := by decide +kernel
theorem dX7_holdsIn_37 : decode cX7_holdsIn 37 = .ok (.iinc 6 1, 3) := by decide +kernel
theorem dX7_holdsIn_40 : decode cX7_holdsIn 40 = .ok (.goto (-34), 3) := by decide +kernel
theorem dX7_holdsIn_43 : decode cX7_holdsIn 43 = .ok (.aload_n 0, 1) := by decide +kernel
theorem dX7_holdsIn_44 : decode cX7_holdsIn 44 = .ok (.getfield 74, 3) := by decide +kernel
theorem dX7_holdsIn_47 : decode cX7_holdsIn 47 = .ok (.iload_n 3, 1) := by decide +kernel
theorem dX7_holdsIn_48 : decode cX7_holdsIn 48 = .ok (.iload_n 1, 1) := by decide +kernel
theorem dX7_holdsIn_49 : decode cX7_holdsIn 49 = .ok (.iadd, 1) := by decide +kernel
theorem dX7_holdsIn_50 : decode cX7_holdsIn 50 = .ok (.iaload, 1) := by decide +kernel
theorem dX7_holdsIn_51 : decode cX7_holdsIn 51 = .ok (.istore 6, 2) := by decide +kernel
theorem dX7_holdsIn_53 : decode cX7_holdsIn 53 = .ok (.lload 4, 2) := by decide +kernel
theorem dX7_holdsIn_55 : decode cX7_holdsIn 55 = .ok (.aload_n 0, 1) := by decide +kernel
theorem dX7_holdsIn_56 : decode cX7_holdsIn 56 = .ok (.getfield 28, 3) := by decide +kernel
theorem dX7_holdsIn_59 : decode cX7_holdsIn 59 = .ok (.iload_n 1, 1) := by decide +kernel
theorem dX7_holdsIn_60 : decode cX7_holdsIn 60 = .ok (.iaload, 1) := by decide +kernel
theorem dX7_holdsIn_61 : decode cX7_holdsIn 61 = .ok (.i2l, 1) := by decide +kernel
theorem dX7_holdsIn_62 : decode cX7_holdsIn 62 = .ok (.lcmp, 1) := by decide +kernel
theorem dX7_holdsIn_63 : decode cX7_holdsIn 63 = .ok (.ifCond .gt 38, 3) := by decide +kernel
theorem dX7_holdsIn_66 : decode cX7_holdsIn 66 = .ok (.iload 6, 2) := by decide +kernel
theorem dX7_holdsIn_68 : decode cX7_holdsIn 68 = .ok (.i2l, 1) := by decide +kernel
theorem dX7_holdsIn_69 : decode cX7_holdsIn 69 = .ok (.lconst 0, 1) := by decide +kernel
theorem dX7_holdsIn_70 : decode cX7_holdsIn 70 = .ok (.ldc2_w 219, 3) := by decide +kernel
theorem dX7_holdsIn_73 : decode cX7_holdsIn 73 = .ok (.invokestatic 88, 3) := by decide +kernel
theorem dX7_holdsIn_76 : decode cX7_holdsIn 76 = .ok (.ifCond .eq 25, 3) := by decide +kernel
theorem dX7_holdsIn_79 : decode cX7_holdsIn 79 = .ok (.iload 6, 2) := by decide +kernel
theorem dX7_holdsIn_81 : decode cX7_holdsIn 81 = .ok (.ifCond .eq 16, 3) := by decide +kernel
theorem dX7_holdsIn_84 : decode cX7_holdsIn 84 = .ok (.lload 4, 2) := by decide +kernel
theorem dX7_holdsIn_86 : decode cX7_holdsIn 86 = .ok (.aload_n 0, 1) := by decide +kernel
theorem dX7_holdsIn_87 : decode cX7_holdsIn 87 = .ok (.getfield 28, 3) := by decide +kernel
theorem dX7_holdsIn_90 : decode cX7_holdsIn 90 = .ok (.iload_n 1, 1) := by decide +kernel
theorem dX7_holdsIn_91 : decode cX7_holdsIn 91 = .ok (.iaload, 1) := by decide +kernel
theorem dX7_holdsIn_92 : decode cX7_holdsIn 92 = .ok (.i2l, 1) := by decide +kernel
theorem dX7_holdsIn_93 : decode cX7_holdsIn 93 = .ok (.lcmp, 1) := by decide +kernel
theorem dX7_holdsIn_94 : decode cX7_holdsIn 94 = .ok (.ifCond .ne 7, 3) := by decide +kernel
theorem dX7_holdsIn_97 : decode cX7_holdsIn 97 = .ok (.iconst 1, 1) := by decide +kernel
theorem dX7_holdsIn_98 : decode cX7_holdsIn 98 = .ok (.goto 4, 3) := by decide +kernel
theorem dX7_holdsIn_101 : decode cX7_holdsIn 101 = .ok (.iconst 0, 1) := by decide +kernel
theorem dX7_holdsIn_102 : decode cX7_holdsIn 102 = .ok (.ireturn, 1) := by decide +kernel
theorem dX7_check_0 : decode cX7_check 0 = .ok (.iload_n 1, 1) := by decide +kernel
theorem dX7_check_1 : decode cX7_check 1 = .ok (.invokestatic 158, 3) := by decide +kernel
theorem dX7_check_4 : decode cX7_check 4 = .ok (.ifCond .eq 9, 3) := by decide +kernel
theorem dX7_check_7 : decode cX7_check 7 = .ok (.aload_n 0, 1) := by decide +kernel
theorem dX7_check_8 : decode cX7_check 8 = .ok (.iconst (-1), 1) := by decide +kernel
theorem dX7_check_9 : decode cX7_check 9 = .ok (.invokevirtual 101, 3) := by decide +kernel
theorem dX7_check_12 : decode cX7_check 12 = .ok (.ireturn, 1) := by decide +kernel
theorem dX7_check_13 : decode cX7_check 13 = .ok (.aload_n 0, 1) := by decide +kernel
theorem dX7_check_14 : decode cX7_check 14 = .ok (.iload_n 1, 1) := by decide +kernel
theorem dX7_check_15 : decode cX7_check 15 = .ok (.iload_n 2, 1) := by decide +kernel
theorem dX7_check_16 : decode cX7_check 16 = .ok (.iload_n 3, 1) := by decide +kernel
theorem dX7_check_17 : decode cX7_check 17 = .ok (.iload 4, 2) := by decide +kernel
theorem dX7_check_19 : decode cX7_check 19 = .ok (.i2l, 1) := by decide +kernel
theorem dX7_check_20 : decode cX7_check 20 = .ok (.invokevirtual 162, 3) := by decide +kernel
theorem dX7_check_23 : decode cX7_check 23 = .ok (.istore 5, 2) := by decide +kernel
theorem dX7_check_25 : decode cX7_check 25 = .ok (.iload 5, 2) := by decide +kernel
theorem dX7_check_27 : decode cX7_check 27 = .ok (.ifCond .ge 6, 3) := by decide +kernel
theorem dX7_check_30 : decode cX7_check 30 = .ok (.iload 5, 2) := by decide +kernel
theorem dX7_check_32 : decode cX7_check 32 = .ok (.ireturn, 1) := by decide +kernel
theorem dX7_check_33 : decode cX7_check 33 = .ok (.iload 4, 2) := by decide +kernel
theorem dX7_check_35 : decode cX7_check 35 = .ok (.aload_n 0, 1) := by decide +kernel
theorem dX7_check_36 : decode cX7_check 36 = .ok (.getfield 112, 3) := by decide +kernel
theorem dX7_check_39 : decode cX7_check 39 = .ok (.aload_n 0, 1) := by decide +kernel
theorem dX7_check_40 : decode cX7_check 40 = .ok (.getfield 115, 3) := by decide +kernel
theorem dX7_check_43 : decode cX7_check 43 = .ok (.imul, 1) := by decide +kernel
theorem dX7_check_44 : decode cX7_check 44 = .ok (.aload_n 0, 1) := by decide +kernel
theorem dX7_check_45 : decode cX7_check 45 = .ok (.getfield 115, 3) := by decide +kernel
theorem dX7_check_48 : decode cX7_check 48 = .ok (.iadd, 1) := by decide +kernel
theorem dX7_check_49 : decode cX7_check 49 = .ok (.if_icmp .eq 10, 3) := by decide +kernel
theorem dX7_check_52 : decode cX7_check 52 = .ok (.aload_n 0, 1) := by decide +kernel
theorem dX7_check_53 : decode cX7_check 53 = .ok (.bipush (-2), 2) := by decide +kernel
theorem dX7_check_55 : decode cX7_check 55 = .ok (.invokevirtual 101, 3) := by decide +kernel
theorem dX7_check_58 : decode cX7_check 58 = .ok (.ireturn, 1) := by decide +kernel
theorem dX7_check_59 : decode cX7_check 59 = .ok (.bipush 80, 2) := by decide +kernel
theorem dX7_check_61 : decode cX7_check 61 = .ok (.iload_n 1, 1) := by decide +kernel
theorem dX7_check_62 : decode cX7_check 62 = .ok (.imul, 1) := by decide +kernel
theorem dX7_check_63 : decode cX7_check 63 = .ok (.iload_n 3, 1) := by decide +kernel
theorem dX7_check_64 : decode cX7_check 64 = .ok (.iadd, 1) := by decide +kernel
theorem dX7_check_65 : decode cX7_check 65 = .ok (.istore 6, 2) := by decide +kernel
theorem dX7_check_67 : decode cX7_check 67 = .ok (.iload 6, 2) := by decide +kernel
theorem dX7_check_69 : decode cX7_check 69 = .ok (.aload_n 0, 1) := by decide +kernel
theorem dX7_check_70 : decode cX7_check 70 = .ok (.getfield 112, 3) := by decide +kernel
theorem dX7_check_73 : decode cX7_check 73 = .ok (.aload_n 0, 1) := by decide +kernel
theorem dX7_check_74 : decode cX7_check 74 = .ok (.getfield 115, 3) := by decide +kernel
theorem dX7_check_77 : decode cX7_check 77 = .ok (.imul, 1) := by decide +kernel
theorem dX7_check_78 : decode cX7_check 78 = .ok (.iadd, 1) := by decide +kernel
theorem dX7_check_79 : decode cX7_check 79 = .ok (.istore 7, 2) := by decide +kernel
theorem dX7_check_81 : decode cX7_check 81 = .ok (.iconst 1, 1) := by decide +kernel
theorem dX7_check_82 : decode cX7_check 82 = .ok (.istore 8, 2) := by decide +kernel
theorem dX7_check_84 : decode cX7_check 84 = .ok (.iconst 0, 1) := by decide +kernel
theorem dX7_check_85 : decode cX7_check 85 = .ok (.istore 9, 2) := by decide +kernel
theorem dX7_check_87 : decode cX7_check 87 = .ok (.iload 9, 2) := by decide +kernel
theorem dX7_check_89 : decode cX7_check 89 = .ok (.aload_n 0, 1) := by decide +kernel
theorem dX7_check_90 : decode cX7_check 90 = .ok (.getfield 115, 3) := by decide +kernel
theorem dX7_check_93 : decode cX7_check 93 = .ok (.if_icmp .ge 34, 3) := by decide +kernel
theorem dX7_check_96 : decode cX7_check 96 = .ok (.iload 8, 2) := by decide +kernel
theorem dX7_check_98 : decode cX7_check 98 = .ok (.ifCond .eq 20, 3) := by decide +kernel
theorem dX7_check_101 : decode cX7_check 101 = .ok (.aload_n 0, 1) := by decide +kernel
theorem dX7_check_102 : decode cX7_check 102 = .ok (.iload 9, 2) := by decide +kernel
theorem dX7_check_104 : decode cX7_check 104 = .ok (.iload 6, 2) := by decide +kernel
theorem dX7_check_106 : decode cX7_check 106 = .ok (.iload 7, 2) := by decide +kernel
theorem dX7_check_108 : decode cX7_check 108 = .ok (.invokevirtual 221, 3) := by decide +kernel
theorem dX7_check_111 : decode cX7_check 111 = .ok (.ifCond .eq 7, 3) := by decide +kernel
theorem dX7_check_114 : decode cX7_check 114 = .ok (.iconst 1, 1) := by decide +kernel
theorem dX7_check_115 : decode cX7_check 115 = .ok (.goto 4, 3) := by decide +kernel
theorem dX7_check_118 : decode cX7_check 118 = .ok (.iconst 0, 1) := by decide +kernel
theorem dX7_check_119 : decode cX7_check 119 = .ok (.istore 8, 2) := by decide +kernel
theorem dX7_check_121 : decode cX7_check 121 = .ok (.iinc 9 1, 3) := by decide +kernel
theorem dX7_check_124 : decode cX7_check 124 = .ok (.goto (-37), 3) := by decide +kernel
theorem dX7_check_127 : decode cX7_check 127 = .ok (.iconst 0, 1) := by decide +kernel
theorem dX7_check_128 : decode cX7_check 128 = .ok (.istore 9, 2) := by decide +kernel
theorem dX7_check_130 : decode cX7_check 130 = .ok (.iload 9, 2) := by decide +kernel
theorem dX7_check_132 : decode cX7_check 132 = .ok (.aload_n 0, 1) := by decide +kernel
theorem dX7_check_133 : decode cX7_check 133 = .ok (.getfield 112, 3) := by decide +kernel
theorem dX7_check_136 : decode cX7_check 136 = .ok (.if_icmp .ge 34, 3) := by decide +kernel
theorem dX7_check_139 : decode cX7_check 139 = .ok (.iload 8, 2) := by decide +kernel
theorem dX7_check_141 : decode cX7_check 141 = .ok (.ifCond .eq 20, 3) := by decide +kernel
theorem dX7_check_144 : decode cX7_check 144 = .ok (.aload_n 0, 1) := by decide +kernel
theorem dX7_check_145 : decode cX7_check 145 = .ok (.iload 9, 2) := by decide +kernel
theorem dX7_check_147 : decode cX7_check 147 = .ok (.iload 6, 2) := by decide +kernel
theorem dX7_check_149 : decode cX7_check 149 = .ok (.iload 7, 2) := by decide +kernel
theorem dX7_check_151 : decode cX7_check 151 = .ok (.invokevirtual 224, 3) := by decide +kernel
theorem dX7_check_154 : decode cX7_check 154 = .ok (.ifCond .eq 7, 3) := by decide +kernel
theorem dX7_check_157 : decode cX7_check 157 = .ok (.iconst 1, 1) := by decide +kernel
theorem dX7_check_158 : decode cX7_check 158 = .ok (.goto 4, 3) := by decide +kernel
theorem dX7_check_161 : decode cX7_check 161 = .ok (.iconst 0, 1) := by decide +kernel
theorem dX7_check_162 : decode cX7_check 162 = .ok (.istore 8, 2) := by decide +kernel
theorem dX7_check_164 : decode cX7_check 164 = .ok (.iinc 9 1, 3) := by decide +kernel
theorem dX7_check_167 : decode cX7_check 167 = .ok (.goto (-37), 3) := by decide +kernel
theorem dX7_check_170 : decode cX7_check 170 = .ok (.aload_n 0, 1) := by decide +kernel
theorem dX7_check_171 : decode cX7_check 171 = .ok (.iload 8, 2) := by decide +kernel
theorem dX7_check_173 : decode cX7_check 173 = .ok (.ifCond .eq 7, 3) := by decide +kernel
theorem dX7_check_176 : decode cX7_check 176 = .ok (.iconst 1, 1) := by decide +kernel
theorem dX7_check_177 : decode cX7_check 177 = .ok (.goto 4, 3) := by decide +kernel
theorem dX7_check_180 : decode cX7_check 180 = .ok (.iconst 0, 1) := by decide +kernel
theorem dX7_check_181 : decode cX7_check 181 = .ok (.invokevirtual 101, 3) := by decide +kernel
theorem dX7_check_184 : decode cX7_check 184 = .ok (.ireturn, 1) := by decide +kernel
theorem dX7_churchIn_0 : decode cX7_churchIn 0 = .ok (.iload_n 1, 1) := by decide +kernel
theorem dX7_churchIn_1 : decode cX7_churchIn 1 = .ok (.istore_n 3, 1) := by decide +kernel
theorem dX7_churchIn_2 : decode cX7_churchIn 2 = .ok (.aload_n 0, 1) := by decide +kernel
theorem dX7_churchIn_3 : decode cX7_churchIn 3 = .ok (.getfield 112, 3) := by decide +kernel
theorem dX7_churchIn_6 : decode cX7_churchIn 6 = .ok (.iconst 1, 1) := by decide +kernel
theorem dX7_churchIn_7 : decode cX7_churchIn 7 = .ok (.isub, 1) := by decide +kernel
theorem dX7_churchIn_8 : decode cX7_churchIn 8 = .ok (.istore 4, 2) := by decide +kernel
theorem dX7_churchIn_10 : decode cX7_churchIn 10 = .ok (.iload 4, 2) := by decide +kernel
theorem dX7_churchIn_12 : decode cX7_churchIn 12 = .ok (.iload_n 2, 1) := by decide +kernel
theorem dX7_churchIn_13 : decode cX7_churchIn 13 = .ok (.if_icmp .le 16, 3) := by decide +kernel
theorem dX7_churchIn_16 : decode cX7_churchIn 16 = .ok (.iload_n 3, 1) := by decide +kernel
theorem dX7_churchIn_17 : decode cX7_churchIn 17 = .ok (.aload_n 0, 1) := by decide +kernel
theorem dX7_churchIn_18 : decode cX7_churchIn 18 = .ok (.getfield 115, 3) := by decide +kernel
theorem dX7_churchIn_21 : decode cX7_churchIn 21 = .ok (.idiv, 1) := by decide +kernel
theorem dX7_churchIn_22 : decode cX7_churchIn 22 = .ok (.istore_n 3, 1) := by decide +kernel
theorem dX7_churchIn_23 : decode cX7_churchIn 23 = .ok (.iinc 4 (-1), 3) := by decide +kernel
theorem dX7_churchIn_26 : decode cX7_churchIn 26 = .ok (.goto (-16), 3) := by decide +kernel
theorem dX7_churchIn_29 : decode cX7_churchIn 29 = .ok (.iload_n 3, 1) := by decide +kernel
theorem dX7_churchIn_30 : decode cX7_churchIn 30 = .ok (.aload_n 0, 1) := by decide +kernel
theorem dX7_churchIn_31 : decode cX7_churchIn 31 = .ok (.getfield 115, 3) := by decide +kernel
theorem dX7_churchIn_34 : decode cX7_churchIn 34 = .ok (.irem, 1) := by decide +kernel
theorem dX7_churchIn_35 : decode cX7_churchIn 35 = .ok (.ireturn, 1) := by decide +kernel
theorem dX7_rowMiles_0 : decode cX7_rowMiles 0 = .ok (.iconst 0, 1) := by decide +kernel
theorem dX7_rowMiles_1 : decode cX7_rowMiles 1 = .ok (.istore_n 2, 1) := by decide +kernel
theorem dX7_rowMiles_2 : decode cX7_rowMiles 2 = .ok (.iconst 0, 1) := by decide +kernel
theorem dX7_rowMiles_3 : decode cX7_rowMiles 3 = .ok (.istore_n 3, 1) := by decide +kernel
theorem dX7_rowMiles_4 : decode cX7_rowMiles 4 = .ok (.iload_n 3, 1) := by decide +kernel
theorem dX7_rowMiles_5 : decode cX7_rowMiles 5 = .ok (.aload_n 0, 1) := by decide +kernel
theorem dX7_rowMiles_6 : decode cX7_rowMiles 6 = .ok (.getfield 115, 3) := by decide +kernel
theorem dX7_rowMiles_9 : decode cX7_rowMiles 9 = .ok (.if_icmp .ge 21, 3) := by decide +kernel
theorem dX7_rowMiles_12 : decode cX7_rowMiles 12 = .ok (.aload_n 0, 1) := by decide +kernel
theorem dX7_rowMiles_13 : decode cX7_rowMiles 13 = .ok (.getfield 41, 3) := by decide +kernel
theorem dX7_rowMiles_16 : decode cX7_rowMiles 16 = .ok (.iload_n 3, 1) := by decide +kernel
theorem dX7_rowMiles_17 : decode cX7_rowMiles 17 = .ok (.aload_n 0, 1) := by decide +kernel
theorem dX7_rowMiles_18 : decode cX7_rowMiles 18 = .ok (.getfield 28, 3) := by decide +kernel
theorem dX7_rowMiles_21 : decode cX7_rowMiles 21 = .ok (.iload_n 3, 1) := by decide +kernel
theorem dX7_rowMiles_22 : decode cX7_rowMiles 22 = .ok (.iaload, 1) := by decide +kernel
theorem dX7_rowMiles_23 : decode cX7_rowMiles 23 = .ok (.iastore, 1) := by decide +kernel
theorem dX7_rowMiles_24 : decode cX7_rowMiles 24 = .ok (.iinc 3 1, 3) := by decide +kernel
theorem dX7_rowMiles_27 : decode cX7_rowMiles 27 = .ok (.goto (-23), 3) := by decide +kernel
theorem dX7_rowMiles_30 : decode cX7_rowMiles 30 = .ok (.iconst 0, 1) := by decide +kernel
theorem dX7_rowMiles_31 : decode cX7_rowMiles 31 = .ok (.istore_n 3, 1) := by decide +kernel
theorem dX7_rowMiles_32 : decode cX7_rowMiles 32 = .ok (.iload_n 3, 1) := by decide +kernel
theorem dX7_rowMiles_33 : decode cX7_rowMiles 33 = .ok (.aload_n 0, 1) := by decide +kernel
theorem dX7_rowMiles_34 : decode cX7_rowMiles 34 = .ok (.getfield 112, 3) := by decide +kernel
theorem dX7_rowMiles_37 : decode cX7_rowMiles 37 = .ok (.if_icmp .ge 88, 3) := by decide +kernel
theorem dX7_rowMiles_40 : decode cX7_rowMiles 40 = .ok (.aload_n 0, 1) := by decide +kernel
theorem dX7_rowMiles_41 : decode cX7_rowMiles 41 = .ok (.iload_n 1, 1) := by decide +kernel
theorem dX7_rowMiles_42 : decode cX7_rowMiles 42 = .ok (.iload_n 3, 1) := by decide +kernel
theorem dX7_rowMiles_43 : decode cX7_rowMiles 43 = .ok (.invokevirtual 227, 3) := by decide +kernel
theorem dX7_rowMiles_46 : decode cX7_rowMiles 46 = .ok (.istore 4, 2) := by decide +kernel
theorem dX7_rowMiles_48 : decode cX7_rowMiles 48 = .ok (.aload_n 0, 1) := by decide +kernel
theorem dX7_rowMiles_49 : decode cX7_rowMiles 49 = .ok (.getfield 41, 3) := by decide +kernel
theorem dX7_rowMiles_52 : decode cX7_rowMiles 52 = .ok (.iload 4, 2) := by decide +kernel
theorem dX7_rowMiles_54 : decode cX7_rowMiles 54 = .ok (.dup2, 1) := by decide +kernel
theorem dX7_rowMiles_55 : decode cX7_rowMiles 55 = .ok (.iaload, 1) := by decide +kernel
theorem dX7_rowMiles_56 : decode cX7_rowMiles 56 = .ok (.aload_n 0, 1) := by decide +kernel
theorem dX7_rowMiles_57 : decode cX7_rowMiles 57 = .ok (.getfield 16, 3) := by decide +kernel
theorem dX7_rowMiles_60 : decode cX7_rowMiles 60 = .ok (.iload_n 3, 1) := by decide +kernel
theorem dX7_rowMiles_61 : decode cX7_rowMiles 61 = .ok (.iaload, 1) := by decide +kernel
theorem dX7_rowMiles_62 : decode cX7_rowMiles 62 = .ok (.isub, 1) := by decide +kernel
theorem dX7_rowMiles_63 : decode cX7_rowMiles 63 = .ok (.iastore, 1) := by decide +kernel
theorem dX7_rowMiles_64 : decode cX7_rowMiles 64 = .ok (.aload_n 0, 1) := by decide +kernel
theorem dX7_rowMiles_65 : decode cX7_rowMiles 65 = .ok (.getfield 41, 3) := by decide +kernel
theorem dX7_rowMiles_68 : decode cX7_rowMiles 68 = .ok (.iload 4, 2) := by decide +kernel
theorem dX7_rowMiles_70 : decode cX7_rowMiles 70 = .ok (.iaload, 1) := by decide +kernel
theorem dX7_rowMiles_71 : decode cX7_rowMiles 71 = .ok (.ifCond .lt 17, 3) := by decide +kernel
theorem dX7_rowMiles_74 : decode cX7_rowMiles 74 = .ok (.aload_n 0, 1) := by decide +kernel
theorem dX7_rowMiles_75 : decode cX7_rowMiles 75 = .ok (.getfield 31, 3) := by decide +kernel
theorem dX7_rowMiles_78 : decode cX7_rowMiles 78 = .ok (.iconst 5, 1) := by decide +kernel
theorem dX7_rowMiles_79 : decode cX7_rowMiles 79 = .ok (.iload_n 3, 1) := by decide +kernel
theorem dX7_rowMiles_80 : decode cX7_rowMiles 80 = .ok (.imul, 1) := by decide +kernel
theorem dX7_rowMiles_81 : decode cX7_rowMiles 81 = .ok (.iload 4, 2) := by decide +kernel
theorem dX7_rowMiles_83 : decode cX7_rowMiles 83 = .ok (.iadd, 1) := by decide +kernel
theorem dX7_rowMiles_84 : decode cX7_rowMiles 84 = .ok (.baload, 1) := by decide +kernel
theorem dX7_rowMiles_85 : decode cX7_rowMiles 85 = .ok (.ifCond .eq 6, 3) := by decide +kernel
theorem dX7_rowMiles_88 : decode cX7_rowMiles 88 = .ok (.bipush (-9), 2) := by decide +kernel
theorem dX7_rowMiles_90 : decode cX7_rowMiles 90 = .ok (.ireturn, 1) := by decide +kernel
theorem dX7_rowMiles_91 : decode cX7_rowMiles 91 = .ok (.iload_n 2, 1) := by decide +kernel
theorem dX7_rowMiles_92 : decode cX7_rowMiles 92 = .ok (.aload_n 0, 1) := by decide +kernel
theorem dX7_rowMiles_93 : decode cX7_rowMiles 93 = .ok (.getfield 16, 3) := by decide +kernel
theorem dX7_rowMiles_96 : decode cX7_rowMiles 96 = .ok (.iload_n 3, 1) := by decide +kernel
theorem dX7_rowMiles_97 : decode cX7_rowMiles 97 = .ok (.iaload, 1) := by decide +kernel
theorem dX7_rowMiles_98 : decode cX7_rowMiles 98 = .ok (.aload_n 0, 1) := by decide +kernel
theorem dX7_rowMiles_99 : decode cX7_rowMiles 99 = .ok (.aload_n 0, 1) := by decide +kernel
theorem dX7_rowMiles_100 : decode cX7_rowMiles 100 = .ok (.getfield 7, 3) := by decide +kernel
theorem dX7_rowMiles_103 : decode cX7_rowMiles 103 = .ok (.iload_n 3, 1) := by decide +kernel
theorem dX7_rowMiles_104 : decode cX7_rowMiles 104 = .ok (.iaload, 1) := by decide +kernel
theorem dX7_rowMiles_105 : decode cX7_rowMiles 105 = .ok (.aload_n 0, 1) := by decide +kernel
theorem dX7_rowMiles_106 : decode cX7_rowMiles 106 = .ok (.getfield 13, 3) := by decide +kernel
theorem dX7_rowMiles_109 : decode cX7_rowMiles 109 = .ok (.iload_n 3, 1) := by decide +kernel
theorem dX7_rowMiles_110 : decode cX7_rowMiles 110 = .ok (.iaload, 1) := by decide +kernel
theorem dX7_rowMiles_111 : decode cX7_rowMiles 111 = .ok (.iload 4, 2) := by decide +kernel
theorem dX7_rowMiles_113 : decode cX7_rowMiles 113 = .ok (.invokevirtual 181, 3) := by decide +kernel
theorem dX7_rowMiles_116 : decode cX7_rowMiles 116 = .ok (.imul, 1) := by decide +kernel
theorem dX7_rowMiles_117 : decode cX7_rowMiles 117 = .ok (.iadd, 1) := by decide +kernel
theorem dX7_rowMiles_118 : decode cX7_rowMiles 118 = .ok (.istore_n 2, 1) := by decide +kernel
theorem dX7_rowMiles_119 : decode cX7_rowMiles 119 = .ok (.iinc 3 1, 3) := by decide +kernel
theorem dX7_rowMiles_122 : decode cX7_rowMiles 122 = .ok (.goto (-90), 3) := by decide +kernel
theorem dX7_rowMiles_125 : decode cX7_rowMiles 125 = .ok (.iload_n 2, 1) := by decide +kernel
theorem dX7_rowMiles_126 : decode cX7_rowMiles 126 = .ok (.ireturn, 1) := by decide +kernel
theorem dX7_family_0 : decode cX7_family 0 = .ok (.iload_n 1, 1) := by decide +kernel
theorem dX7_family_1 : decode cX7_family 1 = .ok (.i2l, 1) := by decide +kernel
theorem dX7_family_2 : decode cX7_family 2 = .ok (.ldc2_w 230, 3) := by decide +kernel
theorem dX7_family_5 : decode cX7_family 5 = .ok (.aload_n 0, 1) := by decide +kernel
theorem dX7_family_6 : decode cX7_family 6 = .ok (.getfield 112, 3) := by decide +kernel
theorem dX7_family_9 : decode cX7_family 9 = .ok (.i2l, 1) := by decide +kernel
theorem dX7_family_10 : decode cX7_family 10 = .ok (.lconst 1, 1) := by decide +kernel
theorem dX7_family_11 : decode cX7_family 11 = .ok (.lsub, 1) := by decide +kernel
theorem dX7_family_12 : decode cX7_family 12 = .ok (.invokestatic 88, 3) := by decide +kernel
theorem dX7_family_15 : decode cX7_family 15 = .ok (.ifCond .ne 5, 3) := by decide +kernel
theorem dX7_family_18 : decode cX7_family 18 = .ok (.iconst (-1), 1) := by decide +kernel
theorem dX7_family_19 : decode cX7_family 19 = .ok (.ireturn, 1) := by decide +kernel
theorem dX7_family_20 : decode cX7_family 20 = .ok (.aload_n 0, 1) := by decide +kernel
theorem dX7_family_21 : decode cX7_family 21 = .ok (.getfield 112, 3) := by decide +kernel
theorem dX7_family_24 : decode cX7_family 24 = .ok (.bipush 7, 2) := by decide +kernel
theorem dX7_family_26 : decode cX7_family 26 = .ok (.if_icmp .le 6, 3) := by decide +kernel
theorem dX7_family_29 : decode cX7_family 29 = .ok (.bipush (-3), 2) := by decide +kernel
theorem dX7_family_31 : decode cX7_family 31 = .ok (.ireturn, 1) := by decide +kernel
theorem dX7_family_32 : decode cX7_family 32 = .ok (.iconst 1, 1) := by decide +kernel
theorem dX7_family_33 : decode cX7_family 33 = .ok (.istore_n 2, 1) := by decide +kernel
theorem dX7_family_34 : decode cX7_family 34 = .ok (.iconst 0, 1) := by decide +kernel
theorem dX7_family_35 : decode cX7_family 35 = .ok (.istore_n 3, 1) := by decide +kernel
theorem dX7_family_36 : decode cX7_family 36 = .ok (.iload_n 3, 1) := by decide +kernel
theorem dX7_family_37 : decode cX7_family 37 = .ok (.aload_n 0, 1) := by decide +kernel
theorem dX7_family_38 : decode cX7_family 38 = .ok (.getfield 112, 3) := by decide +kernel
theorem dX7_family_41 : decode cX7_family 41 = .ok (.if_icmp .ge 16, 3) := by decide +kernel
theorem dX7_family_44 : decode cX7_family 44 = .ok (.iload_n 2, 1) := by decide +kernel
theorem dX7_family_45 : decode cX7_family 45 = .ok (.aload_n 0, 1) := by decide +kernel
theorem dX7_family_46 : decode cX7_family 46 = .ok (.getfield 115, 3) := by decide +kernel
theorem dX7_family_49 : decode cX7_family 49 = .ok (.imul, 1) := by decide +kernel
theorem dX7_family_50 : decode cX7_family 50 = .ok (.istore_n 2, 1) := by decide +kernel
theorem dX7_family_51 : decode cX7_family 51 = .ok (.iinc 3 1, 3) := by decide +kernel
theorem dX7_family_54 : decode cX7_family 54 = .ok (.goto (-18), 3) := by decide +kernel
theorem dX7_family_57 : decode cX7_family 57 = .ok (.bipush (-9), 2) := by decide +kernel
theorem dX7_family_59 : decode cX7_family 59 = .ok (.istore_n 3, 1) := by decide +kernel
theorem dX7_family_60 : decode cX7_family 60 = .ok (.iconst 0, 1) := by decide +kernel
theorem dX7_family_61 : decode cX7_family 61 = .ok (.istore 4, 2) := by decide +kernel
theorem dX7_family_63 : decode cX7_family 63 = .ok (.iconst 0, 1) := by decide +kernel
theorem dX7_family_64 : decode cX7_family 64 = .ok (.istore 5, 2) := by decide +kernel
theorem dX7_family_66 : decode cX7_family 66 = .ok (.iload 5, 2) := by decide +kernel
theorem dX7_family_68 : decode cX7_family 68 = .ok (.iload_n 2, 1) := by decide +kernel
theorem dX7_family_69 : decode cX7_family 69 = .ok (.if_icmp .ge 40, 3) := by decide +kernel
theorem dX7_family_72 : decode cX7_family 72 = .ok (.aload_n 0, 1) := by decide +kernel
theorem dX7_family_73 : decode cX7_family 73 = .ok (.iload 5, 2) := by decide +kernel
theorem dX7_family_75 : decode cX7_family 75 = .ok (.invokevirtual 232, 3) := by decide +kernel
theorem dX7_family_78 : decode cX7_family 78 = .ok (.istore 6, 2) := by decide +kernel
theorem dX7_family_80 : decode cX7_family 80 = .ok (.iload 6, 2) := by decide +kernel
theorem dX7_family_82 : decode cX7_family 82 = .ok (.ifCond .lt 21, 3) := by decide +kernel
theorem dX7_family_85 : decode cX7_family 85 = .ok (.iload_n 3, 1) := by decide +kernel
theorem dX7_family_86 : decode cX7_family 86 = .ok (.ifCond .lt 10, 3) := by decide +kernel
theorem dX7_family_89 : decode cX7_family 89 = .ok (.iload 6, 2) := by decide +kernel
theorem dX7_family_91 : decode cX7_family 91 = .ok (.iload 4, 2) := by decide +kernel
theorem dX7_family_93 : decode cX7_family 93 = .ok (.if_icmp .ge 10, 3) := by decide +kernel
theorem dX7_family_96 : decode cX7_family 96 = .ok (.iload 5, 2) := by decide +kernel
theorem dX7_family_98 : decode cX7_family 98 = .ok (.istore_n 3, 1) := by decide +kernel
theorem dX7_family_99 : decode cX7_family 99 = .ok (.iload 6, 2) := by decide +kernel
theorem dX7_family_101 : decode cX7_family 101 = .ok (.istore 4, 2) := by decide +kernel
theorem dX7_family_103 : decode cX7_family 103 = .ok (.iinc 5 1, 3) := by decide +kernel
theorem dX7_family_106 : decode cX7_family 106 = .ok (.goto (-40), 3) := by decide +kernel
theorem dX7_family_109 : decode cX7_family 109 = .ok (.iload_n 3, 1) := by decide +kernel
theorem dX7_family_110 : decode cX7_family 110 = .ok (.ifCond .ge 8, 3) := by decide +kernel
theorem dX7_family_113 : decode cX7_family 113 = .ok (.bipush (-9), 2) := by decide +kernel
theorem dX7_family_115 : decode cX7_family 115 = .ok (.goto 18, 3) := by decide +kernel
theorem dX7_family_118 : decode cX7_family 118 = .ok (.iload_n 1, 1) := by decide +kernel
theorem dX7_family_119 : decode cX7_family 119 = .ok (.ifCond .ge 8, 3) := by decide +kernel
theorem dX7_family_122 : decode cX7_family 122 = .ok (.iload 4, 2) := by decide +kernel
theorem dX7_family_124 : decode cX7_family 124 = .ok (.goto 9, 3) := by decide +kernel
theorem dX7_family_127 : decode cX7_family 127 = .ok (.aload_n 0, 1) := by decide +kernel
theorem dX7_family_128 : decode cX7_family 128 = .ok (.iload_n 3, 1) := by decide +kernel
theorem dX7_family_129 : decode cX7_family 129 = .ok (.iload_n 1, 1) := by decide +kernel
theorem dX7_family_130 : decode cX7_family 130 = .ok (.invokevirtual 227, 3) := by decide +kernel
theorem dX7_family_133 : decode cX7_family 133 = .ok (.ireturn, 1) := by decide +kernel
theorem dX7_even_0 : decode cX7_even 0 = .ok (.iload_n 1, 1) := by decide +kernel
theorem dX7_even_1 : decode cX7_even 1 = .ok (.i2l, 1) := by decide +kernel
theorem dX7_even_2 : decode cX7_even 2 = .ok (.lconst 0, 1) := by decide +kernel
theorem dX7_even_3 : decode cX7_even 3 = .ok (.lconst 1, 1) := by decide +kernel
theorem dX7_even_4 : decode cX7_even 4 = .ok (.invokestatic 88, 3) := by decide +kernel
theorem dX7_even_7 : decode cX7_even 7 = .ok (.ifCond .ne 6, 3) := by decide +kernel
theorem dX7_even_10 : decode cX7_even 10 = .ok (.bipush (-2), 2) := by decide +kernel
theorem dX7_even_12 : decode cX7_even 12 = .ok (.ireturn, 1) := by decide +kernel
theorem dX7_even_13 : decode cX7_even 13 = .ok (.bipush (-9), 2) := by decide +kernel
theorem dX7_even_15 : decode cX7_even 15 = .ok (.istore_n 2, 1) := by decide +kernel
theorem dX7_even_16 : decode cX7_even 16 = .ok (.bipush (-9), 2) := by decide +kernel
theorem dX7_even_18 : decode cX7_even 18 = .ok (.istore_n 3, 1) := by decide +kernel
theorem dX7_even_19 : decode cX7_even 19 = .ok (.aload_n 0, 1) := by decide +kernel
theorem dX7_even_20 : decode cX7_even 20 = .ok (.getfield 112, 3) := by decide +kernel
theorem dX7_even_23 : decode cX7_even 23 = .ok (.ifCond .ne 5, 3) := by decide +kernel
theorem dX7_even_26 : decode cX7_even 26 = .ok (.iconst 0, 1) := by decide +kernel
theorem dX7_even_27 : decode cX7_even 27 = .ok (.ireturn, 1) := by decide +kernel
theorem dX7_even_28 : decode cX7_even 28 = .ok (.iconst 0, 1) := by decide +kernel
theorem dX7_even_29 : decode cX7_even 29 = .ok (.istore 4, 2) := by decide +kernel
theorem dX7_even_31 : decode cX7_even 31 = .ok (.iload 4, 2) := by decide +kernel
theorem dX7_even_33 : decode cX7_even 33 = .ok (.aload_n 0, 1) := by decide +kernel
theorem dX7_even_34 : decode cX7_even 34 = .ok (.getfield 112, 3) := by decide +kernel
theorem dX7_even_37 : decode cX7_even 37 = .ok (.if_icmp .ge 95, 3) := by decide +kernel
theorem dX7_even_40 : decode cX7_even 40 = .ok (.iconst 0, 1) := by decide +kernel
theorem dX7_even_41 : decode cX7_even 41 = .ok (.istore 5, 2) := by decide +kernel
theorem dX7_even_43 : decode cX7_even 43 = .ok (.iload 5, 2) := by decide +kernel
theorem dX7_even_45 : decode cX7_even 45 = .ok (.aload_n 0, 1) := by decide +kernel
theorem dX7_even_46 : decode cX7_even 46 = .ok (.getfield 115, 3) := by decide +kernel
theorem dX7_even_49 : decode cX7_even 49 = .ok (.if_icmp .ge 77, 3) := by decide +kernel
theorem dX7_even_52 : decode cX7_even 52 = .ok (.aload_n 0, 1) := by decide +kernel
theorem dX7_even_53 : decode cX7_even 53 = .ok (.aload_n 0, 1) := by decide +kernel
theorem dX7_even_54 : decode cX7_even 54 = .ok (.getfield 7, 3) := by decide +kernel
theorem dX7_even_57 : decode cX7_even 57 = .ok (.iload 4, 2) := by decide +kernel
theorem dX7_even_59 : decode cX7_even 59 = .ok (.iaload, 1) := by decide +kernel
theorem dX7_even_60 : decode cX7_even 60 = .ok (.aload_n 0, 1) := by decide +kernel
theorem dX7_even_61 : decode cX7_even 61 = .ok (.getfield 13, 3) := by decide +kernel
theorem dX7_even_64 : decode cX7_even 64 = .ok (.iload 4, 2) := by decide +kernel
theorem dX7_even_66 : decode cX7_even 66 = .ok (.iaload, 1) := by decide +kernel
theorem dX7_even_67 : decode cX7_even 67 = .ok (.iload 5, 2) := by decide +kernel
theorem dX7_even_69 : decode cX7_even 69 = .ok (.invokevirtual 181, 3) := by decide +kernel
theorem dX7_even_72 : decode cX7_even 72 = .ok (.istore 6, 2) := by decide +kernel
theorem dX7_even_74 : decode cX7_even 74 = .ok (.iload_n 2, 1) := by decide +kernel
theorem dX7_even_75 : decode cX7_even 75 = .ok (.ifCond .lt 9, 3) := by decide +kernel
theorem dX7_even_78 : decode cX7_even 78 = .ok (.iload 6, 2) := by decide +kernel
theorem dX7_even_80 : decode cX7_even 80 = .ok (.iload_n 2, 1) := by decide +kernel
theorem dX7_even_81 : decode cX7_even 81 = .ok (.if_icmp .ge 39, 3) := by decide +kernel
theorem dX7_even_84 : decode cX7_even 84 = .ok (.aload_n 0, 1) := by decide +kernel
theorem dX7_even_85 : decode cX7_even 85 = .ok (.iload 6, 2) := by decide +kernel
theorem dX7_even_87 : decode cX7_even 87 = .ok (.invokevirtual 200, 3) := by decide +kernel
theorem dX7_even_90 : decode cX7_even 90 = .ok (.aload_n 0, 1) := by decide +kernel
theorem dX7_even_91 : decode cX7_even 91 = .ok (.invokevirtual 203, 3) := by decide +kernel
theorem dX7_even_94 : decode cX7_even 94 = .ok (.istore 7, 2) := by decide +kernel
theorem dX7_even_96 : decode cX7_even 96 = .ok (.iload 7, 2) := by decide +kernel
theorem dX7_even_98 : decode cX7_even 98 = .ok (.ifCond .ge 7, 3) := by decide +kernel
theorem dX7_even_101 : decode cX7_even 101 = .ok (.iload_n 2, 1) := by decide +kernel
theorem dX7_even_102 : decode cX7_even 102 = .ok (.goto 5, 3) := by decide +kernel
theorem dX7_even_105 : decode cX7_even 105 = .ok (.iload 6, 2) := by decide +kernel
theorem dX7_even_107 : decode cX7_even 107 = .ok (.istore_n 2, 1) := by decide +kernel
theorem dX7_even_108 : decode cX7_even 108 = .ok (.iload 7, 2) := by decide +kernel
theorem dX7_even_110 : decode cX7_even 110 = .ok (.ifCond .ge 7, 3) := by decide +kernel
theorem dX7_even_113 : decode cX7_even 113 = .ok (.iload_n 3, 1) := by decide +kernel
theorem dX7_even_114 : decode cX7_even 114 = .ok (.goto 5, 3) := by decide +kernel
theorem dX7_even_117 : decode cX7_even 117 = .ok (.iload 7, 2) := by decide +kernel
theorem dX7_even_119 : decode cX7_even 119 = .ok (.istore_n 3, 1) := by decide +kernel
theorem dX7_even_120 : decode cX7_even 120 = .ok (.iinc 5 1, 3) := by decide +kernel
theorem dX7_even_123 : decode cX7_even 123 = .ok (.goto (-80), 3) := by decide +kernel
theorem dX7_even_126 : decode cX7_even 126 = .ok (.iinc 4 1, 3) := by decide +kernel
theorem dX7_even_129 : decode cX7_even 129 = .ok (.goto (-98), 3) := by decide +kernel
theorem dX7_even_132 : decode cX7_even 132 = .ok (.iload_n 1, 1) := by decide +kernel
theorem dX7_even_133 : decode cX7_even 133 = .ok (.ifCond .ne 7, 3) := by decide +kernel
theorem dX7_even_136 : decode cX7_even 136 = .ok (.iload_n 2, 1) := by decide +kernel
theorem dX7_even_137 : decode cX7_even 137 = .ok (.goto 4, 3) := by decide +kernel
theorem dX7_even_140 : decode cX7_even 140 = .ok (.iload_n 3, 1) := by decide +kernel
theorem dX7_even_141 : decode cX7_even 141 = .ok (.ireturn, 1) := by decide +kernel
theorem dX7_common_0 : decode cX7_common 0 = .ok (.lload_n 0, 1) := by decide +kernel
theorem dX7_common_1 : decode cX7_common 1 = .ok (.lconst 0, 1) := by decide +kernel
theorem dX7_common_2 : decode cX7_common 2 = .ok (.lcmp, 1) := by decide +kernel
theorem dX7_common_3 : decode cX7_common 3 = .ok (.ifCond .ge 8, 3) := by decide +kernel
theorem dX7_common_6 : decode cX7_common 6 = .ok (.lload_n 0, 1) := by decide +kernel
theorem dX7_common_7 : decode cX7_common 7 = .ok (.lneg, 1) := by decide +kernel
theorem dX7_common_8 : decode cX7_common 8 = .ok (.goto 4, 3) := by decide +kernel
theorem dX7_common_11 : decode cX7_common 11 = .ok (.lload_n 0, 1) := by decide +kernel
theorem dX7_common_12 : decode cX7_common 12 = .ok (.lstore 4, 2) := by decide +kernel
theorem dX7_common_14 : decode cX7_common 14 = .ok (.lload_n 2, 1) := by decide +kernel
theorem dX7_common_15 : decode cX7_common 15 = .ok (.lconst 0, 1) := by decide +kernel
theorem dX7_common_16 : decode cX7_common 16 = .ok (.lcmp, 1) := by decide +kernel
theorem dX7_common_17 : decode cX7_common 17 = .ok (.ifCond .ge 8, 3) := by decide +kernel
theorem dX7_common_20 : decode cX7_common 20 = .ok (.lload_n 2, 1) := by decide +kernel
theorem dX7_common_21 : decode cX7_common 21 = .ok (.lneg, 1) := by decide +kernel
theorem dX7_common_22 : decode cX7_common 22 = .ok (.goto 4, 3) := by decide +kernel
theorem dX7_common_25 : decode cX7_common 25 = .ok (.lload_n 2, 1) := by decide +kernel
theorem dX7_common_26 : decode cX7_common 26 = .ok (.lstore 6, 2) := by decide +kernel
theorem dX7_common_28 : decode cX7_common 28 = .ok (.lload 6, 2) := by decide +kernel
theorem dX7_common_30 : decode cX7_common 30 = .ok (.lconst 0, 1) := by decide +kernel
theorem dX7_common_31 : decode cX7_common 31 = .ok (.lcmp, 1) := by decide +kernel
theorem dX7_common_32 : decode cX7_common 32 = .ok (.ifCond .eq 21, 3) := by decide +kernel
theorem dX7_common_35 : decode cX7_common 35 = .ok (.lload 4, 2) := by decide +kernel
theorem dX7_common_37 : decode cX7_common 37 = .ok (.lload 6, 2) := by decide +kernel
theorem dX7_common_39 : decode cX7_common 39 = .ok (.lrem, 1) := by decide +kernel
theorem dX7_common_40 : decode cX7_common 40 = .ok (.lstore 8, 2) := by decide +kernel
theorem dX7_common_42 : decode cX7_common 42 = .ok (.lload 6, 2) := by decide +kernel
theorem dX7_common_44 : decode cX7_common 44 = .ok (.lstore 4, 2) := by decide +kernel
theorem dX7_common_46 : decode cX7_common 46 = .ok (.lload 8, 2) := by decide +kernel
theorem dX7_common_48 : decode cX7_common 48 = .ok (.lstore 6, 2) := by decide +kernel
theorem dX7_common_50 : decode cX7_common 50 = .ok (.goto (-22), 3) := by decide +kernel
theorem dX7_common_53 : decode cX7_common 53 = .ok (.lload 4, 2) := by decide +kernel
theorem dX7_common_55 : decode cX7_common 55 = .ok (.lreturn, 1) := by decide +kernel
theorem dX7_border_0 : decode cX7_border 0 = .ok (.aload_n 0, 1) := by decide +kernel
theorem dX7_border_1 : decode cX7_border 1 = .ok (.iload_n 1, 1) := by decide +kernel
theorem dX7_border_2 : decode cX7_border 2 = .ok (.invokevirtual 173, 3) := by decide +kernel
theorem dX7_border_5 : decode cX7_border 5 = .ok (.ifCond .ne 28, 3) := by decide +kernel
theorem dX7_border_8 : decode cX7_border 8 = .ok (.aload_n 0, 1) := by decide +kernel
theorem dX7_border_9 : decode cX7_border 9 = .ok (.iload_n 2, 1) := by decide +kernel
theorem dX7_border_10 : decode cX7_border 10 = .ok (.invokevirtual 173, 3) := by decide +kernel
theorem dX7_border_13 : decode cX7_border 13 = .ok (.ifCond .ne 20, 3) := by decide +kernel
theorem dX7_border_16 : decode cX7_border 16 = .ok (.iload_n 3, 1) := by decide +kernel
theorem dX7_border_17 : decode cX7_border 17 = .ok (.i2l, 1) := by decide +kernel
theorem dX7_border_18 : decode cX7_border 18 = .ok (.lconst 0, 1) := by decide +kernel
theorem dX7_border_19 : decode cX7_border 19 = .ok (.ldc2_w 99, 3) := by decide +kernel
theorem dX7_border_22 : decode cX7_border 22 = .ok (.invokestatic 88, 3) := by decide +kernel
theorem dX7_border_25 : decode cX7_border 25 = .ok (.ifCond .eq 8, 3) := by decide +kernel
theorem dX7_border_28 : decode cX7_border 28 = .ok (.iload_n 1, 1) := by decide +kernel
theorem dX7_border_29 : decode cX7_border 29 = .ok (.iload_n 2, 1) := by decide +kernel
theorem dX7_border_30 : decode cX7_border 30 = .ok (.if_icmp .ne 7, 3) := by decide +kernel
theorem dX7_border_33 : decode cX7_border 33 = .ok (.invokestatic 95, 3) := by decide +kernel
theorem dX7_border_36 : decode cX7_border 36 = .ok (.lreturn, 1) := by decide +kernel
theorem dX7_border_37 : decode cX7_border 37 = .ok (.ldc2_w 99, 3) := by decide +kernel
theorem dX7_border_40 : decode cX7_border 40 = .ok (.aload_n 0, 1) := by decide +kernel
theorem dX7_border_41 : decode cX7_border 41 = .ok (.getfield 22, 3) := by decide +kernel
theorem dX7_border_44 : decode cX7_border 44 = .ok (.iload_n 2, 1) := by decide +kernel
theorem dX7_border_45 : decode cX7_border 45 = .ok (.iaload, 1) := by decide +kernel
theorem dX7_border_46 : decode cX7_border 46 = .ok (.aload_n 0, 1) := by decide +kernel
theorem dX7_border_47 : decode cX7_border 47 = .ok (.getfield 22, 3) := by decide +kernel
theorem dX7_border_50 : decode cX7_border 50 = .ok (.iload_n 1, 1) := by decide +kernel
theorem dX7_border_51 : decode cX7_border 51 = .ok (.iaload, 1) := by decide +kernel
theorem dX7_border_52 : decode cX7_border 52 = .ok (.isub, 1) := by decide +kernel
theorem dX7_border_53 : decode cX7_border 53 = .ok (.i2l, 1) := by decide +kernel
theorem dX7_border_54 : decode cX7_border 54 = .ok (.lmul, 1) := by decide +kernel
theorem dX7_border_55 : decode cX7_border 55 = .ok (.lstore 4, 2) := by decide +kernel
theorem dX7_border_57 : decode cX7_border 57 = .ok (.ldc2_w 99, 3) := by decide +kernel
theorem dX7_border_60 : decode cX7_border 60 = .ok (.aload_n 0, 1) := by decide +kernel
theorem dX7_border_61 : decode cX7_border 61 = .ok (.getfield 25, 3) := by decide +kernel
theorem dX7_border_64 : decode cX7_border 64 = .ok (.iload_n 2, 1) := by decide +kernel
theorem dX7_border_65 : decode cX7_border 65 = .ok (.iaload, 1) := by decide +kernel
theorem dX7_border_66 : decode cX7_border 66 = .ok (.aload_n 0, 1) := by decide +kernel
theorem dX7_border_67 : decode cX7_border 67 = .ok (.getfield 25, 3) := by decide +kernel
theorem dX7_border_70 : decode cX7_border 70 = .ok (.iload_n 1, 1) := by decide +kernel
theorem dX7_border_71 : decode cX7_border 71 = .ok (.iaload, 1) := by decide +kernel
theorem dX7_border_72 : decode cX7_border 72 = .ok (.isub, 1) := by decide +kernel
theorem dX7_border_73 : decode cX7_border 73 = .ok (.i2l, 1) := by decide +kernel
theorem dX7_border_74 : decode cX7_border 74 = .ok (.lmul, 1) := by decide +kernel
theorem dX7_border_75 : decode cX7_border 75 = .ok (.lstore 6, 2) := by decide +kernel
theorem dX7_border_77 : decode cX7_border 77 = .ok (.aload_n 0, 1) := by decide +kernel
theorem dX7_border_78 : decode cX7_border 78 = .ok (.getfield 19, 3) := by decide +kernel
theorem dX7_border_81 : decode cX7_border 81 = .ok (.iload_n 1, 1) := by decide +kernel
theorem dX7_border_82 : decode cX7_border 82 = .ok (.iaload, 1) := by decide +kernel
theorem dX7_border_83 : decode cX7_border 83 = .ok (.ifCond .ne 33, 3) := by decide +kernel
theorem dX7_border_86 : decode cX7_border 86 = .ok (.aload_n 0, 1) := by decide +kernel
theorem dX7_border_87 : decode cX7_border 87 = .ok (.getfield 19, 3) := by decide +kernel
theorem dX7_border_90 : decode cX7_border 90 = .ok (.iload_n 2, 1) := by decide +kernel
theorem dX7_border_91 : decode cX7_border 91 = .ok (.iaload, 1) := by decide +kernel
theorem dX7_border_92 : decode cX7_border 92 = .ok (.ifCond .ne 24, 3) := by decide +kernel
theorem dX7_border_95 : decode cX7_border 95 = .ok (.lload 4, 2) := by decide +kernel
theorem dX7_border_97 : decode cX7_border 97 = .ok (.lconst 0, 1) := by decide +kernel
theorem dX7_border_98 : decode cX7_border 98 = .ok (.lcmp, 1) := by decide +kernel
theorem dX7_border_99 : decode cX7_border 99 = .ok (.ifCond .ne 10, 3) := by decide +kernel
theorem dX7_border_102 : decode cX7_border 102 = .ok (.lload 6, 2) := by decide +kernel
theorem dX7_border_104 : decode cX7_border 104 = .ok (.lconst 0, 1) := by decide +kernel
theorem dX7_border_105 : decode cX7_border 105 = .ok (.lcmp, 1) := by decide +kernel
theorem dX7_border_106 : decode cX7_border 106 = .ok (.ifCond .eq 10, 3) := by decide +kernel
theorem dX7_border_109 : decode cX7_border 109 = .ok (.aload_n 0, 1) := by decide +kernel
theorem dX7_border_110 : decode cX7_border 110 = .ok (.invokevirtual 213, 3) := by decide +kernel
theorem dX7_border_113 : decode cX7_border 113 = .ok (.ifCond .ne 7, 3) := by decide +kernel
theorem dX7_border_116 : decode cX7_border 116 = .ok (.invokestatic 95, 3) := by decide +kernel
theorem dX7_border_119 : decode cX7_border 119 = .ok (.lreturn, 1) := by decide +kernel
theorem dX7_border_120 : decode cX7_border 120 = .ok (.lconst 0, 1) := by decide +kernel
theorem dX7_border_121 : decode cX7_border 121 = .ok (.aload_n 0, 1) := by decide +kernel
theorem dX7_border_122 : decode cX7_border 122 = .ok (.getfield 22, 3) := by decide +kernel
theorem dX7_border_125 : decode cX7_border 125 = .ok (.iload_n 2, 1) := by decide +kernel
theorem dX7_border_126 : decode cX7_border 126 = .ok (.iaload, 1) := by decide +kernel
theorem dX7_border_127 : decode cX7_border 127 = .ok (.aload_n 0, 1) := by decide +kernel
theorem dX7_border_128 : decode cX7_border 128 = .ok (.getfield 22, 3) := by decide +kernel
theorem dX7_border_131 : decode cX7_border 131 = .ok (.iload_n 2, 1) := by decide +kernel
theorem dX7_border_132 : decode cX7_border 132 = .ok (.iaload, 1) := by decide +kernel
theorem dX7_border_133 : decode cX7_border 133 = .ok (.imul, 1) := by decide +kernel
theorem dX7_border_134 : decode cX7_border 134 = .ok (.i2l, 1) := by decide +kernel
theorem dX7_border_135 : decode cX7_border 135 = .ok (.ladd, 1) := by decide +kernel
theorem dX7_border_136 : decode cX7_border 136 = .ok (.aload_n 0, 1) := by decide +kernel
theorem dX7_border_137 : decode cX7_border 137 = .ok (.getfield 25, 3) := by decide +kernel
theorem dX7_border_140 : decode cX7_border 140 = .ok (.iload_n 2, 1) := by decide +kernel
theorem dX7_border_141 : decode cX7_border 141 = .ok (.iaload, 1) := by decide +kernel
theorem dX7_border_142 : decode cX7_border 142 = .ok (.aload_n 0, 1) := by decide +kernel
theorem dX7_border_143 : decode cX7_border 143 = .ok (.getfield 25, 3) := by decide +kernel
theorem dX7_border_146 : decode cX7_border 146 = .ok (.iload_n 2, 1) := by decide +kernel
theorem dX7_border_147 : decode cX7_border 147 = .ok (.iaload, 1) := by decide +kernel
theorem dX7_border_148 : decode cX7_border 148 = .ok (.imul, 1) := by decide +kernel
theorem dX7_border_149 : decode cX7_border 149 = .ok (.i2l, 1) := by decide +kernel
theorem dX7_border_150 : decode cX7_border 150 = .ok (.ladd, 1) := by decide +kernel
theorem dX7_border_151 : decode cX7_border 151 = .ok (.aload_n 0, 1) := by decide +kernel
theorem dX7_border_152 : decode cX7_border 152 = .ok (.getfield 59, 3) := by decide +kernel
theorem dX7_border_155 : decode cX7_border 155 = .ok (.iload_n 2, 1) := by decide +kernel
theorem dX7_border_156 : decode cX7_border 156 = .ok (.iaload, 1) := by decide +kernel
theorem dX7_border_157 : decode cX7_border 157 = .ok (.i2l, 1) := by decide +kernel
theorem dX7_border_158 : decode cX7_border 158 = .ok (.ladd, 1) := by decide +kernel
theorem dX7_border_159 : decode cX7_border 159 = .ok (.lstore 8, 2) := by decide +kernel
theorem dX7_border_161 : decode cX7_border 161 = .ok (.lload 8, 2) := by decide +kernel
theorem dX7_border_163 : decode cX7_border 163 = .ok (.lconst 0, 1) := by decide +kernel
theorem dX7_border_164 : decode cX7_border 164 = .ok (.aload_n 0, 1) := by decide +kernel
theorem dX7_border_165 : decode cX7_border 165 = .ok (.getfield 22, 3) := by decide +kernel
theorem dX7_border_168 : decode cX7_border 168 = .ok (.iload_n 1, 1) := by decide +kernel
theorem dX7_border_169 : decode cX7_border 169 = .ok (.iaload, 1) := by decide +kernel
theorem dX7_border_170 : decode cX7_border 170 = .ok (.aload_n 0, 1) := by decide +kernel
theorem dX7_border_171 : decode cX7_border 171 = .ok (.getfield 22, 3) := by decide +kernel
theorem dX7_border_174 : decode cX7_border 174 = .ok (.iload_n 1, 1) := by decide +kernel
theorem dX7_border_175 : decode cX7_border 175 = .ok (.iaload, 1) := by decide +kernel
theorem dX7_border_176 : decode cX7_border 176 = .ok (.imul, 1) := by decide +kernel
theorem dX7_border_177 : decode cX7_border 177 = .ok (.i2l, 1) := by decide +kernel
theorem dX7_border_178 : decode cX7_border 178 = .ok (.ladd, 1) := by decide +kernel
theorem dX7_border_179 : decode cX7_border 179 = .ok (.aload_n 0, 1) := by decide +kernel
theorem dX7_border_180 : decode cX7_border 180 = .ok (.getfield 25, 3) := by decide +kernel
theorem dX7_border_183 : decode cX7_border 183 = .ok (.iload_n 1, 1) := by decide +kernel
theorem dX7_border_184 : decode cX7_border 184 = .ok (.iaload, 1) := by decide +kernel
theorem dX7_border_185 : decode cX7_border 185 = .ok (.aload_n 0, 1) := by decide +kernel
theorem dX7_border_186 : decode cX7_border 186 = .ok (.getfield 25, 3) := by decide +kernel
theorem dX7_border_189 : decode cX7_border 189 = .ok (.iload_n 1, 1) := by decide +kernel
theorem dX7_border_190 : decode cX7_border 190 = .ok (.iaload, 1) := by decide +kernel
theorem dX7_border_191 : decode cX7_border 191 = .ok (.imul, 1) := by decide +kernel
theorem dX7_border_192 : decode cX7_border 192 = .ok (.i2l, 1) := by decide +kernel
theorem dX7_border_193 : decode cX7_border 193 = .ok (.ladd, 1) := by decide +kernel
theorem dX7_border_194 : decode cX7_border 194 = .ok (.aload_n 0, 1) := by decide +kernel
theorem dX7_border_195 : decode cX7_border 195 = .ok (.getfield 59, 3) := by decide +kernel
theorem dX7_border_198 : decode cX7_border 198 = .ok (.iload_n 1, 1) := by decide +kernel
theorem dX7_border_199 : decode cX7_border 199 = .ok (.iaload, 1) := by decide +kernel
theorem dX7_border_200 : decode cX7_border 200 = .ok (.i2l, 1) := by decide +kernel
theorem dX7_border_201 : decode cX7_border 201 = .ok (.ladd, 1) := by decide +kernel
theorem dX7_border_202 : decode cX7_border 202 = .ok (.lsub, 1) := by decide +kernel
theorem dX7_border_203 : decode cX7_border 203 = .ok (.lstore 8, 2) := by decide +kernel
theorem dX7_border_205 : decode cX7_border 205 = .ok (.lload 4, 2) := by decide +kernel
theorem dX7_border_207 : decode cX7_border 207 = .ok (.lload 6, 2) := by decide +kernel
theorem dX7_border_209 : decode cX7_border 209 = .ok (.invokestatic 235, 3) := by decide +kernel
theorem dX7_border_212 : decode cX7_border 212 = .ok (.lload 8, 2) := by decide +kernel
theorem dX7_border_214 : decode cX7_border 214 = .ok (.invokestatic 235, 3) := by decide +kernel
theorem dX7_border_217 : decode cX7_border 217 = .ok (.lstore 10, 2) := by decide +kernel
theorem dX7_border_219 : decode cX7_border 219 = .ok (.lload 4, 2) := by decide +kernel
theorem dX7_border_221 : decode cX7_border 221 = .ok (.lconst 0, 1) := by decide +kernel
theorem dX7_border_222 : decode cX7_border 222 = .ok (.lcmp, 1) := by decide +kernel
theorem dX7_border_223 : decode cX7_border 223 = .ok (.ifCond .lt 17, 3) := by decide +kernel
theorem dX7_border_226 : decode cX7_border 226 = .ok (.lload 4, 2) := by decide +kernel
theorem dX7_border_228 : decode cX7_border 228 = .ok (.lconst 0, 1) := by decide +kernel
theorem dX7_border_229 : decode cX7_border 229 = .ok (.lcmp, 1) := by decide +kernel
theorem dX7_border_230 : decode cX7_border 230 = .ok (.ifCond .ne 16, 3) := by decide +kernel
theorem dX7_border_233 : decode cX7_border 233 = .ok (.lload 6, 2) := by decide +kernel
theorem dX7_border_235 : decode cX7_border 235 = .ok (.lconst 0, 1) := by decide +kernel
theorem dX7_border_236 : decode cX7_border 236 = .ok (.lcmp, 1) := by decide +kernel
theorem dX7_border_237 : decode cX7_border 237 = .ok (.ifCond .ge 9, 3) := by decide +kernel
theorem dX7_border_240 : decode cX7_border 240 = .ok (.lload 10, 2) := by decide +kernel
theorem dX7_border_242 : decode cX7_border 242 = .ok (.lneg, 1) := by decide +kernel
theorem dX7_border_243 : decode cX7_border 243 = .ok (.goto 5, 3) := by decide +kernel
theorem dX7_border_246 : decode cX7_border 246 = .ok (.lload 10, 2) := by decide +kernel
theorem dX7_border_248 : decode cX7_border 248 = .ok (.lstore 10, 2) := by decide +kernel
theorem dX7_border_250 : decode cX7_border 250 = .ok (.iload_n 3, 1) := by decide +kernel
theorem dX7_border_251 : decode cX7_border 251 = .ok (.ifCond .ne 11, 3) := by decide +kernel
theorem dX7_border_254 : decode cX7_border 254 = .ok (.lload 4, 2) := by decide +kernel
theorem dX7_border_256 : decode cX7_border 256 = .ok (.lload 10, 2) := by decide +kernel
theorem dX7_border_258 : decode cX7_border 258 = .ok (.ldiv, 1) := by decide +kernel
theorem dX7_border_259 : decode cX7_border 259 = .ok (.goto 21, 3) := by decide +kernel
theorem dX7_border_262 : decode cX7_border 262 = .ok (.iload_n 3, 1) := by decide +kernel
theorem dX7_border_263 : decode cX7_border 263 = .ok (.iconst 1, 1) := by decide +kernel
theorem dX7_border_264 : decode cX7_border 264 = .ok (.if_icmp .ne 11, 3) := by decide +kernel
theorem dX7_border_267 : decode cX7_border 267 = .ok (.lload 6, 2) := by decide +kernel
theorem dX7_border_269 : decode cX7_border 269 = .ok (.lload 10, 2) := by decide +kernel
theorem dX7_border_271 : decode cX7_border 271 = .ok (.ldiv, 1) := by decide +kernel
theorem dX7_border_272 : decode cX7_border 272 = .ok (.goto 8, 3) := by decide +kernel
theorem dX7_border_275 : decode cX7_border 275 = .ok (.lload 8, 2) := by decide +kernel
theorem dX7_border_277 : decode cX7_border 277 = .ok (.lload 10, 2) := by decide +kernel
theorem dX7_border_279 : decode cX7_border 279 = .ok (.ldiv, 1) := by decide +kernel
theorem dX7_border_280 : decode cX7_border 280 = .ok (.lreturn, 1) := by decide +kernel
theorem dX7_who_0 : decode cX7_who 0 = .ok (.iload_n 1, 1) := by decide +kernel
theorem dX7_who_1 : decode cX7_who 1 = .ok (.iload_n 2, 1) := by decide +kernel
theorem dX7_who_2 : decode cX7_who 2 = .ok (.invokestatic 118, 3) := by decide +kernel
theorem dX7_who_5 : decode cX7_who 5 = .ok (.ifCond .ne 6, 3) := by decide +kernel
theorem dX7_who_8 : decode cX7_who 8 = .ok (.bipush (-2), 2) := by decide +kernel
theorem dX7_who_10 : decode cX7_who 10 = .ok (.ireturn, 1) := by decide +kernel
theorem dX7_who_11 : decode cX7_who 11 = .ok (.aload_n 0, 1) := by decide +kernel
theorem dX7_who_12 : decode cX7_who 12 = .ok (.invokevirtual 213, 3) := by decide +kernel
theorem dX7_who_15 : decode cX7_who 15 = .ok (.ifCond .ne 6, 3) := by decide +kernel
theorem dX7_who_18 : decode cX7_who 18 = .ok (.bipush (-3), 2) := by decide +kernel
theorem dX7_who_20 : decode cX7_who 20 = .ok (.ireturn, 1) := by decide +kernel
theorem dX7_who_21 : decode cX7_who 21 = .ok (.bipush (-9), 2) := by decide +kernel
theorem dX7_who_23 : decode cX7_who 23 = .ok (.istore_n 3, 1) := by decide +kernel
theorem dX7_who_24 : decode cX7_who 24 = .ok (.iconst 0, 1) := by decide +kernel
theorem dX7_who_25 : decode cX7_who 25 = .ok (.istore 4, 2) := by decide +kernel
theorem dX7_who_27 : decode cX7_who 27 = .ok (.iconst 0, 1) := by decide +kernel
theorem dX7_who_28 : decode cX7_who 28 = .ok (.istore 5, 2) := by decide +kernel
theorem dX7_who_30 : decode cX7_who 30 = .ok (.iload 5, 2) := by decide +kernel
theorem dX7_who_32 : decode cX7_who 32 = .ok (.aload_n 0, 1) := by decide +kernel
theorem dX7_who_33 : decode cX7_who 33 = .ok (.getfield 115, 3) := by decide +kernel
theorem dX7_who_36 : decode cX7_who 36 = .ok (.if_icmp .ge 45, 3) := by decide +kernel
theorem dX7_who_39 : decode cX7_who 39 = .ok (.aload_n 0, 1) := by decide +kernel
theorem dX7_who_40 : decode cX7_who 40 = .ok (.iload_n 1, 1) := by decide +kernel
theorem dX7_who_41 : decode cX7_who 41 = .ok (.iload_n 2, 1) := by decide +kernel
theorem dX7_who_42 : decode cX7_who 42 = .ok (.iload 5, 2) := by decide +kernel
theorem dX7_who_44 : decode cX7_who 44 = .ok (.invokevirtual 181, 3) := by decide +kernel
theorem dX7_who_47 : decode cX7_who 47 = .ok (.aload_n 0, 1) := by decide +kernel
theorem dX7_who_48 : decode cX7_who 48 = .ok (.getfield 59, 3) := by decide +kernel
theorem dX7_who_51 : decode cX7_who 51 = .ok (.iload 5, 2) := by decide +kernel
theorem dX7_who_53 : decode cX7_who 53 = .ok (.iaload, 1) := by decide +kernel
theorem dX7_who_54 : decode cX7_who 54 = .ok (.iadd, 1) := by decide +kernel
theorem dX7_who_55 : decode cX7_who 55 = .ok (.istore 6, 2) := by decide +kernel
theorem dX7_who_57 : decode cX7_who 57 = .ok (.iload_n 3, 1) := by decide +kernel
theorem dX7_who_58 : decode cX7_who 58 = .ok (.ifCond .lt 10, 3) := by decide +kernel
theorem dX7_who_61 : decode cX7_who 61 = .ok (.iload 6, 2) := by decide +kernel
theorem dX7_who_63 : decode cX7_who 63 = .ok (.iload 4, 2) := by decide +kernel
theorem dX7_who_65 : decode cX7_who 65 = .ok (.if_icmp .ge 10, 3) := by decide +kernel
theorem dX7_who_68 : decode cX7_who 68 = .ok (.iload 5, 2) := by decide +kernel
theorem dX7_who_70 : decode cX7_who 70 = .ok (.istore_n 3, 1) := by decide +kernel
theorem dX7_who_71 : decode cX7_who 71 = .ok (.iload 6, 2) := by decide +kernel
theorem dX7_who_73 : decode cX7_who 73 = .ok (.istore 4, 2) := by decide +kernel
theorem dX7_who_75 : decode cX7_who 75 = .ok (.iinc 5 1, 3) := by decide +kernel
theorem dX7_who_78 : decode cX7_who 78 = .ok (.goto (-48), 3) := by decide +kernel
theorem dX7_who_81 : decode cX7_who 81 = .ok (.iload_n 3, 1) := by decide +kernel
theorem dX7_who_82 : decode cX7_who 82 = .ok (.ireturn, 1) := by decide +kernel
theorem dX7_place_0 : decode cX7_place 0 = .ok (.iload_n 1, 1) := by decide +kernel
theorem dX7_place_1 : decode cX7_place 1 = .ok (.iload_n 2, 1) := by decide +kernel
theorem dX7_place_2 : decode cX7_place 2 = .ok (.invokestatic 118, 3) := by decide +kernel
theorem dX7_place_5 : decode cX7_place 5 = .ok (.ifCond .ne 6, 3) := by decide +kernel
theorem dX7_place_8 : decode cX7_place 8 = .ok (.bipush (-2), 2) := by decide +kernel
theorem dX7_place_10 : decode cX7_place 10 = .ok (.ireturn, 1) := by decide +kernel
theorem dX7_place_11 : decode cX7_place 11 = .ok (.aload_n 0, 1) := by decide +kernel
theorem dX7_place_12 : decode cX7_place 12 = .ok (.getfield 239, 3) := by decide +kernel
theorem dX7_place_15 : decode cX7_place 15 = .ok (.bipush 8, 2) := by decide +kernel
theorem dX7_place_17 : decode cX7_place 17 = .ok (.if_icmp .ne 6, 3) := by decide +kernel
theorem dX7_place_20 : decode cX7_place 20 = .ok (.bipush (-4), 2) := by decide +kernel
theorem dX7_place_22 : decode cX7_place 22 = .ok (.ireturn, 1) := by decide +kernel
theorem dX7_place_23 : decode cX7_place 23 = .ok (.aload_n 0, 1) := by decide +kernel
theorem dX7_place_24 : decode cX7_place 24 = .ok (.getfield 62, 3) := by decide +kernel
theorem dX7_place_27 : decode cX7_place 27 = .ok (.aload_n 0, 1) := by decide +kernel
theorem dX7_place_28 : decode cX7_place 28 = .ok (.getfield 239, 3) := by decide +kernel
theorem dX7_place_31 : decode cX7_place 31 = .ok (.iload_n 1, 1) := by decide +kernel
theorem dX7_place_32 : decode cX7_place 32 = .ok (.iastore, 1) := by decide +kernel
theorem dX7_place_33 : decode cX7_place 33 = .ok (.aload_n 0, 1) := by decide +kernel
theorem dX7_place_34 : decode cX7_place 34 = .ok (.getfield 65, 3) := by decide +kernel
theorem dX7_place_37 : decode cX7_place 37 = .ok (.aload_n 0, 1) := by decide +kernel
theorem dX7_place_38 : decode cX7_place 38 = .ok (.getfield 239, 3) := by decide +kernel
theorem dX7_place_41 : decode cX7_place 41 = .ok (.iload_n 2, 1) := by decide +kernel
theorem dX7_place_42 : decode cX7_place 42 = .ok (.iastore, 1) := by decide +kernel
theorem dX7_place_43 : decode cX7_place 43 = .ok (.aload_n 0, 1) := by decide +kernel
theorem dX7_place_44 : decode cX7_place 44 = .ok (.dup, 1) := by decide +kernel
theorem dX7_place_45 : decode cX7_place 45 = .ok (.getfield 239, 3) := by decide +kernel
theorem dX7_place_48 : decode cX7_place 48 = .ok (.iconst 1, 1) := by decide +kernel
theorem dX7_place_49 : decode cX7_place 49 = .ok (.iadd, 1) := by decide +kernel
theorem dX7_place_50 : decode cX7_place 50 = .ok (.putfield 239, 3) := by decide +kernel
theorem dX7_place_53 : decode cX7_place 53 = .ok (.aload_n 0, 1) := by decide +kernel
theorem dX7_place_54 : decode cX7_place 54 = .ok (.getfield 239, 3) := by decide +kernel
theorem dX7_place_57 : decode cX7_place 57 = .ok (.iconst 1, 1) := by decide +kernel
theorem dX7_place_58 : decode cX7_place 58 = .ok (.isub, 1) := by decide +kernel
theorem dX7_place_59 : decode cX7_place 59 = .ok (.ireturn, 1) := by decide +kernel
theorem dX7_move_0 : decode cX7_move 0 = .ok (.aload_n 0, 1) := by decide +kernel
theorem dX7_move_1 : decode cX7_move 1 = .ok (.iload_n 1, 1) := by decide +kernel
theorem dX7_move_2 : decode cX7_move 2 = .ok (.invokevirtual 173, 3) := by decide +kernel
theorem dX7_move_5 : decode cX7_move 5 = .ok (.ifCond .eq 5, 3) := by decide +kernel
theorem dX7_move_8 : decode cX7_move 8 = .ok (.iconst (-1), 1) := by decide +kernel
theorem dX7_move_9 : decode cX7_move 9 = .ok (.ireturn, 1) := by decide +kernel
theorem dX7_move_10 : decode cX7_move 10 = .ok (.aload_n 0, 1) := by decide +kernel
theorem dX7_move_11 : decode cX7_move 11 = .ok (.getfield 22, 3) := by decide +kernel
theorem dX7_move_14 : decode cX7_move 14 = .ok (.iload_n 1, 1) := by decide +kernel
theorem dX7_move_15 : decode cX7_move 15 = .ok (.iaload, 1) := by decide +kernel
theorem dX7_move_16 : decode cX7_move 16 = .ok (.istore_n 2, 1) := by decide +kernel
theorem dX7_move_17 : decode cX7_move 17 = .ok (.aload_n 0, 1) := by decide +kernel
theorem dX7_move_18 : decode cX7_move 18 = .ok (.getfield 25, 3) := by decide +kernel
theorem dX7_move_21 : decode cX7_move 21 = .ok (.iload_n 1, 1) := by decide +kernel
theorem dX7_move_22 : decode cX7_move 22 = .ok (.iaload, 1) := by decide +kernel
theorem dX7_move_23 : decode cX7_move 23 = .ok (.istore_n 3, 1) := by decide +kernel
theorem dX7_move_24 : decode cX7_move 24 = .ok (.aload_n 0, 1) := by decide +kernel
theorem dX7_move_25 : decode cX7_move 25 = .ok (.invokevirtual 207, 3) := by decide +kernel
theorem dX7_move_28 : decode cX7_move 28 = .ok (.istore 4, 2) := by decide +kernel
theorem dX7_move_30 : decode cX7_move 30 = .ok (.bipush (-9), 2) := by decide +kernel
theorem dX7_move_32 : decode cX7_move 32 = .ok (.istore 5, 2) := by decide +kernel
theorem dX7_move_34 : decode cX7_move 34 = .ok (.iconst 0, 1) := by decide +kernel
theorem dX7_move_35 : decode cX7_move 35 = .ok (.istore 6, 2) := by decide +kernel
theorem dX7_move_37 : decode cX7_move 37 = .ok (.iload 6, 2) := by decide +kernel
theorem dX7_move_39 : decode cX7_move 39 = .ok (.aload_n 0, 1) := by decide +kernel
theorem dX7_move_40 : decode cX7_move 40 = .ok (.getfield 239, 3) := by decide +kernel
theorem dX7_move_43 : decode cX7_move 43 = .ok (.if_icmp .ge 66, 3) := by decide +kernel
theorem dX7_move_46 : decode cX7_move 46 = .ok (.aload_n 0, 1) := by decide +kernel
theorem dX7_move_47 : decode cX7_move 47 = .ok (.getfield 22, 3) := by decide +kernel
theorem dX7_move_50 : decode cX7_move 50 = .ok (.iload_n 1, 1) := by decide +kernel
theorem dX7_move_51 : decode cX7_move 51 = .ok (.aload_n 0, 1) := by decide +kernel
theorem dX7_move_52 : decode cX7_move 52 = .ok (.getfield 62, 3) := by decide +kernel
theorem dX7_move_55 : decode cX7_move 55 = .ok (.iload 6, 2) := by decide +kernel
theorem dX7_move_57 : decode cX7_move 57 = .ok (.iaload, 1) := by decide +kernel
theorem dX7_move_58 : decode cX7_move 58 = .ok (.iastore, 1) := by decide +kernel
theorem dX7_move_59 : decode cX7_move 59 = .ok (.aload_n 0, 1) := by decide +kernel
theorem dX7_move_60 : decode cX7_move 60 = .ok (.getfield 25, 3) := by decide +kernel
theorem dX7_move_63 : decode cX7_move 63 = .ok (.iload_n 1, 1) := by decide +kernel
theorem dX7_move_64 : decode cX7_move 64 = .ok (.aload_n 0, 1) := by decide +kernel
theorem dX7_move_65 : decode cX7_move 65 = .ok (.getfield 65, 3) := by decide +kernel
theorem dX7_move_68 : decode cX7_move 68 = .ok (.iload 6, 2) := by decide +kernel
theorem dX7_move_70 : decode cX7_move 70 = .ok (.iaload, 1) := by decide +kernel
theorem dX7_move_71 : decode cX7_move 71 = .ok (.iastore, 1) := by decide +kernel
theorem dX7_move_72 : decode cX7_move 72 = .ok (.aload_n 0, 1) := by decide +kernel
theorem dX7_move_73 : decode cX7_move 73 = .ok (.invokevirtual 207, 3) := by decide +kernel
theorem dX7_move_76 : decode cX7_move 76 = .ok (.istore 7, 2) := by decide +kernel
theorem dX7_move_78 : decode cX7_move 78 = .ok (.iload 7, 2) := by decide +kernel
theorem dX7_move_80 : decode cX7_move 80 = .ok (.ifCond .lt 23, 3) := by decide +kernel
theorem dX7_move_83 : decode cX7_move 83 = .ok (.iload 4, 2) := by decide +kernel
theorem dX7_move_85 : decode cX7_move 85 = .ok (.ifCond .lt 10, 3) := by decide +kernel
theorem dX7_move_88 : decode cX7_move 88 = .ok (.iload 7, 2) := by decide +kernel
theorem dX7_move_90 : decode cX7_move 90 = .ok (.iload 4, 2) := by decide +kernel
theorem dX7_move_92 : decode cX7_move 92 = .ok (.if_icmp .ge 11, 3) := by decide +kernel
theorem dX7_move_95 : decode cX7_move 95 = .ok (.iload 6, 2) := by decide +kernel
theorem dX7_move_97 : decode cX7_move 97 = .ok (.istore 5, 2) := by decide +kernel
theorem dX7_move_99 : decode cX7_move 99 = .ok (.iload 7, 2) := by decide +kernel
theorem dX7_move_101 : decode cX7_move 101 = .ok (.istore 4, 2) := by decide +kernel
theorem dX7_move_103 : decode cX7_move 103 = .ok (.iinc 6 1, 3) := by decide +kernel
theorem dX7_move_106 : decode cX7_move 106 = .ok (.goto (-69), 3) := by decide +kernel
theorem dX7_move_109 : decode cX7_move 109 = .ok (.aload_n 0, 1) := by decide +kernel
theorem dX7_move_110 : decode cX7_move 110 = .ok (.getfield 22, 3) := by decide +kernel
theorem dX7_move_113 : decode cX7_move 113 = .ok (.iload_n 1, 1) := by decide +kernel
theorem dX7_move_114 : decode cX7_move 114 = .ok (.iload 5, 2) := by decide +kernel
theorem dX7_move_116 : decode cX7_move 116 = .ok (.ifCond .ge 7, 3) := by decide +kernel
theorem dX7_move_119 : decode cX7_move 119 = .ok (.iload_n 2, 1) := by decide +kernel
theorem dX7_move_120 : decode cX7_move 120 = .ok (.goto 10, 3) := by decide +kernel
theorem dX7_move_123 : decode cX7_move 123 = .ok (.aload_n 0, 1) := by decide +kernel
theorem dX7_move_124 : decode cX7_move 124 = .ok (.getfield 62, 3) := by decide +kernel
theorem dX7_move_127 : decode cX7_move 127 = .ok (.iload 5, 2) := by decide +kernel
theorem dX7_move_129 : decode cX7_move 129 = .ok (.iaload, 1) := by decide +kernel
theorem dX7_move_130 : decode cX7_move 130 = .ok (.iastore, 1) := by decide +kernel
theorem dX7_move_131 : decode cX7_move 131 = .ok (.aload_n 0, 1) := by decide +kernel
theorem dX7_move_132 : decode cX7_move 132 = .ok (.getfield 25, 3) := by decide +kernel
theorem dX7_move_135 : decode cX7_move 135 = .ok (.iload_n 1, 1) := by decide +kernel
theorem dX7_move_136 : decode cX7_move 136 = .ok (.iload 5, 2) := by decide +kernel
theorem dX7_move_138 : decode cX7_move 138 = .ok (.ifCond .ge 7, 3) := by decide +kernel
theorem dX7_move_141 : decode cX7_move 141 = .ok (.iload_n 3, 1) := by decide +kernel
theorem dX7_move_142 : decode cX7_move 142 = .ok (.goto 10, 3) := by decide +kernel
theorem dX7_move_145 : decode cX7_move 145 = .ok (.aload_n 0, 1) := by decide +kernel
theorem dX7_move_146 : decode cX7_move 146 = .ok (.getfield 65, 3) := by decide +kernel
theorem dX7_move_149 : decode cX7_move 149 = .ok (.iload 5, 2) := by decide +kernel
theorem dX7_move_151 : decode cX7_move 151 = .ok (.iaload, 1) := by decide +kernel
theorem dX7_move_152 : decode cX7_move 152 = .ok (.iastore, 1) := by decide +kernel
theorem dX7_move_153 : decode cX7_move 153 = .ok (.iload 5, 2) := by decide +kernel
theorem dX7_move_155 : decode cX7_move 155 = .ok (.ireturn, 1) := by decide +kernel
theorem dX7_openMiles_0 : decode cX7_openMiles 0 = .ok (.aload_n 0, 1) := by decide +kernel
theorem dX7_openMiles_1 : decode cX7_openMiles 1 = .ok (.ldc 199, 2) := by decide +kernel
theorem dX7_openMiles_3 : decode cX7_openMiles 3 = .ok (.invokevirtual 200, 3) := by decide +kernel
theorem dX7_openMiles_6 : decode cX7_openMiles 6 = .ok (.iconst 0, 1) := by decide +kernel
theorem dX7_openMiles_7 : decode cX7_openMiles 7 = .ok (.istore_n 2, 1) := by decide +kernel
theorem dX7_openMiles_8 : decode cX7_openMiles 8 = .ok (.iload_n 2, 1) := by decide +kernel
theorem dX7_openMiles_9 : decode cX7_openMiles 9 = .ok (.aload_n 0, 1) := by decide +kernel
theorem dX7_openMiles_10 : decode cX7_openMiles 10 = .ok (.getfield 115, 3) := by decide +kernel
theorem dX7_openMiles_13 : decode cX7_openMiles 13 = .ok (.if_icmp .ge 33, 3) := by decide +kernel
theorem dX7_openMiles_16 : decode cX7_openMiles 16 = .ok (.aload_n 0, 1) := by decide +kernel
theorem dX7_openMiles_17 : decode cX7_openMiles 17 = .ok (.getfield 41, 3) := by decide +kernel
theorem dX7_openMiles_20 : decode cX7_openMiles 20 = .ok (.iload_n 2, 1) := by decide +kernel
theorem dX7_openMiles_21 : decode cX7_openMiles 21 = .ok (.iload_n 1, 1) := by decide +kernel
theorem dX7_openMiles_22 : decode cX7_openMiles 22 = .ok (.iload_n 2, 1) := by decide +kernel
theorem dX7_openMiles_23 : decode cX7_openMiles 23 = .ok (.invokestatic 210, 3) := by decide +kernel
theorem dX7_openMiles_26 : decode cX7_openMiles 26 = .ok (.ifCond .eq 12, 3) := by decide +kernel
theorem dX7_openMiles_29 : decode cX7_openMiles 29 = .ok (.aload_n 0, 1) := by decide +kernel
theorem dX7_openMiles_30 : decode cX7_openMiles 30 = .ok (.getfield 41, 3) := by decide +kernel
theorem dX7_openMiles_33 : decode cX7_openMiles 33 = .ok (.iload_n 2, 1) := by decide +kernel
theorem dX7_openMiles_34 : decode cX7_openMiles 34 = .ok (.iaload, 1) := by decide +kernel
theorem dX7_openMiles_35 : decode cX7_openMiles 35 = .ok (.goto 4, 3) := by decide +kernel
theorem dX7_openMiles_38 : decode cX7_openMiles 38 = .ok (.iconst 0, 1) := by decide +kernel
theorem dX7_openMiles_39 : decode cX7_openMiles 39 = .ok (.iastore, 1) := by decide +kernel
theorem dX7_openMiles_40 : decode cX7_openMiles 40 = .ok (.iinc 2 1, 3) := by decide +kernel
theorem dX7_openMiles_43 : decode cX7_openMiles 43 = .ok (.goto (-35), 3) := by decide +kernel
theorem dX7_openMiles_46 : decode cX7_openMiles 46 = .ok (.aload_n 0, 1) := by decide +kernel
theorem dX7_openMiles_47 : decode cX7_openMiles 47 = .ok (.invokevirtual 203, 3) := by decide +kernel
theorem dX7_openMiles_50 : decode cX7_openMiles 50 = .ok (.ireturn, 1) := by decide +kernel
theorem dX7_open_0 : decode cX7_open 0 = .ok (.iload_n 1, 1) := by decide +kernel
theorem dX7_open_1 : decode cX7_open 1 = .ok (.i2l, 1) := by decide +kernel
theorem dX7_open_2 : decode cX7_open 2 = .ok (.lconst 0, 1) := by decide +kernel
theorem dX7_open_3 : decode cX7_open 3 = .ok (.lconst 1, 1) := by decide +kernel
theorem dX7_open_4 : decode cX7_open 4 = .ok (.aload_n 0, 1) := by decide +kernel
theorem dX7_open_5 : decode cX7_open 5 = .ok (.getfield 115, 3) := by decide +kernel
theorem dX7_open_8 : decode cX7_open 8 = .ok (.lshl, 1) := by decide +kernel
theorem dX7_open_9 : decode cX7_open 9 = .ok (.lconst 1, 1) := by decide +kernel
theorem dX7_open_10 : decode cX7_open 10 = .ok (.lsub, 1) := by decide +kernel
theorem dX7_open_11 : decode cX7_open 11 = .ok (.invokestatic 88, 3) := by decide +kernel
theorem dX7_open_14 : decode cX7_open 14 = .ok (.ifCond .eq 11, 3) := by decide +kernel
theorem dX7_open_17 : decode cX7_open 17 = .ok (.aload_n 0, 1) := by decide +kernel
theorem dX7_open_18 : decode cX7_open 18 = .ok (.iload_n 1, 1) := by decide +kernel
theorem dX7_open_19 : decode cX7_open 19 = .ok (.invokevirtual 242, 3) := by decide +kernel
theorem dX7_open_22 : decode cX7_open 22 = .ok (.goto 5, 3) := by decide +kernel
theorem dX7_open_25 : decode cX7_open 25 = .ok (.bipush (-2), 2) := by decide +kernel
theorem dX7_open_27 : decode cX7_open 27 = .ok (.ireturn, 1) := by decide +kernel
theorem dX7_best_0 : decode cX7_best 0 = .ok (.iload_n 1, 1) := by decide +kernel
theorem dX7_best_1 : decode cX7_best 1 = .ok (.i2l, 1) := by decide +kernel
theorem dX7_best_2 : decode cX7_best 2 = .ok (.lconst 0, 1) := by decide +kernel
theorem dX7_best_3 : decode cX7_best 3 = .ok (.aload_n 0, 1) := by decide +kernel
theorem dX7_best_4 : decode cX7_best 4 = .ok (.getfield 115, 3) := by decide +kernel
theorem dX7_best_7 : decode cX7_best 7 = .ok (.i2l, 1) := by decide +kernel
theorem dX7_best_8 : decode cX7_best 8 = .ok (.invokestatic 88, 3) := by decide +kernel
theorem dX7_best_11 : decode cX7_best 11 = .ok (.ifCond .ne 6, 3) := by decide +kernel
theorem dX7_best_14 : decode cX7_best 14 = .ok (.bipush (-2), 2) := by decide +kernel
theorem dX7_best_16 : decode cX7_best 16 = .ok (.ireturn, 1) := by decide +kernel
theorem dX7_best_17 : decode cX7_best 17 = .ok (.bipush (-9), 2) := by decide +kernel
theorem dX7_best_19 : decode cX7_best 19 = .ok (.istore_n 2, 1) := by decide +kernel
theorem dX7_best_20 : decode cX7_best 20 = .ok (.iconst 0, 1) := by decide +kernel
theorem dX7_best_21 : decode cX7_best 21 = .ok (.istore_n 3, 1) := by decide +kernel
theorem dX7_best_22 : decode cX7_best 22 = .ok (.iconst 0, 1) := by decide +kernel
theorem dX7_best_23 : decode cX7_best 23 = .ok (.istore 4, 2) := by decide +kernel
theorem dX7_best_25 : decode cX7_best 25 = .ok (.iload 4, 2) := by decide +kernel
theorem dX7_best_27 : decode cX7_best 27 = .ok (.iconst 1, 1) := by decide +kernel
theorem dX7_best_28 : decode cX7_best 28 = .ok (.aload_n 0, 1) := by decide +kernel
theorem dX7_best_29 : decode cX7_best 29 = .ok (.getfield 115, 3) := by decide +kernel
theorem dX7_best_32 : decode cX7_best 32 = .ok (.ishl, 1) := by decide +kernel
theorem dX7_best_33 : decode cX7_best 33 = .ok (.if_icmp .ge 52, 3) := by decide +kernel
theorem dX7_best_36 : decode cX7_best 36 = .ok (.iload 4, 2) := by decide +kernel
theorem dX7_best_38 : decode cX7_best 38 = .ok (.invokestatic 245, 3) := by decide +kernel
theorem dX7_best_41 : decode cX7_best 41 = .ok (.iload_n 1, 1) := by decide +kernel
theorem dX7_best_42 : decode cX7_best 42 = .ok (.if_icmp .ne 12, 3) := by decide +kernel
theorem dX7_best_45 : decode cX7_best 45 = .ok (.aload_n 0, 1) := by decide +kernel
theorem dX7_best_46 : decode cX7_best 46 = .ok (.iload 4, 2) := by decide +kernel
theorem dX7_best_48 : decode cX7_best 48 = .ok (.invokevirtual 242, 3) := by decide +kernel
theorem dX7_best_51 : decode cX7_best 51 = .ok (.goto 5, 3) := by decide +kernel
theorem dX7_best_54 : decode cX7_best 54 = .ok (.bipush (-9), 2) := by decide +kernel
theorem dX7_best_56 : decode cX7_best 56 = .ok (.istore 5, 2) := by decide +kernel
theorem dX7_best_58 : decode cX7_best 58 = .ok (.iload 5, 2) := by decide +kernel
theorem dX7_best_60 : decode cX7_best 60 = .ok (.ifCond .lt 19, 3) := by decide +kernel
theorem dX7_best_63 : decode cX7_best 63 = .ok (.iload_n 2, 1) := by decide +kernel
theorem dX7_best_64 : decode cX7_best 64 = .ok (.ifCond .lt 9, 3) := by decide +kernel
theorem dX7_best_67 : decode cX7_best 67 = .ok (.iload 5, 2) := by decide +kernel
theorem dX7_best_69 : decode cX7_best 69 = .ok (.iload_n 3, 1) := by decide +kernel
theorem dX7_best_70 : decode cX7_best 70 = .ok (.if_icmp .ge 9, 3) := by decide +kernel
theorem dX7_best_73 : decode cX7_best 73 = .ok (.iload 4, 2) := by decide +kernel
theorem dX7_best_75 : decode cX7_best 75 = .ok (.istore_n 2, 1) := by decide +kernel
theorem dX7_best_76 : decode cX7_best 76 = .ok (.iload 5, 2) := by decide +kernel
theorem dX7_best_78 : decode cX7_best 78 = .ok (.istore_n 3, 1) := by decide +kernel
theorem dX7_best_79 : decode cX7_best 79 = .ok (.iinc 4 1, 3) := by decide +kernel
theorem dX7_best_82 : decode cX7_best 82 = .ok (.goto (-57), 3) := by decide +kernel
theorem dX7_best_85 : decode cX7_best 85 = .ok (.iload_n 2, 1) := by decide +kernel
theorem dX7_best_86 : decode cX7_best 86 = .ok (.ireturn, 1) := by decide +kernel
theorem dX7_noSheet_0 : decode cX7_noSheet 0 = .ok (.iload_n 0, 1) := by decide +kernel
theorem dX7_noSheet_1 : decode cX7_noSheet 1 = .ok (.i2l, 1) := by decide +kernel
theorem dX7_noSheet_2 : decode cX7_noSheet 2 = .ok (.lconst 0, 1) := by decide +kernel
theorem dX7_noSheet_3 : decode cX7_noSheet 3 = .ok (.ldc2_w 248, 3) := by decide +kernel
theorem dX7_noSheet_6 : decode cX7_noSheet 6 = .ok (.invokestatic 88, 3) := by decide +kernel
theorem dX7_noSheet_9 : decode cX7_noSheet 9 = .ok (.ifCond .ne 7, 3) := by decide +kernel
theorem dX7_noSheet_12 : decode cX7_noSheet 12 = .ok (.iconst 1, 1) := by decide +kernel
theorem dX7_noSheet_13 : decode cX7_noSheet 13 = .ok (.goto 4, 3) := by decide +kernel
theorem dX7_noSheet_16 : decode cX7_noSheet 16 = .ok (.iconst 0, 1) := by decide +kernel
theorem dX7_noSheet_17 : decode cX7_noSheet 17 = .ok (.ireturn, 1) := by decide +kernel
theorem dX7_sheet_0 : decode cX7_sheet 0 = .ok (.iload_n 1, 1) := by decide +kernel
theorem dX7_sheet_1 : decode cX7_sheet 1 = .ok (.invokestatic 158, 3) := by decide +kernel
theorem dX7_sheet_4 : decode cX7_sheet 4 = .ok (.ifCond .eq 9, 3) := by decide +kernel
theorem dX7_sheet_7 : decode cX7_sheet 7 = .ok (.aload_n 0, 1) := by decide +kernel
theorem dX7_sheet_8 : decode cX7_sheet 8 = .ok (.iconst (-1), 1) := by decide +kernel
theorem dX7_sheet_9 : decode cX7_sheet 9 = .ok (.invokevirtual 101, 3) := by decide +kernel
theorem dX7_sheet_12 : decode cX7_sheet 12 = .ok (.ireturn, 1) := by decide +kernel
theorem dX7_sheet_13 : decode cX7_sheet 13 = .ok (.iload_n 2, 1) := by decide +kernel
theorem dX7_sheet_14 : decode cX7_sheet 14 = .ok (.i2l, 1) := by decide +kernel
theorem dX7_sheet_15 : decode cX7_sheet 15 = .ok (.lconst 0, 1) := by decide +kernel
theorem dX7_sheet_16 : decode cX7_sheet 16 = .ok (.ldc2_w 99, 3) := by decide +kernel
theorem dX7_sheet_19 : decode cX7_sheet 19 = .ok (.invokestatic 88, 3) := by decide +kernel
theorem dX7_sheet_22 : decode cX7_sheet 22 = .ok (.ifCond .eq 9, 3) := by decide +kernel
theorem dX7_sheet_25 : decode cX7_sheet 25 = .ok (.iload_n 3, 1) := by decide +kernel
theorem dX7_sheet_26 : decode cX7_sheet 26 = .ok (.bipush 80, 2) := by decide +kernel
theorem dX7_sheet_28 : decode cX7_sheet 28 = .ok (.if_icmp .le 10, 3) := by decide +kernel
theorem dX7_sheet_31 : decode cX7_sheet 31 = .ok (.aload_n 0, 1) := by decide +kernel
theorem dX7_sheet_32 : decode cX7_sheet 32 = .ok (.bipush (-2), 2) := by decide +kernel
theorem dX7_sheet_34 : decode cX7_sheet 34 = .ok (.invokevirtual 101, 3) := by decide +kernel
theorem dX7_sheet_37 : decode cX7_sheet 37 = .ok (.ireturn, 1) := by decide +kernel
theorem dX7_sheet_38 : decode cX7_sheet 38 = .ok (.iload_n 3, 1) := by decide +kernel
theorem dX7_sheet_39 : decode cX7_sheet 39 = .ok (.ifCond .ge 9, 3) := by decide +kernel
theorem dX7_sheet_42 : decode cX7_sheet 42 = .ok (.aload_n 0, 1) := by decide +kernel
theorem dX7_sheet_43 : decode cX7_sheet 43 = .ok (.iconst 4, 1) := by decide +kernel
theorem dX7_sheet_44 : decode cX7_sheet 44 = .ok (.invokevirtual 105, 3) := by decide +kernel
theorem dX7_sheet_47 : decode cX7_sheet 47 = .ok (.ireturn, 1) := by decide +kernel
theorem dX7_sheet_48 : decode cX7_sheet 48 = .ok (.aload_n 0, 1) := by decide +kernel
theorem dX7_sheet_49 : decode cX7_sheet 49 = .ok (.getfield 68, 3) := by decide +kernel
theorem dX7_sheet_52 : decode cX7_sheet 52 = .ok (.iload_n 1, 1) := by decide +kernel
theorem dX7_sheet_53 : decode cX7_sheet 53 = .ok (.iload_n 3, 1) := by decide +kernel
theorem dX7_sheet_54 : decode cX7_sheet 54 = .ok (.iastore, 1) := by decide +kernel
theorem dX7_sheet_55 : decode cX7_sheet 55 = .ok (.aload_n 0, 1) := by decide +kernel
theorem dX7_sheet_56 : decode cX7_sheet 56 = .ok (.getfield 71, 3) := by decide +kernel
theorem dX7_sheet_59 : decode cX7_sheet 59 = .ok (.iload_n 1, 1) := by decide +kernel
theorem dX7_sheet_60 : decode cX7_sheet 60 = .ok (.iload_n 2, 1) := by decide +kernel
theorem dX7_sheet_61 : decode cX7_sheet 61 = .ok (.iastore, 1) := by decide +kernel
theorem dX7_sheet_62 : decode cX7_sheet 62 = .ok (.iconst 0, 1) := by decide +kernel
theorem dX7_sheet_63 : decode cX7_sheet 63 = .ok (.istore 4, 2) := by decide +kernel
theorem dX7_sheet_65 : decode cX7_sheet 65 = .ok (.iload 4, 2) := by decide +kernel
theorem dX7_sheet_67 : decode cX7_sheet 67 = .ok (.iload_n 3, 1) := by decide +kernel
theorem dX7_sheet_68 : decode cX7_sheet 68 = .ok (.if_icmp .ge 22, 3) := by decide +kernel
theorem dX7_sheet_71 : decode cX7_sheet 71 = .ok (.aload_n 0, 1) := by decide +kernel
theorem dX7_sheet_72 : decode cX7_sheet 72 = .ok (.getfield 74, 3) := by decide +kernel
theorem dX7_sheet_75 : decode cX7_sheet 75 = .ok (.bipush 80, 2) := by decide +kernel
theorem dX7_sheet_77 : decode cX7_sheet 77 = .ok (.iload_n 1, 1) := by decide +kernel
theorem dX7_sheet_78 : decode cX7_sheet 78 = .ok (.imul, 1) := by decide +kernel
theorem dX7_sheet_79 : decode cX7_sheet 79 = .ok (.iload 4, 2) := by decide +kernel
theorem dX7_sheet_81 : decode cX7_sheet 81 = .ok (.iadd, 1) := by decide +kernel
theorem dX7_sheet_82 : decode cX7_sheet 82 = .ok (.iconst 0, 1) := by decide +kernel
theorem dX7_sheet_83 : decode cX7_sheet 83 = .ok (.iastore, 1) := by decide +kernel
theorem dX7_sheet_84 : decode cX7_sheet 84 = .ok (.iinc 4 1, 3) := by decide +kernel
theorem dX7_sheet_87 : decode cX7_sheet 87 = .ok (.goto (-22), 3) := by decide +kernel
theorem dX7_sheet_90 : decode cX7_sheet 90 = .ok (.aload_n 0, 1) := by decide +kernel
theorem dX7_sheet_91 : decode cX7_sheet 91 = .ok (.iconst 1, 1) := by decide +kernel
theorem dX7_sheet_92 : decode cX7_sheet 92 = .ok (.invokevirtual 101, 3) := by decide +kernel
theorem dX7_sheet_95 : decode cX7_sheet 95 = .ok (.ireturn, 1) := by decide +kernel
theorem dX7_lose_0 : decode cX7_lose 0 = .ok (.iload_n 1, 1) := by decide +kernel
theorem dX7_lose_1 : decode cX7_lose 1 = .ok (.invokestatic 158, 3) := by decide +kernel
theorem dX7_lose_4 : decode cX7_lose 4 = .ok (.ifCond .eq 5, 3) := by decide +kernel
theorem dX7_lose_7 : decode cX7_lose 7 = .ok (.iconst (-1), 1) := by decide +kernel
theorem dX7_lose_8 : decode cX7_lose 8 = .ok (.ireturn, 1) := by decide +kernel
theorem dX7_lose_9 : decode cX7_lose 9 = .ok (.aload_n 0, 1) := by decide +kernel
theorem dX7_lose_10 : decode cX7_lose 10 = .ok (.getfield 68, 3) := by decide +kernel
theorem dX7_lose_13 : decode cX7_lose 13 = .ok (.iload_n 1, 1) := by decide +kernel
theorem dX7_lose_14 : decode cX7_lose 14 = .ok (.iaload, 1) := by decide +kernel
theorem dX7_lose_15 : decode cX7_lose 15 = .ok (.ifCond .ge 7, 3) := by decide +kernel
theorem dX7_lose_18 : decode cX7_lose 18 = .ok (.iconst 0, 1) := by decide +kernel
theorem dX7_lose_19 : decode cX7_lose 19 = .ok (.goto 4, 3) := by decide +kernel
theorem dX7_lose_22 : decode cX7_lose 22 = .ok (.iconst 1, 1) := by decide +kernel
theorem dX7_lose_23 : decode cX7_lose 23 = .ok (.istore_n 2, 1) := by decide +kernel
theorem dX7_lose_24 : decode cX7_lose 24 = .ok (.aload_n 0, 1) := by decide +kernel
theorem dX7_lose_25 : decode cX7_lose 25 = .ok (.getfield 68, 3) := by decide +kernel
theorem dX7_lose_28 : decode cX7_lose 28 = .ok (.iload_n 1, 1) := by decide +kernel
theorem dX7_lose_29 : decode cX7_lose 29 = .ok (.iconst (-1), 1) := by decide +kernel
theorem dX7_lose_30 : decode cX7_lose 30 = .ok (.iastore, 1) := by decide +kernel
theorem dX7_lose_31 : decode cX7_lose 31 = .ok (.iload_n 2, 1) := by decide +kernel
theorem dX7_lose_32 : decode cX7_lose 32 = .ok (.ireturn, 1) := by decide +kernel
theorem dX7_noCell_0 : decode cX7_noCell 0 = .ok (.aload_n 0, 1) := by decide +kernel
theorem dX7_noCell_1 : decode cX7_noCell 1 = .ok (.getfield 68, 3) := by decide +kernel
theorem dX7_noCell_4 : decode cX7_noCell 4 = .ok (.iload_n 1, 1) := by decide +kernel
theorem dX7_noCell_5 : decode cX7_noCell 5 = .ok (.iaload, 1) := by decide +kernel
theorem dX7_noCell_6 : decode cX7_noCell 6 = .ok (.ifCond .ge 7, 3) := by decide +kernel
theorem dX7_noCell_9 : decode cX7_noCell 9 = .ok (.iconst 1, 1) := by decide +kernel
theorem dX7_noCell_10 : decode cX7_noCell 10 = .ok (.goto 26, 3) := by decide +kernel
theorem dX7_noCell_13 : decode cX7_noCell 13 = .ok (.iload_n 2, 1) := by decide +kernel
theorem dX7_noCell_14 : decode cX7_noCell 14 = .ok (.i2l, 1) := by decide +kernel
theorem dX7_noCell_15 : decode cX7_noCell 15 = .ok (.lconst 0, 1) := by decide +kernel
theorem dX7_noCell_16 : decode cX7_noCell 16 = .ok (.aload_n 0, 1) := by decide +kernel
theorem dX7_noCell_17 : decode cX7_noCell 17 = .ok (.getfield 68, 3) := by decide +kernel
theorem dX7_noCell_20 : decode cX7_noCell 20 = .ok (.iload_n 1, 1) := by decide +kernel
theorem dX7_noCell_21 : decode cX7_noCell 21 = .ok (.iaload, 1) := by decide +kernel
theorem dX7_noCell_22 : decode cX7_noCell 22 = .ok (.i2l, 1) := by decide +kernel
theorem dX7_noCell_23 : decode cX7_noCell 23 = .ok (.lconst 1, 1) := by decide +kernel
theorem dX7_noCell_24 : decode cX7_noCell 24 = .ok (.lsub, 1) := by decide +kernel
theorem dX7_noCell_25 : decode cX7_noCell 25 = .ok (.invokestatic 88, 3) := by decide +kernel
theorem dX7_noCell_28 : decode cX7_noCell 28 = .ok (.ifCond .eq 7, 3) := by decide +kernel
theorem dX7_noCell_31 : decode cX7_noCell 31 = .ok (.iconst 0, 1) := by decide +kernel
theorem dX7_noCell_32 : decode cX7_noCell 32 = .ok (.goto 4, 3) := by decide +kernel
theorem dX7_noCell_35 : decode cX7_noCell 35 = .ok (.iconst 3, 1) := by decide +kernel
theorem dX7_noCell_36 : decode cX7_noCell 36 = .ok (.ireturn, 1) := by decide +kernel
theorem dX7_put_0 : decode cX7_put 0 = .ok (.iload_n 1, 1) := by decide +kernel
theorem dX7_put_1 : decode cX7_put 1 = .ok (.invokestatic 158, 3) := by decide +kernel
theorem dX7_put_4 : decode cX7_put 4 = .ok (.ifCond .eq 9, 3) := by decide +kernel
theorem dX7_put_7 : decode cX7_put 7 = .ok (.aload_n 0, 1) := by decide +kernel
theorem dX7_put_8 : decode cX7_put 8 = .ok (.iconst (-1), 1) := by decide +kernel
theorem dX7_put_9 : decode cX7_put 9 = .ok (.invokevirtual 101, 3) := by decide +kernel
theorem dX7_put_12 : decode cX7_put 12 = .ok (.ireturn, 1) := by decide +kernel
theorem dX7_put_13 : decode cX7_put 13 = .ok (.aload_n 0, 1) := by decide +kernel
theorem dX7_put_14 : decode cX7_put 14 = .ok (.iload_n 1, 1) := by decide +kernel
theorem dX7_put_15 : decode cX7_put 15 = .ok (.iload_n 2, 1) := by decide +kernel
theorem dX7_put_16 : decode cX7_put 16 = .ok (.invokevirtual 250, 3) := by decide +kernel
theorem dX7_put_19 : decode cX7_put 19 = .ok (.ifCond .le 14, 3) := by decide +kernel
theorem dX7_put_22 : decode cX7_put 22 = .ok (.aload_n 0, 1) := by decide +kernel
theorem dX7_put_23 : decode cX7_put 23 = .ok (.aload_n 0, 1) := by decide +kernel
theorem dX7_put_24 : decode cX7_put 24 = .ok (.iload_n 1, 1) := by decide +kernel
theorem dX7_put_25 : decode cX7_put 25 = .ok (.iload_n 2, 1) := by decide +kernel
theorem dX7_put_26 : decode cX7_put 26 = .ok (.invokevirtual 250, 3) := by decide +kernel
theorem dX7_put_29 : decode cX7_put 29 = .ok (.invokevirtual 105, 3) := by decide +kernel
theorem dX7_put_32 : decode cX7_put 32 = .ok (.ireturn, 1) := by decide +kernel
theorem dX7_put_33 : decode cX7_put 33 = .ok (.aload_n 0, 1) := by decide +kernel
theorem dX7_put_34 : decode cX7_put 34 = .ok (.getfield 74, 3) := by decide +kernel
theorem dX7_put_37 : decode cX7_put 37 = .ok (.bipush 80, 2) := by decide +kernel
theorem dX7_put_39 : decode cX7_put 39 = .ok (.iload_n 1, 1) := by decide +kernel
theorem dX7_put_40 : decode cX7_put 40 = .ok (.imul, 1) := by decide +kernel
theorem dX7_put_41 : decode cX7_put 41 = .ok (.iload_n 2, 1) := by decide +kernel
theorem dX7_put_42 : decode cX7_put 42 = .ok (.iadd, 1) := by decide +kernel
theorem dX7_put_43 : decode cX7_put 43 = .ok (.aload_n 0, 1) := by decide +kernel
theorem dX7_put_44 : decode cX7_put 44 = .ok (.getfield 71, 3) := by decide +kernel
theorem dX7_put_47 : decode cX7_put 47 = .ok (.iload_n 1, 1) := by decide +kernel
theorem dX7_put_48 : decode cX7_put 48 = .ok (.iaload, 1) := by decide +kernel
theorem dX7_put_49 : decode cX7_put 49 = .ok (.ifCond .ne 8, 3) := by decide +kernel
theorem dX7_put_52 : decode cX7_put 52 = .ok (.iload_n 3, 1) := by decide +kernel
theorem dX7_put_53 : decode cX7_put 53 = .ok (.i2b, 1) := by decide +kernel
theorem dX7_put_54 : decode cX7_put 54 = .ok (.goto 19, 3) := by decide +kernel
theorem dX7_put_57 : decode cX7_put 57 = .ok (.aload_n 0, 1) := by decide +kernel
theorem dX7_put_58 : decode cX7_put 58 = .ok (.getfield 71, 3) := by decide +kernel
theorem dX7_put_61 : decode cX7_put 61 = .ok (.iload_n 1, 1) := by decide +kernel
theorem dX7_put_62 : decode cX7_put 62 = .ok (.iaload, 1) := by decide +kernel
theorem dX7_put_63 : decode cX7_put 63 = .ok (.iconst 1, 1) := by decide +kernel
theorem dX7_put_64 : decode cX7_put 64 = .ok (.if_icmp .ne 8, 3) := by decide +kernel
theorem dX7_put_67 : decode cX7_put 67 = .ok (.iload_n 3, 1) := by decide +kernel
theorem dX7_put_68 : decode cX7_put 68 = .ok (.i2s, 1) := by decide +kernel
theorem dX7_put_69 : decode cX7_put 69 = .ok (.goto 4, 3) := by decide +kernel
theorem dX7_put_72 : decode cX7_put 72 = .ok (.iload_n 3, 1) := by decide +kernel
theorem dX7_put_73 : decode cX7_put 73 = .ok (.iastore, 1) := by decide +kernel
theorem dX7_put_74 : decode cX7_put 74 = .ok (.aload_n 0, 1) := by decide +kernel
theorem dX7_put_75 : decode cX7_put 75 = .ok (.iconst 1, 1) := by decide +kernel
theorem dX7_put_76 : decode cX7_put 76 = .ok (.invokevirtual 101, 3) := by decide +kernel
theorem dX7_put_79 : decode cX7_put 79 = .ok (.ireturn, 1) := by decide +kernel
theorem dX7_cell_0 : decode cX7_cell 0 = .ok (.aload_n 0, 1) := by decide +kernel
theorem dX7_cell_1 : decode cX7_cell 1 = .ok (.iconst 0, 1) := by decide +kernel
theorem dX7_cell_2 : decode cX7_cell 2 = .ok (.putfield 92, 3) := by decide +kernel
theorem dX7_cell_5 : decode cX7_cell 5 = .ok (.iload_n 1, 1) := by decide +kernel
theorem dX7_cell_6 : decode cX7_cell 6 = .ok (.invokestatic 158, 3) := by decide +kernel
theorem dX7_cell_9 : decode cX7_cell 9 = .ok (.ifCond .ne 15, 3) := by decide +kernel
theorem dX7_cell_12 : decode cX7_cell 12 = .ok (.iload_n 3, 1) := by decide +kernel
theorem dX7_cell_13 : decode cX7_cell 13 = .ok (.i2l, 1) := by decide +kernel
theorem dX7_cell_14 : decode cX7_cell 14 = .ok (.lconst 0, 1) := by decide +kernel
theorem dX7_cell_15 : decode cX7_cell 15 = .ok (.ldc2_w 99, 3) := by decide +kernel
theorem dX7_cell_18 : decode cX7_cell 18 = .ok (.invokestatic 88, 3) := by decide +kernel
theorem dX7_cell_21 : decode cX7_cell 21 = .ok (.ifCond .ne 7, 3) := by decide +kernel
theorem dX7_cell_24 : decode cX7_cell 24 = .ok (.invokestatic 95, 3) := by decide +kernel
theorem dX7_cell_27 : decode cX7_cell 27 = .ok (.lreturn, 1) := by decide +kernel
theorem dX7_cell_28 : decode cX7_cell 28 = .ok (.aload_n 0, 1) := by decide +kernel
theorem dX7_cell_29 : decode cX7_cell 29 = .ok (.getfield 68, 3) := by decide +kernel
theorem dX7_cell_32 : decode cX7_cell 32 = .ok (.iload_n 1, 1) := by decide +kernel
theorem dX7_cell_33 : decode cX7_cell 33 = .ok (.iaload, 1) := by decide +kernel
theorem dX7_cell_34 : decode cX7_cell 34 = .ok (.ifCond .lt 19, 3) := by decide +kernel
theorem dX7_cell_37 : decode cX7_cell 37 = .ok (.aload_n 0, 1) := by decide +kernel
theorem dX7_cell_38 : decode cX7_cell 38 = .ok (.getfield 71, 3) := by decide +kernel
theorem dX7_cell_41 : decode cX7_cell 41 = .ok (.iload_n 1, 1) := by decide +kernel
theorem dX7_cell_42 : decode cX7_cell 42 = .ok (.iaload, 1) := by decide +kernel
theorem dX7_cell_43 : decode cX7_cell 43 = .ok (.iload_n 3, 1) := by decide +kernel
theorem dX7_cell_44 : decode cX7_cell 44 = .ok (.if_icmp .eq 9, 3) := by decide +kernel
theorem dX7_cell_47 : decode cX7_cell 47 = .ok (.aload_n 0, 1) := by decide +kernel
theorem dX7_cell_48 : decode cX7_cell 48 = .ok (.iconst 2, 1) := by decide +kernel
theorem dX7_cell_49 : decode cX7_cell 49 = .ok (.invokevirtual 253, 3) := by decide +kernel
theorem dX7_cell_52 : decode cX7_cell 52 = .ok (.lreturn, 1) := by decide +kernel
theorem dX7_cell_53 : decode cX7_cell 53 = .ok (.aload_n 0, 1) := by decide +kernel
theorem dX7_cell_54 : decode cX7_cell 54 = .ok (.iload_n 1, 1) := by decide +kernel
theorem dX7_cell_55 : decode cX7_cell 55 = .ok (.iload_n 2, 1) := by decide +kernel
theorem dX7_cell_56 : decode cX7_cell 56 = .ok (.invokevirtual 250, 3) := by decide +kernel
theorem dX7_cell_59 : decode cX7_cell 59 = .ok (.ifCond .le 16, 3) := by decide +kernel
theorem dX7_cell_62 : decode cX7_cell 62 = .ok (.aload_n 0, 1) := by decide +kernel
theorem dX7_cell_63 : decode cX7_cell 63 = .ok (.aload_n 0, 1) := by decide +kernel
theorem dX7_cell_64 : decode cX7_cell 64 = .ok (.iload_n 1, 1) := by decide +kernel
theorem dX7_cell_65 : decode cX7_cell 65 = .ok (.iload_n 2, 1) := by decide +kernel
theorem dX7_cell_66 : decode cX7_cell 66 = .ok (.invokevirtual 250, 3) := by decide +kernel
theorem dX7_cell_69 : decode cX7_cell 69 = .ok (.invokevirtual 253, 3) := by decide +kernel
theorem dX7_cell_72 : decode cX7_cell 72 = .ok (.goto 15, 3) := by decide +kernel
theorem dX7_cell_75 : decode cX7_cell 75 = .ok (.aload_n 0, 1) := by decide +kernel
theorem dX7_cell_76 : decode cX7_cell 76 = .ok (.getfield 74, 3) := by decide +kernel
theorem dX7_cell_79 : decode cX7_cell 79 = .ok (.bipush 80, 2) := by decide +kernel
theorem dX7_cell_81 : decode cX7_cell 81 = .ok (.iload_n 1, 1) := by decide +kernel
theorem dX7_cell_82 : decode cX7_cell 82 = .ok (.imul, 1) := by decide +kernel
theorem dX7_cell_83 : decode cX7_cell 83 = .ok (.iload_n 2, 1) := by decide +kernel
theorem dX7_cell_84 : decode cX7_cell 84 = .ok (.iadd, 1) := by decide +kernel
theorem dX7_cell_85 : decode cX7_cell 85 = .ok (.iaload, 1) := by decide +kernel
theorem dX7_cell_86 : decode cX7_cell 86 = .ok (.i2l, 1) := by decide +kernel
theorem dX7_cell_87 : decode cX7_cell 87 = .ok (.lreturn, 1) := by decide +kernel
theorem dX7_isBeyond_0 : decode cX7_isBeyond 0 = .ok (.iload_n 0, 1) := by decide +kernel
theorem dX7_isBeyond_1 : decode cX7_isBeyond 1 = .ok (.ifCond .lt 19, 3) := by decide +kernel
theorem dX7_isBeyond_4 : decode cX7_isBeyond 4 = .ok (.lload_n 1, 1) := by decide +kernel
theorem dX7_isBeyond_5 : decode cX7_isBeyond 5 = .ok (.lconst 0, 1) := by decide +kernel
theorem dX7_isBeyond_6 : decode cX7_isBeyond 6 = .ok (.lcmp, 1) := by decide +kernel
theorem dX7_isBeyond_7 : decode cX7_isBeyond 7 = .ok (.ifCond .lt 13, 3) := by decide +kernel
theorem dX7_isBeyond_10 : decode cX7_isBeyond 10 = .ok (.iload_n 0, 1) := by decide +kernel
theorem dX7_isBeyond_11 : decode cX7_isBeyond 11 = .ok (.i2l, 1) := by decide +kernel
theorem dX7_isBeyond_12 : decode cX7_isBeyond 12 = .ok (.lload_n 1, 1) := by decide +kernel
theorem dX7_isBeyond_13 : decode cX7_isBeyond 13 = .ok (.ladd, 1) := by decide +kernel
theorem dX7_isBeyond_14 : decode cX7_isBeyond 14 = .ok (.iload_n 3, 1) := by decide +kernel
theorem dX7_isBeyond_15 : decode cX7_isBeyond 15 = .ok (.i2l, 1) := by decide +kernel
theorem dX7_isBeyond_16 : decode cX7_isBeyond 16 = .ok (.lcmp, 1) := by decide +kernel
theorem dX7_isBeyond_17 : decode cX7_isBeyond 17 = .ok (.ifCond .le 7, 3) := by decide +kernel
theorem dX7_isBeyond_20 : decode cX7_isBeyond 20 = .ok (.iconst 1, 1) := by decide +kernel
theorem dX7_isBeyond_21 : decode cX7_isBeyond 21 = .ok (.goto 4, 3) := by decide +kernel
theorem dX7_isBeyond_24 : decode cX7_isBeyond 24 = .ok (.iconst 0, 1) := by decide +kernel
theorem dX7_isBeyond_25 : decode cX7_isBeyond 25 = .ok (.ireturn, 1) := by decide +kernel
theorem dX7_copy_0 : decode cX7_copy 0 = .ok (.iload_n 1, 1) := by decide +kernel
theorem dX7_copy_1 : decode cX7_copy 1 = .ok (.invokestatic 158, 3) := by decide +kernel
theorem dX7_copy_4 : decode cX7_copy 4 = .ok (.ifCond .ne 10, 3) := by decide +kernel
theorem dX7_copy_7 : decode cX7_copy 7 = .ok (.iload_n 3, 1) := by decide +kernel
theorem dX7_copy_8 : decode cX7_copy 8 = .ok (.invokestatic 158, 3) := by decide +kernel
theorem dX7_copy_11 : decode cX7_copy 11 = .ok (.ifCond .eq 9, 3) := by decide +kernel
theorem dX7_copy_14 : decode cX7_copy 14 = .ok (.aload_n 0, 1) := by decide +kernel
theorem dX7_copy_15 : decode cX7_copy 15 = .ok (.iconst (-1), 1) := by decide +kernel
theorem dX7_copy_16 : decode cX7_copy 16 = .ok (.invokevirtual 101, 3) := by decide +kernel
theorem dX7_copy_19 : decode cX7_copy 19 = .ok (.ireturn, 1) := by decide +kernel
theorem dX7_copy_20 : decode cX7_copy 20 = .ok (.aload_n 0, 1) := by decide +kernel
theorem dX7_copy_21 : decode cX7_copy 21 = .ok (.getfield 68, 3) := by decide +kernel
theorem dX7_copy_24 : decode cX7_copy 24 = .ok (.iload_n 1, 1) := by decide +kernel
theorem dX7_copy_25 : decode cX7_copy 25 = .ok (.iaload, 1) := by decide +kernel
theorem dX7_copy_26 : decode cX7_copy 26 = .ok (.ifCond .lt 12, 3) := by decide +kernel
theorem dX7_copy_29 : decode cX7_copy 29 = .ok (.aload_n 0, 1) := by decide +kernel
theorem dX7_copy_30 : decode cX7_copy 30 = .ok (.getfield 68, 3) := by decide +kernel
theorem dX7_copy_33 : decode cX7_copy 33 = .ok (.iload_n 3, 1) := by decide +kernel
theorem dX7_copy_34 : decode cX7_copy 34 = .ok (.iaload, 1) := by decide +kernel
theorem dX7_copy_35 : decode cX7_copy 35 = .ok (.ifCond .ge 9, 3) := by decide +kernel
theorem dX7_copy_38 : decode cX7_copy 38 = .ok (.aload_n 0, 1) := by decide +kernel
theorem dX7_copy_39 : decode cX7_copy 39 = .ok (.iconst 1, 1) := by decide +kernel
theorem dX7_copy_40 : decode cX7_copy 40 = .ok (.invokevirtual 105, 3) := by decide +kernel
theorem dX7_copy_43 : decode cX7_copy 43 = .ok (.ireturn, 1) := by decide +kernel
theorem dX7_copy_44 : decode cX7_copy 44 = .ok (.aload_n 0, 1) := by decide +kernel
theorem dX7_copy_45 : decode cX7_copy 45 = .ok (.getfield 71, 3) := by decide +kernel
theorem dX7_copy_48 : decode cX7_copy 48 = .ok (.iload_n 1, 1) := by decide +kernel
theorem dX7_copy_49 : decode cX7_copy 49 = .ok (.iaload, 1) := by decide +kernel
theorem dX7_copy_50 : decode cX7_copy 50 = .ok (.aload_n 0, 1) := by decide +kernel
theorem dX7_copy_51 : decode cX7_copy 51 = .ok (.getfield 71, 3) := by decide +kernel
theorem dX7_copy_54 : decode cX7_copy 54 = .ok (.iload_n 3, 1) := by decide +kernel
theorem dX7_copy_55 : decode cX7_copy 55 = .ok (.iaload, 1) := by decide +kernel
theorem dX7_copy_56 : decode cX7_copy 56 = .ok (.if_icmp .eq 9, 3) := by decide +kernel
theorem dX7_copy_59 : decode cX7_copy 59 = .ok (.aload_n 0, 1) := by decide +kernel
theorem dX7_copy_60 : decode cX7_copy 60 = .ok (.iconst 2, 1) := by decide +kernel
theorem dX7_copy_61 : decode cX7_copy 61 = .ok (.invokevirtual 105, 3) := by decide +kernel
theorem dX7_copy_64 : decode cX7_copy 64 = .ok (.ireturn, 1) := by decide +kernel
theorem dX7_copy_65 : decode cX7_copy 65 = .ok (.iload_n 2, 1) := by decide +kernel
theorem dX7_copy_66 : decode cX7_copy 66 = .ok (.iload 5, 2) := by decide +kernel
theorem dX7_copy_68 : decode cX7_copy 68 = .ok (.i2l, 1) := by decide +kernel
theorem dX7_copy_69 : decode cX7_copy 69 = .ok (.aload_n 0, 1) := by decide +kernel
theorem dX7_copy_70 : decode cX7_copy 70 = .ok (.getfield 68, 3) := by decide +kernel
theorem dX7_copy_73 : decode cX7_copy 73 = .ok (.iload_n 1, 1) := by decide +kernel
theorem dX7_copy_74 : decode cX7_copy 74 = .ok (.iaload, 1) := by decide +kernel
theorem dX7_copy_75 : decode cX7_copy 75 = .ok (.invokestatic 108, 3) := by decide +kernel
theorem dX7_copy_78 : decode cX7_copy 78 = .ok (.ifCond .ne 20, 3) := by decide +kernel
theorem dX7_copy_81 : decode cX7_copy 81 = .ok (.iload 4, 2) := by decide +kernel
theorem dX7_copy_83 : decode cX7_copy 83 = .ok (.iload 5, 2) := by decide +kernel
theorem dX7_copy_85 : decode cX7_copy 85 = .ok (.i2l, 1) := by decide +kernel
theorem dX7_copy_86 : decode cX7_copy 86 = .ok (.aload_n 0, 1) := by decide +kernel
theorem dX7_copy_87 : decode cX7_copy 87 = .ok (.getfield 68, 3) := by decide +kernel
theorem dX7_copy_90 : decode cX7_copy 90 = .ok (.iload_n 3, 1) := by decide +kernel
theorem dX7_copy_91 : decode cX7_copy 91 = .ok (.iaload, 1) := by decide +kernel
theorem dX7_copy_92 : decode cX7_copy 92 = .ok (.invokestatic 108, 3) := by decide +kernel
theorem dX7_copy_95 : decode cX7_copy 95 = .ok (.ifCond .eq 9, 3) := by decide +kernel
theorem dX7_copy_98 : decode cX7_copy 98 = .ok (.aload_n 0, 1) := by decide +kernel
theorem dX7_copy_99 : decode cX7_copy 99 = .ok (.iconst 3, 1) := by decide +kernel
theorem dX7_copy_100 : decode cX7_copy 100 = .ok (.invokevirtual 105, 3) := by decide +kernel
theorem dX7_copy_103 : decode cX7_copy 103 = .ok (.ireturn, 1) := by decide +kernel
theorem dX7_copy_104 : decode cX7_copy 104 = .ok (.iconst 0, 1) := by decide +kernel
theorem dX7_copy_105 : decode cX7_copy 105 = .ok (.istore 6, 2) := by decide +kernel
theorem dX7_copy_107 : decode cX7_copy 107 = .ok (.iload 6, 2) := by decide +kernel
theorem dX7_copy_109 : decode cX7_copy 109 = .ok (.iload 5, 2) := by decide +kernel
theorem dX7_copy_111 : decode cX7_copy 111 = .ok (.if_icmp .ge 30, 3) := by decide +kernel
theorem dX7_copy_114 : decode cX7_copy 114 = .ok (.aload_n 0, 1) := by decide +kernel
theorem dX7_copy_115 : decode cX7_copy 115 = .ok (.getfield 77, 3) := by decide +kernel
theorem dX7_copy_118 : decode cX7_copy 118 = .ok (.iload 6, 2) := by decide +kernel
theorem dX7_copy_120 : decode cX7_copy 120 = .ok (.aload_n 0, 1) := by decide +kernel
theorem dX7_copy_121 : decode cX7_copy 121 = .ok (.getfield 74, 3) := by decide +kernel
theorem dX7_copy_124 : decode cX7_copy 124 = .ok (.bipush 80, 2) := by decide +kernel
theorem dX7_copy_126 : decode cX7_copy 126 = .ok (.iload_n 1, 1) := by decide +kernel
theorem dX7_copy_127 : decode cX7_copy 127 = .ok (.imul, 1) := by decide +kernel
theorem dX7_copy_128 : decode cX7_copy 128 = .ok (.iload_n 2, 1) := by decide +kernel
theorem dX7_copy_129 : decode cX7_copy 129 = .ok (.iadd, 1) := by decide +kernel
theorem dX7_copy_130 : decode cX7_copy 130 = .ok (.iload 6, 2) := by decide +kernel
theorem dX7_copy_132 : decode cX7_copy 132 = .ok (.iadd, 1) := by decide +kernel
theorem dX7_copy_133 : decode cX7_copy 133 = .ok (.iaload, 1) := by decide +kernel
theorem dX7_copy_134 : decode cX7_copy 134 = .ok (.iastore, 1) := by decide +kernel
theorem dX7_copy_135 : decode cX7_copy 135 = .ok (.iinc 6 1, 3) := by decide +kernel
theorem dX7_copy_138 : decode cX7_copy 138 = .ok (.goto (-31), 3) := by decide +kernel
theorem dX7_copy_141 : decode cX7_copy 141 = .ok (.iconst 0, 1) := by decide +kernel
theorem dX7_copy_142 : decode cX7_copy 142 = .ok (.istore 6, 2) := by decide +kernel
theorem dX7_copy_144 : decode cX7_copy 144 = .ok (.iload 6, 2) := by decide +kernel
theorem dX7_copy_146 : decode cX7_copy 146 = .ok (.iload 5, 2) := by decide +kernel
theorem dX7_copy_148 : decode cX7_copy 148 = .ok (.if_icmp .ge 31, 3) := by decide +kernel
theorem dX7_copy_151 : decode cX7_copy 151 = .ok (.aload_n 0, 1) := by decide +kernel
theorem dX7_copy_152 : decode cX7_copy 152 = .ok (.getfield 74, 3) := by decide +kernel
theorem dX7_copy_155 : decode cX7_copy 155 = .ok (.bipush 80, 2) := by decide +kernel
theorem dX7_copy_157 : decode cX7_copy 157 = .ok (.iload_n 3, 1) := by decide +kernel
theorem dX7_copy_158 : decode cX7_copy 158 = .ok (.imul, 1) := by decide +kernel
theorem dX7_copy_159 : decode cX7_copy 159 = .ok (.iload 4, 2) := by decide +kernel
theorem dX7_copy_161 : decode cX7_copy 161 = .ok (.iadd, 1) := by decide +kernel
theorem dX7_copy_162 : decode cX7_copy 162 = .ok (.iload 6, 2) := by decide +kernel
theorem dX7_copy_164 : decode cX7_copy 164 = .ok (.iadd, 1) := by decide +kernel
theorem dX7_copy_165 : decode cX7_copy 165 = .ok (.aload_n 0, 1) := by decide +kernel
theorem dX7_copy_166 : decode cX7_copy 166 = .ok (.getfield 77, 3) := by decide +kernel
theorem dX7_copy_169 : decode cX7_copy 169 = .ok (.iload 6, 2) := by decide +kernel
theorem dX7_copy_171 : decode cX7_copy 171 = .ok (.iaload, 1) := by decide +kernel
theorem dX7_copy_172 : decode cX7_copy 172 = .ok (.iastore, 1) := by decide +kernel
theorem dX7_copy_173 : decode cX7_copy 173 = .ok (.iinc 6 1, 3) := by decide +kernel
theorem dX7_copy_176 : decode cX7_copy 176 = .ok (.goto (-32), 3) := by decide +kernel
theorem dX7_copy_179 : decode cX7_copy 179 = .ok (.aload_n 0, 1) := by decide +kernel
theorem dX7_copy_180 : decode cX7_copy 180 = .ok (.iload 5, 2) := by decide +kernel
theorem dX7_copy_182 : decode cX7_copy 182 = .ok (.invokevirtual 101, 3) := by decide +kernel
theorem dX7_copy_185 : decode cX7_copy 185 = .ok (.ireturn, 1) := by decide +kernel
theorem dX7_traced_0 : decode cX7_traced 0 = .ok (.aload_n 0, 1) := by decide +kernel
theorem dX7_traced_1 : decode cX7_traced 1 = .ok (.bipush 31, 2) := by decide +kernel
theorem dX7_traced_3 : decode cX7_traced 3 = .ok (.aload_n 0, 1) := by decide +kernel
theorem dX7_traced_4 : decode cX7_traced 4 = .ok (.getfield 257, 3) := by decide +kernel
theorem dX7_traced_7 : decode cX7_traced 7 = .ok (.imul, 1) := by decide +kernel
theorem dX7_traced_8 : decode cX7_traced 8 = .ok (.iload_n 1, 1) := by decide +kernel
theorem dX7_traced_9 : decode cX7_traced 9 = .ok (.iadd, 1) := by decide +kernel
theorem dX7_traced_10 : decode cX7_traced 10 = .ok (.putfield 257, 3) := by decide +kernel
theorem dX7_traced_13 : decode cX7_traced 13 = .ok (.return_, 1) := by decide +kernel
theorem dX7_tell_0 : decode cX7_tell 0 = .ok (.aload_n 0, 1) := by decide +kernel
theorem dX7_tell_1 : decode cX7_tell 1 = .ok (.iload_n 1, 1) := by decide +kernel
theorem dX7_tell_2 : decode cX7_tell 2 = .ok (.invokevirtual 173, 3) := by decide +kernel
theorem dX7_tell_5 : decode cX7_tell 5 = .ok (.ifCond .eq 5, 3) := by decide +kernel
theorem dX7_tell_8 : decode cX7_tell 8 = .ok (.iconst (-1), 1) := by decide +kernel
theorem dX7_tell_9 : decode cX7_tell 9 = .ok (.ireturn, 1) := by decide +kernel
theorem dX7_tell_10 : decode cX7_tell 10 = .ok (.aload_n 0, 1) := by decide +kernel
theorem dX7_tell_11 : decode cX7_tell 11 = .ok (.getfield 19, 3) := by decide +kernel
theorem dX7_tell_14 : decode cX7_tell 14 = .ok (.iload_n 1, 1) := by decide +kernel
theorem dX7_tell_15 : decode cX7_tell 15 = .ok (.iaload, 1) := by decide +kernel
theorem dX7_tell_16 : decode cX7_tell 16 = .ok (.istore_n 2, 1) := by decide +kernel
theorem dX7_tell_17 : decode cX7_tell 17 = .ok (.iload_n 2, 1) := by decide +kernel
theorem dX7_tell_18 : decode cX7_tell 18 = .ok (.iconst 2, 1) := by decide +kernel
theorem dX7_tell_19 : decode cX7_tell 19 = .ok (.if_icmp .ne 8, 3) := by decide +kernel
theorem dX7_tell_22 : decode cX7_tell 22 = .ok (.aload_n 0, 1) := by decide +kernel
theorem dX7_tell_23 : decode cX7_tell 23 = .ok (.iconst 3, 1) := by decide +kernel
theorem dX7_tell_24 : decode cX7_tell 24 = .ok (.invokevirtual 260, 3) := by decide +kernel
theorem dX7_tell_27 : decode cX7_tell 27 = .ok (.iload_n 2, 1) := by decide +kernel
theorem dX7_tell_28 : decode cX7_tell 28 = .ok (.ifCond .le 8, 3) := by decide +kernel
theorem dX7_tell_31 : decode cX7_tell 31 = .ok (.aload_n 0, 1) := by decide +kernel
theorem dX7_tell_32 : decode cX7_tell 32 = .ok (.iconst 2, 1) := by decide +kernel
theorem dX7_tell_33 : decode cX7_tell 33 = .ok (.invokevirtual 260, 3) := by decide +kernel
theorem dX7_tell_36 : decode cX7_tell 36 = .ok (.aload_n 0, 1) := by decide +kernel
theorem dX7_tell_37 : decode cX7_tell 37 = .ok (.iconst 1, 1) := by decide +kernel
theorem dX7_tell_38 : decode cX7_tell 38 = .ok (.invokevirtual 260, 3) := by decide +kernel
theorem dX7_tell_41 : decode cX7_tell 41 = .ok (.iload_n 2, 1) := by decide +kernel
theorem dX7_tell_42 : decode cX7_tell 42 = .ok (.iconst 2, 1) := by decide +kernel
theorem dX7_tell_43 : decode cX7_tell 43 = .ok (.if_icmp .ne 8, 3) := by decide +kernel
theorem dX7_tell_46 : decode cX7_tell 46 = .ok (.aload_n 0, 1) := by decide +kernel
theorem dX7_tell_47 : decode cX7_tell 47 = .ok (.iconst 1, 1) := by decide +kernel
theorem dX7_tell_48 : decode cX7_tell 48 = .ok (.invokevirtual 260, 3) := by decide +kernel
theorem dX7_tell_51 : decode cX7_tell 51 = .ok (.iload_n 2, 1) := by decide +kernel
theorem dX7_tell_52 : decode cX7_tell 52 = .ok (.ifCond .ne 12, 3) := by decide +kernel
theorem dX7_tell_55 : decode cX7_tell 55 = .ok (.aload_n 0, 1) := by decide +kernel
theorem dX7_tell_56 : decode cX7_tell 56 = .ok (.getfield 28, 3) := by decide +kernel
theorem dX7_tell_59 : decode cX7_tell 59 = .ok (.iload_n 1, 1) := by decide +kernel
theorem dX7_tell_60 : decode cX7_tell 60 = .ok (.iaload, 1) := by decide +kernel
theorem dX7_tell_61 : decode cX7_tell 61 = .ok (.goto 31, 3) := by decide +kernel
theorem dX7_tell_64 : decode cX7_tell 64 = .ok (.iload_n 2, 1) := by decide +kernel
theorem dX7_tell_65 : decode cX7_tell 65 = .ok (.iconst 1, 1) := by decide +kernel
theorem dX7_tell_66 : decode cX7_tell 66 = .ok (.if_icmp .ne 15, 3) := by decide +kernel
theorem dX7_tell_69 : decode cX7_tell 69 = .ok (.aload_n 0, 1) := by decide +kernel
theorem dX7_tell_70 : decode cX7_tell 70 = .ok (.getfield 28, 3) := by decide +kernel
theorem dX7_tell_73 : decode cX7_tell 73 = .ok (.iload_n 1, 1) := by decide +kernel
theorem dX7_tell_74 : decode cX7_tell 74 = .ok (.iaload, 1) := by decide +kernel
theorem dX7_tell_75 : decode cX7_tell 75 = .ok (.bipush 100, 2) := by decide +kernel
theorem dX7_tell_77 : decode cX7_tell 77 = .ok (.iadd, 1) := by decide +kernel
theorem dX7_tell_78 : decode cX7_tell 78 = .ok (.goto 14, 3) := by decide +kernel
theorem dX7_tell_81 : decode cX7_tell 81 = .ok (.iconst 2, 1) := by decide +kernel
theorem dX7_tell_82 : decode cX7_tell 82 = .ok (.aload_n 0, 1) := by decide +kernel
theorem dX7_tell_83 : decode cX7_tell 83 = .ok (.getfield 28, 3) := by decide +kernel
theorem dX7_tell_86 : decode cX7_tell 86 = .ok (.iload_n 1, 1) := by decide +kernel
theorem dX7_tell_87 : decode cX7_tell 87 = .ok (.iaload, 1) := by decide +kernel
theorem dX7_tell_88 : decode cX7_tell 88 = .ok (.imul, 1) := by decide +kernel
theorem dX7_tell_89 : decode cX7_tell 89 = .ok (.bipush 100, 2) := by decide +kernel
theorem dX7_tell_91 : decode cX7_tell 91 = .ok (.iadd, 1) := by decide +kernel
theorem dX7_tell_92 : decode cX7_tell 92 = .ok (.ireturn, 1) := by decide +kernel
theorem dX7_ring_0 : decode cX7_ring 0 = .ok (.aload_n 0, 1) := by decide +kernel
theorem dX7_ring_1 : decode cX7_ring 1 = .ok (.iload_n 1, 1) := by decide +kernel
theorem dX7_ring_2 : decode cX7_ring 2 = .ok (.invokevirtual 173, 3) := by decide +kernel
theorem dX7_ring_5 : decode cX7_ring 5 = .ok (.ifCond .eq 5, 3) := by decide +kernel
theorem dX7_ring_8 : decode cX7_ring 8 = .ok (.iconst (-1), 1) := by decide +kernel
theorem dX7_ring_9 : decode cX7_ring 9 = .ok (.ireturn, 1) := by decide +kernel
theorem dX7_ring_10 : decode cX7_ring 10 = .ok (.aload_n 0, 1) := by decide +kernel
theorem dX7_ring_11 : decode cX7_ring 11 = .ok (.aload_n 0, 1) := by decide +kernel
theorem dX7_ring_12 : decode cX7_ring 12 = .ok (.getfield 19, 3) := by decide +kernel
theorem dX7_ring_15 : decode cX7_ring 15 = .ok (.iload_n 1, 1) := by decide +kernel
theorem dX7_ring_16 : decode cX7_ring 16 = .ok (.iaload, 1) := by decide +kernel
theorem dX7_ring_17 : decode cX7_ring 17 = .ok (.iconst 2, 1) := by decide +kernel
theorem dX7_ring_18 : decode cX7_ring 18 = .ok (.if_icmp .ne 7, 3) := by decide +kernel
theorem dX7_ring_21 : decode cX7_ring 21 = .ok (.iconst 5, 1) := by decide +kernel
theorem dX7_ring_22 : decode cX7_ring 22 = .ok (.goto 4, 3) := by decide +kernel
theorem dX7_ring_25 : decode cX7_ring 25 = .ok (.iconst 4, 1) := by decide +kernel
theorem dX7_ring_26 : decode cX7_ring 26 = .ok (.invokevirtual 260, 3) := by decide +kernel
theorem dX7_ring_29 : decode cX7_ring 29 = .ok (.aload_n 0, 1) := by decide +kernel
theorem dX7_ring_30 : decode cX7_ring 30 = .ok (.getfield 19, 3) := by decide +kernel
theorem dX7_ring_33 : decode cX7_ring 33 = .ok (.iload_n 1, 1) := by decide +kernel
theorem dX7_ring_34 : decode cX7_ring 34 = .ok (.iaload, 1) := by decide +kernel
theorem dX7_ring_35 : decode cX7_ring 35 = .ok (.iconst 2, 1) := by decide +kernel
theorem dX7_ring_36 : decode cX7_ring 36 = .ok (.if_icmp .ne 8, 3) := by decide +kernel
theorem dX7_ring_39 : decode cX7_ring 39 = .ok (.bipush 44, 2) := by decide +kernel
theorem dX7_ring_41 : decode cX7_ring 41 = .ok (.goto 4, 3) := by decide +kernel
theorem dX7_ring_44 : decode cX7_ring 44 = .ok (.iload_n 1, 1) := by decide +kernel
theorem dX7_ring_45 : decode cX7_ring 45 = .ok (.ireturn, 1) := by decide +kernel
theorem dX7_as_0 : decode cX7_as 0 = .ok (.aload_n 0, 1) := by decide +kernel
theorem dX7_as_1 : decode cX7_as 1 = .ok (.iload_n 1, 1) := by decide +kernel
theorem dX7_as_2 : decode cX7_as 2 = .ok (.invokevirtual 173, 3) := by decide +kernel
theorem dX7_as_5 : decode cX7_as 5 = .ok (.ifCond .eq 9, 3) := by decide +kernel
theorem dX7_as_8 : decode cX7_as 8 = .ok (.aload_n 0, 1) := by decide +kernel
theorem dX7_as_9 : decode cX7_as 9 = .ok (.iconst (-1), 1) := by decide +kernel
theorem dX7_as_10 : decode cX7_as 10 = .ok (.invokevirtual 101, 3) := by decide +kernel
theorem dX7_as_13 : decode cX7_as 13 = .ok (.ireturn, 1) := by decide +kernel
theorem dX7_as_14 : decode cX7_as 14 = .ok (.iload_n 2, 1) := by decide +kernel
theorem dX7_as_15 : decode cX7_as 15 = .ok (.i2l, 1) := by decide +kernel
theorem dX7_as_16 : decode cX7_as 16 = .ok (.lconst 0, 1) := by decide +kernel
theorem dX7_as_17 : decode cX7_as 17 = .ok (.ldc2_w 99, 3) := by decide +kernel
theorem dX7_as_20 : decode cX7_as 20 = .ok (.invokestatic 88, 3) := by decide +kernel
theorem dX7_as_23 : decode cX7_as 23 = .ok (.ifCond .ne 10, 3) := by decide +kernel
theorem dX7_as_26 : decode cX7_as 26 = .ok (.aload_n 0, 1) := by decide +kernel
theorem dX7_as_27 : decode cX7_as 27 = .ok (.bipush (-2), 2) := by decide +kernel
theorem dX7_as_29 : decode cX7_as 29 = .ok (.invokevirtual 101, 3) := by decide +kernel
theorem dX7_as_32 : decode cX7_as 32 = .ok (.ireturn, 1) := by decide +kernel
theorem dX7_as_33 : decode cX7_as 33 = .ok (.aload_n 0, 1) := by decide +kernel
theorem dX7_as_34 : decode cX7_as 34 = .ok (.getfield 19, 3) := by decide +kernel
theorem dX7_as_37 : decode cX7_as 37 = .ok (.iload_n 1, 1) := by decide +kernel
theorem dX7_as_38 : decode cX7_as 38 = .ok (.iaload, 1) := by decide +kernel
theorem dX7_as_39 : decode cX7_as 39 = .ok (.iload_n 2, 1) := by decide +kernel
theorem dX7_as_40 : decode cX7_as 40 = .ok (.if_icmp .lt 11, 3) := by decide +kernel
theorem dX7_as_43 : decode cX7_as 43 = .ok (.aload_n 0, 1) := by decide +kernel
theorem dX7_as_44 : decode cX7_as 44 = .ok (.iconst 1, 1) := by decide +kernel
theorem dX7_as_45 : decode cX7_as 45 = .ok (.invokevirtual 101, 3) := by decide +kernel
theorem dX7_as_48 : decode cX7_as 48 = .ok (.goto 8, 3) := by decide +kernel
theorem dX7_as_51 : decode cX7_as 51 = .ok (.aload_n 0, 1) := by decide +kernel
theorem dX7_as_52 : decode cX7_as 52 = .ok (.iconst 2, 1) := by decide +kernel
theorem dX7_as_53 : decode cX7_as 53 = .ok (.invokevirtual 105, 3) := by decide +kernel
theorem dX7_as_56 : decode cX7_as 56 = .ok (.ireturn, 1) := by decide +kernel
theorem dX7_trace_0 : decode cX7_trace 0 = .ok (.aload_n 0, 1) := by decide +kernel
theorem dX7_trace_1 : decode cX7_trace 1 = .ok (.getfield 257, 3) := by decide +kernel
theorem dX7_trace_4 : decode cX7_trace 4 = .ok (.ireturn, 1) := by decide +kernel
theorem dX7_fault_0 : decode cX7_fault 0 = .ok (.aload_n 0, 1) := by decide +kernel
theorem dX7_fault_1 : decode cX7_fault 1 = .ok (.getfield 92, 3) := by decide +kernel
theorem dX7_fault_4 : decode cX7_fault 4 = .ok (.ireturn, 1) := by decide +kernel
theorem dX7_many_0 : decode cX7_many 0 = .ok (.iconst 0, 1) := by decide +kernel
theorem dX7_many_1 : decode cX7_many 1 = .ok (.istore_n 2, 1) := by decide +kernel
theorem dX7_many_2 : decode cX7_many 2 = .ok (.iconst 0, 1) := by decide +kernel
theorem dX7_many_3 : decode cX7_many 3 = .ok (.istore_n 3, 1) := by decide +kernel
theorem dX7_many_4 : decode cX7_many 4 = .ok (.iconst 0, 1) := by decide +kernel
theorem dX7_many_5 : decode cX7_many 5 = .ok (.istore 4, 2) := by decide +kernel
theorem dX7_many_7 : decode cX7_many 7 = .ok (.iload 4, 2) := by decide +kernel
theorem dX7_many_9 : decode cX7_many 9 = .ok (.aload_n 0, 1) := by decide +kernel
theorem dX7_many_10 : decode cX7_many 10 = .ok (.getfield 112, 3) := by decide +kernel
theorem dX7_many_13 : decode cX7_many 13 = .ok (.if_icmp .ge 19, 3) := by decide +kernel
theorem dX7_many_16 : decode cX7_many 16 = .ok (.iload_n 2, 1) := by decide +kernel
theorem dX7_many_17 : decode cX7_many 17 = .ok (.aload_n 0, 1) := by decide +kernel
theorem dX7_many_18 : decode cX7_many 18 = .ok (.getfield 16, 3) := by decide +kernel
theorem dX7_many_21 : decode cX7_many 21 = .ok (.iload 4, 2) := by decide +kernel
theorem dX7_many_23 : decode cX7_many 23 = .ok (.iaload, 1) := by decide +kernel
theorem dX7_many_24 : decode cX7_many 24 = .ok (.iadd, 1) := by decide +kernel
theorem dX7_many_25 : decode cX7_many 25 = .ok (.istore_n 2, 1) := by decide +kernel
theorem dX7_many_26 : decode cX7_many 26 = .ok (.iinc 4 1, 3) := by decide +kernel
theorem dX7_many_29 : decode cX7_many 29 = .ok (.goto (-22), 3) := by decide +kernel
theorem dX7_many_32 : decode cX7_many 32 = .ok (.iconst 0, 1) := by decide +kernel
theorem dX7_many_33 : decode cX7_many 33 = .ok (.istore 4, 2) := by decide +kernel
theorem dX7_many_35 : decode cX7_many 35 = .ok (.iload 4, 2) := by decide +kernel
theorem dX7_many_37 : decode cX7_many 37 = .ok (.aload_n 0, 1) := by decide +kernel
theorem dX7_many_38 : decode cX7_many 38 = .ok (.getfield 115, 3) := by decide +kernel
theorem dX7_many_41 : decode cX7_many 41 = .ok (.if_icmp .ge 19, 3) := by decide +kernel
theorem dX7_many_44 : decode cX7_many 44 = .ok (.iload_n 3, 1) := by decide +kernel
theorem dX7_many_45 : decode cX7_many 45 = .ok (.aload_n 0, 1) := by decide +kernel
theorem dX7_many_46 : decode cX7_many 46 = .ok (.getfield 28, 3) := by decide +kernel
theorem dX7_many_49 : decode cX7_many 49 = .ok (.iload 4, 2) := by decide +kernel
theorem dX7_many_51 : decode cX7_many 51 = .ok (.iaload, 1) := by decide +kernel
theorem dX7_many_52 : decode cX7_many 52 = .ok (.iadd, 1) := by decide +kernel
theorem dX7_many_53 : decode cX7_many 53 = .ok (.istore_n 3, 1) := by decide +kernel
theorem dX7_many_54 : decode cX7_many 54 = .ok (.iinc 4 1, 3) := by decide +kernel
theorem dX7_many_57 : decode cX7_many 57 = .ok (.goto (-22), 3) := by decide +kernel
theorem dX7_many_60 : decode cX7_many 60 = .ok (.iload_n 1, 1) := by decide +kernel
theorem dX7_many_61 : decode cX7_many 61 = .ok (.ifCond .ne 10, 3) := by decide +kernel
theorem dX7_many_64 : decode cX7_many 64 = .ok (.aload_n 0, 1) := by decide +kernel
theorem dX7_many_65 : decode cX7_many 65 = .ok (.getfield 112, 3) := by decide +kernel
theorem dX7_many_68 : decode cX7_many 68 = .ok (.goto 47, 3) := by decide +kernel
theorem dX7_many_71 : decode cX7_many 71 = .ok (.iload_n 1, 1) := by decide +kernel
theorem dX7_many_72 : decode cX7_many 72 = .ok (.iconst 1, 1) := by decide +kernel
theorem dX7_many_73 : decode cX7_many 73 = .ok (.if_icmp .ne 10, 3) := by decide +kernel
theorem dX7_many_76 : decode cX7_many 76 = .ok (.aload_n 0, 1) := by decide +kernel
theorem dX7_many_77 : decode cX7_many 77 = .ok (.getfield 115, 3) := by decide +kernel
theorem dX7_many_80 : decode cX7_many 80 = .ok (.goto 35, 3) := by decide +kernel
theorem dX7_many_83 : decode cX7_many 83 = .ok (.iload_n 1, 1) := by decide +kernel
theorem dX7_many_84 : decode cX7_many 84 = .ok (.iconst 2, 1) := by decide +kernel
theorem dX7_many_85 : decode cX7_many 85 = .ok (.if_icmp .ne 10, 3) := by decide +kernel
theorem dX7_many_88 : decode cX7_many 88 = .ok (.aload_n 0, 1) := by decide +kernel
theorem dX7_many_89 : decode cX7_many 89 = .ok (.getfield 239, 3) := by decide +kernel
theorem dX7_many_92 : decode cX7_many 92 = .ok (.goto 23, 3) := by decide +kernel
theorem dX7_many_95 : decode cX7_many 95 = .ok (.iload_n 1, 1) := by decide +kernel
theorem dX7_many_96 : decode cX7_many 96 = .ok (.iconst 3, 1) := by decide +kernel
theorem dX7_many_97 : decode cX7_many 97 = .ok (.if_icmp .ne 7, 3) := by decide +kernel
theorem dX7_many_100 : decode cX7_many 100 = .ok (.iload_n 2, 1) := by decide +kernel
theorem dX7_many_101 : decode cX7_many 101 = .ok (.goto 14, 3) := by decide +kernel
theorem dX7_many_104 : decode cX7_many 104 = .ok (.iload_n 1, 1) := by decide +kernel
theorem dX7_many_105 : decode cX7_many 105 = .ok (.iconst 4, 1) := by decide +kernel
theorem dX7_many_106 : decode cX7_many 106 = .ok (.if_icmp .ne 7, 3) := by decide +kernel
theorem dX7_many_109 : decode cX7_many 109 = .ok (.iload_n 3, 1) := by decide +kernel
theorem dX7_many_110 : decode cX7_many 110 = .ok (.goto 5, 3) := by decide +kernel
theorem dX7_many_113 : decode cX7_many 113 = .ok (.bipush (-2), 2) := by decide +kernel
theorem dX7_many_115 : decode cX7_many 115 = .ok (.ireturn, 1) := by decide +kernel
end
section
theorem dL_law_0 : decode cL_law 0 = .ok (.new 7, 3) := by decide +kernel
theorem dL_law_3 : decode cL_law 3 = .ok (.dup, 1) := by decide +kernel
theorem dL_law_4 : decode cL_law 4 = .ok (.invokespecial 9, 3) := by decide +kernel
theorem dL_law_7 : decode cL_law 7 = .ok (.astore_n 1, 1) := by decide +kernel
theorem dL_law_8 : decode cL_law 8 = .ok (.new 10, 3) := by decide +kernel
theorem dL_law_11 : decode cL_law 11 = .ok (.dup, 1) := by decide +kernel
theorem dL_law_12 : decode cL_law 12 = .ok (.invokespecial 12, 3) := by decide +kernel
theorem dL_law_15 : decode cL_law 15 = .ok (.astore_n 2, 1) := by decide +kernel
theorem dL_law_16 : decode cL_law 16 = .ok (.iconst 0, 1) := by decide +kernel
theorem dL_law_17 : decode cL_law 17 = .ok (.istore_n 3, 1) := by decide +kernel
theorem dL_law_18 : decode cL_law 18 = .ok (.iload_n 3, 1) := by decide +kernel
theorem dL_law_19 : decode cL_law 19 = .ok (.aload_n 0, 1) := by decide +kernel
theorem dL_law_20 : decode cL_law 20 = .ok (.arraylength, 1) := by decide +kernel
theorem dL_law_21 : decode cL_law 21 = .ok (.bipush 6, 2) := by decide +kernel
theorem dL_law_23 : decode cL_law 23 = .ok (.isub, 1) := by decide +kernel
theorem dL_law_24 : decode cL_law 24 = .ok (.if_icmp .gt 1229, 3) := by decide +kernel
theorem dL_law_27 : decode cL_law 27 = .ok (.aload_n 0, 1) := by decide +kernel
theorem dL_law_28 : decode cL_law 28 = .ok (.iload_n 3, 1) := by decide +kernel
theorem dL_law_29 : decode cL_law 29 = .ok (.iaload, 1) := by decide +kernel
theorem dL_law_30 : decode cL_law 30 = .ok (.bipush 63, 2) := by decide +kernel
theorem dL_law_32 : decode cL_law 32 = .ok (.iand, 1) := by decide +kernel
theorem dL_law_33 : decode cL_law 33 = .ok (.tableswitch 1214 0 32 #[147, 190, 243, 296, 329, 362, 421, 454, 477, 520, 533, 546, 569, 592, 645, 668, 691, 735, 768, 801, 824, 847, 870, 913, 936, 979, 1023, 1086, 1109, 1132, 1165, 1178, 1191], 147) := by decide +kernel
theorem dL_law_180 : decode cL_law 180 = .ok (.aload_n 1, 1) := by decide +kernel
theorem dL_law_181 : decode cL_law 181 = .ok (.aload_n 0, 1) := by decide +kernel
theorem dL_law_182 : decode cL_law 182 = .ok (.iload_n 3, 1) := by decide +kernel
theorem dL_law_183 : decode cL_law 183 = .ok (.iconst 1, 1) := by decide +kernel
theorem dL_law_184 : decode cL_law 184 = .ok (.iadd, 1) := by decide +kernel
theorem dL_law_185 : decode cL_law 185 = .ok (.iaload, 1) := by decide +kernel
theorem dL_law_186 : decode cL_law 186 = .ok (.aload_n 0, 1) := by decide +kernel
theorem dL_law_187 : decode cL_law 187 = .ok (.iload_n 3, 1) := by decide +kernel
theorem dL_law_188 : decode cL_law 188 = .ok (.iconst 2, 1) := by decide +kernel
theorem dL_law_189 : decode cL_law 189 = .ok (.iadd, 1) := by decide +kernel
theorem dL_law_190 : decode cL_law 190 = .ok (.iaload, 1) := by decide +kernel
theorem dL_law_191 : decode cL_law 191 = .ok (.aload_n 0, 1) := by decide +kernel
theorem dL_law_192 : decode cL_law 192 = .ok (.iload_n 3, 1) := by decide +kernel
theorem dL_law_193 : decode cL_law 193 = .ok (.iconst 3, 1) := by decide +kernel
theorem dL_law_194 : decode cL_law 194 = .ok (.iadd, 1) := by decide +kernel
theorem dL_law_195 : decode cL_law 195 = .ok (.iaload, 1) := by decide +kernel
theorem dL_law_196 : decode cL_law 196 = .ok (.invokevirtual 13, 3) := by decide +kernel
theorem dL_law_199 : decode cL_law 199 = .ok (.aload_n 2, 1) := by decide +kernel
theorem dL_law_200 : decode cL_law 200 = .ok (.aload_n 0, 1) := by decide +kernel
theorem dL_law_201 : decode cL_law 201 = .ok (.iload_n 3, 1) := by decide +kernel
theorem dL_law_202 : decode cL_law 202 = .ok (.iconst 1, 1) := by decide +kernel
theorem dL_law_203 : decode cL_law 203 = .ok (.iadd, 1) := by decide +kernel
theorem dL_law_204 : decode cL_law 204 = .ok (.iaload, 1) := by decide +kernel
theorem dL_law_205 : decode cL_law 205 = .ok (.aload_n 0, 1) := by decide +kernel
theorem dL_law_206 : decode cL_law 206 = .ok (.iload_n 3, 1) := by decide +kernel
theorem dL_law_207 : decode cL_law 207 = .ok (.iconst 2, 1) := by decide +kernel
theorem dL_law_208 : decode cL_law 208 = .ok (.iadd, 1) := by decide +kernel
theorem dL_law_209 : decode cL_law 209 = .ok (.iaload, 1) := by decide +kernel
theorem dL_law_210 : decode cL_law 210 = .ok (.aload_n 0, 1) := by decide +kernel
theorem dL_law_211 : decode cL_law 211 = .ok (.iload_n 3, 1) := by decide +kernel
theorem dL_law_212 : decode cL_law 212 = .ok (.iconst 3, 1) := by decide +kernel
theorem dL_law_213 : decode cL_law 213 = .ok (.iadd, 1) := by decide +kernel
theorem dL_law_214 : decode cL_law 214 = .ok (.iaload, 1) := by decide +kernel
theorem dL_law_215 : decode cL_law 215 = .ok (.invokevirtual 17, 3) := by decide +kernel
theorem dL_law_218 : decode cL_law 218 = .ok (.if_icmp .eq 1029, 3) := by decide +kernel
theorem dL_law_221 : decode cL_law 221 = .ok (.iconst 0, 1) := by decide +kernel
theorem dL_law_222 : decode cL_law 222 = .ok (.ireturn, 1) := by decide +kernel
theorem dL_law_223 : decode cL_law 223 = .ok (.aload_n 1, 1) := by decide +kernel
theorem dL_law_224 : decode cL_law 224 = .ok (.aload_n 0, 1) := by decide +kernel
theorem dL_law_225 : decode cL_law 225 = .ok (.iload_n 3, 1) := by decide +kernel
theorem dL_law_226 : decode cL_law 226 = .ok (.iconst 1, 1) := by decide +kernel
theorem dL_law_227 : decode cL_law 227 = .ok (.iadd, 1) := by decide +kernel
theorem dL_law_228 : decode cL_law 228 = .ok (.iaload, 1) := by decide +kernel
theorem dL_law_229 : decode cL_law 229 = .ok (.aload_n 0, 1) := by decide +kernel
theorem dL_law_230 : decode cL_law 230 = .ok (.iload_n 3, 1) := by decide +kernel
theorem dL_law_231 : decode cL_law 231 = .ok (.iconst 2, 1) := by decide +kernel
theorem dL_law_232 : decode cL_law 232 = .ok (.iadd, 1) := by decide +kernel
theorem dL_law_233 : decode cL_law 233 = .ok (.iaload, 1) := by decide +kernel
theorem dL_law_234 : decode cL_law 234 = .ok (.aload_n 0, 1) := by decide +kernel
theorem dL_law_235 : decode cL_law 235 = .ok (.iload_n 3, 1) := by decide +kernel
theorem dL_law_236 : decode cL_law 236 = .ok (.iconst 3, 1) := by decide +kernel
theorem dL_law_237 : decode cL_law 237 = .ok (.iadd, 1) := by decide +kernel
theorem dL_law_238 : decode cL_law 238 = .ok (.iaload, 1) := by decide +kernel
theorem dL_law_239 : decode cL_law 239 = .ok (.aload_n 0, 1) := by decide +kernel
theorem dL_law_240 : decode cL_law 240 = .ok (.iload_n 3, 1) := by decide +kernel
theorem dL_law_241 : decode cL_law 241 = .ok (.iconst 4, 1) := by decide +kernel
theorem dL_law_242 : decode cL_law 242 = .ok (.iadd, 1) := by decide +kernel
theorem dL_law_243 : decode cL_law 243 = .ok (.iaload, 1) := by decide +kernel
theorem dL_law_244 : decode cL_law 244 = .ok (.invokevirtual 18, 3) := by decide +kernel
theorem dL_law_247 : decode cL_law 247 = .ok (.aload_n 2, 1) := by decide +kernel
theorem dL_law_248 : decode cL_law 248 = .ok (.aload_n 0, 1) := by decide +kernel
theorem dL_law_249 : decode cL_law 249 = .ok (.iload_n 3, 1) := by decide +kernel
theorem dL_law_250 : decode cL_law 250 = .ok (.iconst 1, 1) := by decide +kernel
theorem dL_law_251 : decode cL_law 251 = .ok (.iadd, 1) := by decide +kernel
theorem dL_law_252 : decode cL_law 252 = .ok (.iaload, 1) := by decide +kernel
theorem dL_law_253 : decode cL_law 253 = .ok (.aload_n 0, 1) := by decide +kernel
theorem dL_law_254 : decode cL_law 254 = .ok (.iload_n 3, 1) := by decide +kernel
theorem dL_law_255 : decode cL_law 255 = .ok (.iconst 2, 1) := by decide +kernel
theorem dL_law_256 : decode cL_law 256 = .ok (.iadd, 1) := by decide +kernel
theorem dL_law_257 : decode cL_law 257 = .ok (.iaload, 1) := by decide +kernel
theorem dL_law_258 : decode cL_law 258 = .ok (.aload_n 0, 1) := by decide +kernel
theorem dL_law_259 : decode cL_law 259 = .ok (.iload_n 3, 1) := by decide +kernel
theorem dL_law_260 : decode cL_law 260 = .ok (.iconst 3, 1) := by decide +kernel
theorem dL_law_261 : decode cL_law 261 = .ok (.iadd, 1) := by decide +kernel
theorem dL_law_262 : decode cL_law 262 = .ok (.iaload, 1) := by decide +kernel
theorem dL_law_263 : decode cL_law 263 = .ok (.aload_n 0, 1) := by decide +kernel
theorem dL_law_264 : decode cL_law 264 = .ok (.iload_n 3, 1) := by decide +kernel
theorem dL_law_265 : decode cL_law 265 = .ok (.iconst 4, 1) := by decide +kernel
theorem dL_law_266 : decode cL_law 266 = .ok (.iadd, 1) := by decide +kernel
theorem dL_law_267 : decode cL_law 267 = .ok (.iaload, 1) := by decide +kernel
theorem dL_law_268 : decode cL_law 268 = .ok (.invokevirtual 22, 3) := by decide +kernel
theorem dL_law_271 : decode cL_law 271 = .ok (.if_icmp .eq 976, 3) := by decide +kernel
theorem dL_law_274 : decode cL_law 274 = .ok (.iconst 0, 1) := by decide +kernel
theorem dL_law_275 : decode cL_law 275 = .ok (.ireturn, 1) := by decide +kernel
theorem dL_law_276 : decode cL_law 276 = .ok (.aload_n 1, 1) := by decide +kernel
theorem dL_law_277 : decode cL_law 277 = .ok (.aload_n 0, 1) := by decide +kernel
theorem dL_law_278 : decode cL_law 278 = .ok (.iload_n 3, 1) := by decide +kernel
theorem dL_law_279 : decode cL_law 279 = .ok (.iconst 1, 1) := by decide +kernel
theorem dL_law_280 : decode cL_law 280 = .ok (.iadd, 1) := by decide +kernel
theorem dL_law_281 : decode cL_law 281 = .ok (.iaload, 1) := by decide +kernel
theorem dL_law_282 : decode cL_law 282 = .ok (.aload_n 0, 1) := by decide +kernel
theorem dL_law_283 : decode cL_law 283 = .ok (.iload_n 3, 1) := by decide +kernel
theorem dL_law_284 : decode cL_law 284 = .ok (.iconst 2, 1) := by decide +kernel
theorem dL_law_285 : decode cL_law 285 = .ok (.iadd, 1) := by decide +kernel
theorem dL_law_286 : decode cL_law 286 = .ok (.iaload, 1) := by decide +kernel
theorem dL_law_287 : decode cL_law 287 = .ok (.aload_n 0, 1) := by decide +kernel
theorem dL_law_288 : decode cL_law 288 = .ok (.iload_n 3, 1) := by decide +kernel
theorem dL_law_289 : decode cL_law 289 = .ok (.iconst 3, 1) := by decide +kernel
theorem dL_law_290 : decode cL_law 290 = .ok (.iadd, 1) := by decide +kernel
theorem dL_law_291 : decode cL_law 291 = .ok (.iaload, 1) := by decide +kernel
theorem dL_law_292 : decode cL_law 292 = .ok (.aload_n 0, 1) := by decide +kernel
theorem dL_law_293 : decode cL_law 293 = .ok (.iload_n 3, 1) := by decide +kernel
theorem dL_law_294 : decode cL_law 294 = .ok (.iconst 4, 1) := by decide +kernel
theorem dL_law_295 : decode cL_law 295 = .ok (.iadd, 1) := by decide +kernel
theorem dL_law_296 : decode cL_law 296 = .ok (.iaload, 1) := by decide +kernel
theorem dL_law_297 : decode cL_law 297 = .ok (.invokevirtual 23, 3) := by decide +kernel
theorem dL_law_300 : decode cL_law 300 = .ok (.aload_n 2, 1) := by decide +kernel
theorem dL_law_301 : decode cL_law 301 = .ok (.aload_n 0, 1) := by decide +kernel
theorem dL_law_302 : decode cL_law 302 = .ok (.iload_n 3, 1) := by decide +kernel
theorem dL_law_303 : decode cL_law 303 = .ok (.iconst 1, 1) := by decide +kernel
theorem dL_law_304 : decode cL_law 304 = .ok (.iadd, 1) := by decide +kernel
theorem dL_law_305 : decode cL_law 305 = .ok (.iaload, 1) := by decide +kernel
theorem dL_law_306 : decode cL_law 306 = .ok (.aload_n 0, 1) := by decide +kernel
theorem dL_law_307 : decode cL_law 307 = .ok (.iload_n 3, 1) := by decide +kernel
theorem dL_law_308 : decode cL_law 308 = .ok (.iconst 2, 1) := by decide +kernel
theorem dL_law_309 : decode cL_law 309 = .ok (.iadd, 1) := by decide +kernel
theorem dL_law_310 : decode cL_law 310 = .ok (.iaload, 1) := by decide +kernel
theorem dL_law_311 : decode cL_law 311 = .ok (.aload_n 0, 1) := by decide +kernel
theorem dL_law_312 : decode cL_law 312 = .ok (.iload_n 3, 1) := by decide +kernel
theorem dL_law_313 : decode cL_law 313 = .ok (.iconst 3, 1) := by decide +kernel
theorem dL_law_314 : decode cL_law 314 = .ok (.iadd, 1) := by decide +kernel
theorem dL_law_315 : decode cL_law 315 = .ok (.iaload, 1) := by decide +kernel
theorem dL_law_316 : decode cL_law 316 = .ok (.aload_n 0, 1) := by decide +kernel
theorem dL_law_317 : decode cL_law 317 = .ok (.iload_n 3, 1) := by decide +kernel
theorem dL_law_318 : decode cL_law 318 = .ok (.iconst 4, 1) := by decide +kernel
theorem dL_law_319 : decode cL_law 319 = .ok (.iadd, 1) := by decide +kernel
theorem dL_law_320 : decode cL_law 320 = .ok (.iaload, 1) := by decide +kernel
theorem dL_law_321 : decode cL_law 321 = .ok (.invokevirtual 26, 3) := by decide +kernel
theorem dL_law_324 : decode cL_law 324 = .ok (.if_icmp .eq 923, 3) := by decide +kernel
theorem dL_law_327 : decode cL_law 327 = .ok (.iconst 0, 1) := by decide +kernel
theorem dL_law_328 : decode cL_law 328 = .ok (.ireturn, 1) := by decide +kernel
theorem dL_law_329 : decode cL_law 329 = .ok (.aload_n 1, 1) := by decide +kernel
theorem dL_law_330 : decode cL_law 330 = .ok (.aload_n 0, 1) := by decide +kernel
theorem dL_law_331 : decode cL_law 331 = .ok (.iload_n 3, 1) := by decide +kernel
theorem dL_law_332 : decode cL_law 332 = .ok (.iconst 1, 1) := by decide +kernel
theorem dL_law_333 : decode cL_law 333 = .ok (.iadd, 1) := by decide +kernel
theorem dL_law_334 : decode cL_law 334 = .ok (.iaload, 1) := by decide +kernel
theorem dL_law_335 : decode cL_law 335 = .ok (.aload_n 0, 1) := by decide +kernel
theorem dL_law_336 : decode cL_law 336 = .ok (.iload_n 3, 1) := by decide +kernel
theorem dL_law_337 : decode cL_law 337 = .ok (.iconst 2, 1) := by decide +kernel
theorem dL_law_338 : decode cL_law 338 = .ok (.iadd, 1) := by decide +kernel
theorem dL_law_339 : decode cL_law 339 = .ok (.iaload, 1) := by decide +kernel
theorem dL_law_340 : decode cL_law 340 = .ok (.invokevirtual 27, 3) := by decide +kernel
theorem dL_law_343 : decode cL_law 343 = .ok (.aload_n 2, 1) := by decide +kernel
theorem dL_law_344 : decode cL_law 344 = .ok (.aload_n 0, 1) := by decide +kernel
theorem dL_law_345 : decode cL_law 345 = .ok (.iload_n 3, 1) := by decide +kernel
theorem dL_law_346 : decode cL_law 346 = .ok (.iconst 1, 1) := by decide +kernel
theorem dL_law_347 : decode cL_law 347 = .ok (.iadd, 1) := by decide +kernel
theorem dL_law_348 : decode cL_law 348 = .ok (.iaload, 1) := by decide +kernel
theorem dL_law_349 : decode cL_law 349 = .ok (.aload_n 0, 1) := by decide +kernel
theorem dL_law_350 : decode cL_law 350 = .ok (.iload_n 3, 1) := by decide +kernel
theorem dL_law_351 : decode cL_law 351 = .ok (.iconst 2, 1) := by decide +kernel
theorem dL_law_352 : decode cL_law 352 = .ok (.iadd, 1) := by decide +kernel
theorem dL_law_353 : decode cL_law 353 = .ok (.iaload, 1) := by decide +kernel
theorem dL_law_354 : decode cL_law 354 = .ok (.invokevirtual 31, 3) := by decide +kernel
theorem dL_law_357 : decode cL_law 357 = .ok (.if_icmp .eq 890, 3) := by decide +kernel
theorem dL_law_360 : decode cL_law 360 = .ok (.iconst 0, 1) := by decide +kernel
theorem dL_law_361 : decode cL_law 361 = .ok (.ireturn, 1) := by decide +kernel
theorem dL_law_362 : decode cL_law 362 = .ok (.aload_n 1, 1) := by decide +kernel
theorem dL_law_363 : decode cL_law 363 = .ok (.aload_n 0, 1) := by decide +kernel
theorem dL_law_364 : decode cL_law 364 = .ok (.iload_n 3, 1) := by decide +kernel
theorem dL_law_365 : decode cL_law 365 = .ok (.iconst 1, 1) := by decide +kernel
theorem dL_law_366 : decode cL_law 366 = .ok (.iadd, 1) := by decide +kernel
theorem dL_law_367 : decode cL_law 367 = .ok (.iaload, 1) := by decide +kernel
theorem dL_law_368 : decode cL_law 368 = .ok (.aload_n 0, 1) := by decide +kernel
theorem dL_law_369 : decode cL_law 369 = .ok (.iload_n 3, 1) := by decide +kernel
theorem dL_law_370 : decode cL_law 370 = .ok (.iconst 2, 1) := by decide +kernel
theorem dL_law_371 : decode cL_law 371 = .ok (.iadd, 1) := by decide +kernel
theorem dL_law_372 : decode cL_law 372 = .ok (.iaload, 1) := by decide +kernel
theorem dL_law_373 : decode cL_law 373 = .ok (.invokevirtual 32, 3) := by decide +kernel
theorem dL_law_376 : decode cL_law 376 = .ok (.aload_n 2, 1) := by decide +kernel
theorem dL_law_377 : decode cL_law 377 = .ok (.aload_n 0, 1) := by decide +kernel
theorem dL_law_378 : decode cL_law 378 = .ok (.iload_n 3, 1) := by decide +kernel
theorem dL_law_379 : decode cL_law 379 = .ok (.iconst 1, 1) := by decide +kernel
theorem dL_law_380 : decode cL_law 380 = .ok (.iadd, 1) := by decide +kernel
theorem dL_law_381 : decode cL_law 381 = .ok (.iaload, 1) := by decide +kernel
theorem dL_law_382 : decode cL_law 382 = .ok (.aload_n 0, 1) := by decide +kernel
theorem dL_law_383 : decode cL_law 383 = .ok (.iload_n 3, 1) := by decide +kernel
theorem dL_law_384 : decode cL_law 384 = .ok (.iconst 2, 1) := by decide +kernel
theorem dL_law_385 : decode cL_law 385 = .ok (.iadd, 1) := by decide +kernel
theorem dL_law_386 : decode cL_law 386 = .ok (.iaload, 1) := by decide +kernel
theorem dL_law_387 : decode cL_law 387 = .ok (.invokevirtual 35, 3) := by decide +kernel
theorem dL_law_390 : decode cL_law 390 = .ok (.if_icmp .eq 857, 3) := by decide +kernel
theorem dL_law_393 : decode cL_law 393 = .ok (.iconst 0, 1) := by decide +kernel
theorem dL_law_394 : decode cL_law 394 = .ok (.ireturn, 1) := by decide +kernel
theorem dL_law_395 : decode cL_law 395 = .ok (.aload_n 1, 1) := by decide +kernel
theorem dL_law_396 : decode cL_law 396 = .ok (.aload_n 0, 1) := by decide +kernel
theorem dL_law_397 : decode cL_law 397 = .ok (.iload_n 3, 1) := by decide +kernel
theorem dL_law_398 : decode cL_law 398 = .ok (.iconst 1, 1) := by decide +kernel
theorem dL_law_399 : decode cL_law 399 = .ok (.iadd, 1) := by decide +kernel
theorem dL_law_400 : decode cL_law 400 = .ok (.iaload, 1) := by decide +kernel
theorem dL_law_401 : decode cL_law 401 = .ok (.aload_n 0, 1) := by decide +kernel
theorem dL_law_402 : decode cL_law 402 = .ok (.iload_n 3, 1) := by decide +kernel
theorem dL_law_403 : decode cL_law 403 = .ok (.iconst 2, 1) := by decide +kernel
theorem dL_law_404 : decode cL_law 404 = .ok (.iadd, 1) := by decide +kernel
theorem dL_law_405 : decode cL_law 405 = .ok (.iaload, 1) := by decide +kernel
theorem dL_law_406 : decode cL_law 406 = .ok (.aload_n 0, 1) := by decide +kernel
theorem dL_law_407 : decode cL_law 407 = .ok (.iload_n 3, 1) := by decide +kernel
theorem dL_law_408 : decode cL_law 408 = .ok (.iconst 3, 1) := by decide +kernel
theorem dL_law_409 : decode cL_law 409 = .ok (.iadd, 1) := by decide +kernel
theorem dL_law_410 : decode cL_law 410 = .ok (.iaload, 1) := by decide +kernel
theorem dL_law_411 : decode cL_law 411 = .ok (.ifCond .eq 7, 3) := by decide +kernel
theorem dL_law_414 : decode cL_law 414 = .ok (.iconst 1, 1) := by decide +kernel
theorem dL_law_415 : decode cL_law 415 = .ok (.goto 4, 3) := by decide +kernel
theorem dL_law_418 : decode cL_law 418 = .ok (.iconst 0, 1) := by decide +kernel
theorem dL_law_419 : decode cL_law 419 = .ok (.invokevirtual 36, 3) := by decide +kernel
theorem dL_law_422 : decode cL_law 422 = .ok (.aload_n 2, 1) := by decide +kernel
theorem dL_law_423 : decode cL_law 423 = .ok (.aload_n 0, 1) := by decide +kernel
theorem dL_law_424 : decode cL_law 424 = .ok (.iload_n 3, 1) := by decide +kernel
theorem dL_law_425 : decode cL_law 425 = .ok (.iconst 1, 1) := by decide +kernel
theorem dL_law_426 : decode cL_law 426 = .ok (.iadd, 1) := by decide +kernel
theorem dL_law_427 : decode cL_law 427 = .ok (.iaload, 1) := by decide +kernel
theorem dL_law_428 : decode cL_law 428 = .ok (.aload_n 0, 1) := by decide +kernel
theorem dL_law_429 : decode cL_law 429 = .ok (.iload_n 3, 1) := by decide +kernel
theorem dL_law_430 : decode cL_law 430 = .ok (.iconst 2, 1) := by decide +kernel
theorem dL_law_431 : decode cL_law 431 = .ok (.iadd, 1) := by decide +kernel
theorem dL_law_432 : decode cL_law 432 = .ok (.iaload, 1) := by decide +kernel
theorem dL_law_433 : decode cL_law 433 = .ok (.aload_n 0, 1) := by decide +kernel
theorem dL_law_434 : decode cL_law 434 = .ok (.iload_n 3, 1) := by decide +kernel
theorem dL_law_435 : decode cL_law 435 = .ok (.iconst 3, 1) := by decide +kernel
theorem dL_law_436 : decode cL_law 436 = .ok (.iadd, 1) := by decide +kernel
theorem dL_law_437 : decode cL_law 437 = .ok (.iaload, 1) := by decide +kernel
theorem dL_law_438 : decode cL_law 438 = .ok (.ifCond .eq 7, 3) := by decide +kernel
theorem dL_law_441 : decode cL_law 441 = .ok (.iconst 1, 1) := by decide +kernel
theorem dL_law_442 : decode cL_law 442 = .ok (.goto 4, 3) := by decide +kernel
theorem dL_law_445 : decode cL_law 445 = .ok (.iconst 0, 1) := by decide +kernel
theorem dL_law_446 : decode cL_law 446 = .ok (.invokevirtual 40, 3) := by decide +kernel
theorem dL_law_449 : decode cL_law 449 = .ok (.if_icmp .eq 798, 3) := by decide +kernel
theorem dL_law_452 : decode cL_law 452 = .ok (.iconst 0, 1) := by decide +kernel
theorem dL_law_453 : decode cL_law 453 = .ok (.ireturn, 1) := by decide +kernel
theorem dL_law_454 : decode cL_law 454 = .ok (.aload_n 1, 1) := by decide +kernel
theorem dL_law_455 : decode cL_law 455 = .ok (.aload_n 0, 1) := by decide +kernel
theorem dL_law_456 : decode cL_law 456 = .ok (.iload_n 3, 1) := by decide +kernel
theorem dL_law_457 : decode cL_law 457 = .ok (.iconst 1, 1) := by decide +kernel
theorem dL_law_458 : decode cL_law 458 = .ok (.iadd, 1) := by decide +kernel
theorem dL_law_459 : decode cL_law 459 = .ok (.iaload, 1) := by decide +kernel
theorem dL_law_460 : decode cL_law 460 = .ok (.aload_n 0, 1) := by decide +kernel
theorem dL_law_461 : decode cL_law 461 = .ok (.iload_n 3, 1) := by decide +kernel
theorem dL_law_462 : decode cL_law 462 = .ok (.iconst 2, 1) := by decide +kernel
theorem dL_law_463 : decode cL_law 463 = .ok (.iadd, 1) := by decide +kernel
theorem dL_law_464 : decode cL_law 464 = .ok (.iaload, 1) := by decide +kernel
theorem dL_law_465 : decode cL_law 465 = .ok (.invokevirtual 41, 3) := by decide +kernel
theorem dL_law_468 : decode cL_law 468 = .ok (.aload_n 2, 1) := by decide +kernel
theorem dL_law_469 : decode cL_law 469 = .ok (.aload_n 0, 1) := by decide +kernel
theorem dL_law_470 : decode cL_law 470 = .ok (.iload_n 3, 1) := by decide +kernel
theorem dL_law_471 : decode cL_law 471 = .ok (.iconst 1, 1) := by decide +kernel
theorem dL_law_472 : decode cL_law 472 = .ok (.iadd, 1) := by decide +kernel
theorem dL_law_473 : decode cL_law 473 = .ok (.iaload, 1) := by decide +kernel
theorem dL_law_474 : decode cL_law 474 = .ok (.aload_n 0, 1) := by decide +kernel
theorem dL_law_475 : decode cL_law 475 = .ok (.iload_n 3, 1) := by decide +kernel
theorem dL_law_476 : decode cL_law 476 = .ok (.iconst 2, 1) := by decide +kernel
theorem dL_law_477 : decode cL_law 477 = .ok (.iadd, 1) := by decide +kernel
theorem dL_law_478 : decode cL_law 478 = .ok (.iaload, 1) := by decide +kernel
theorem dL_law_479 : decode cL_law 479 = .ok (.invokevirtual 44, 3) := by decide +kernel
theorem dL_law_482 : decode cL_law 482 = .ok (.if_icmp .eq 765, 3) := by decide +kernel
theorem dL_law_485 : decode cL_law 485 = .ok (.iconst 0, 1) := by decide +kernel
theorem dL_law_486 : decode cL_law 486 = .ok (.ireturn, 1) := by decide +kernel
theorem dL_law_487 : decode cL_law 487 = .ok (.aload_n 1, 1) := by decide +kernel
theorem dL_law_488 : decode cL_law 488 = .ok (.aload_n 0, 1) := by decide +kernel
theorem dL_law_489 : decode cL_law 489 = .ok (.iload_n 3, 1) := by decide +kernel
theorem dL_law_490 : decode cL_law 490 = .ok (.iconst 1, 1) := by decide +kernel
theorem dL_law_491 : decode cL_law 491 = .ok (.iadd, 1) := by decide +kernel
theorem dL_law_492 : decode cL_law 492 = .ok (.iaload, 1) := by decide +kernel
theorem dL_law_493 : decode cL_law 493 = .ok (.invokevirtual 45, 3) := by decide +kernel
theorem dL_law_496 : decode cL_law 496 = .ok (.aload_n 2, 1) := by decide +kernel
theorem dL_law_497 : decode cL_law 497 = .ok (.aload_n 0, 1) := by decide +kernel
theorem dL_law_498 : decode cL_law 498 = .ok (.iload_n 3, 1) := by decide +kernel
theorem dL_law_499 : decode cL_law 499 = .ok (.iconst 1, 1) := by decide +kernel
theorem dL_law_500 : decode cL_law 500 = .ok (.iadd, 1) := by decide +kernel
theorem dL_law_501 : decode cL_law 501 = .ok (.iaload, 1) := by decide +kernel
theorem dL_law_502 : decode cL_law 502 = .ok (.invokevirtual 49, 3) := by decide +kernel
theorem dL_law_505 : decode cL_law 505 = .ok (.if_icmp .eq 742, 3) := by decide +kernel
theorem dL_law_508 : decode cL_law 508 = .ok (.iconst 0, 1) := by decide +kernel
theorem dL_law_509 : decode cL_law 509 = .ok (.ireturn, 1) := by decide +kernel
theorem dL_law_510 : decode cL_law 510 = .ok (.aload_n 1, 1) := by decide +kernel
theorem dL_law_511 : decode cL_law 511 = .ok (.aload_n 0, 1) := by decide +kernel
theorem dL_law_512 : decode cL_law 512 = .ok (.iload_n 3, 1) := by decide +kernel
theorem dL_law_513 : decode cL_law 513 = .ok (.iconst 1, 1) := by decide +kernel
theorem dL_law_514 : decode cL_law 514 = .ok (.iadd, 1) := by decide +kernel
theorem dL_law_515 : decode cL_law 515 = .ok (.iaload, 1) := by decide +kernel
theorem dL_law_516 : decode cL_law 516 = .ok (.aload_n 0, 1) := by decide +kernel
theorem dL_law_517 : decode cL_law 517 = .ok (.iload_n 3, 1) := by decide +kernel
theorem dL_law_518 : decode cL_law 518 = .ok (.iconst 2, 1) := by decide +kernel
theorem dL_law_519 : decode cL_law 519 = .ok (.iadd, 1) := by decide +kernel
theorem dL_law_520 : decode cL_law 520 = .ok (.iaload, 1) := by decide +kernel
theorem dL_law_521 : decode cL_law 521 = .ok (.aload_n 0, 1) := by decide +kernel
theorem dL_law_522 : decode cL_law 522 = .ok (.iload_n 3, 1) := by decide +kernel
theorem dL_law_523 : decode cL_law 523 = .ok (.iconst 3, 1) := by decide +kernel
theorem dL_law_524 : decode cL_law 524 = .ok (.iadd, 1) := by decide +kernel
theorem dL_law_525 : decode cL_law 525 = .ok (.iaload, 1) := by decide +kernel
theorem dL_law_526 : decode cL_law 526 = .ok (.invokevirtual 50, 3) := by decide +kernel
theorem dL_law_529 : decode cL_law 529 = .ok (.aload_n 2, 1) := by decide +kernel
theorem dL_law_530 : decode cL_law 530 = .ok (.aload_n 0, 1) := by decide +kernel
theorem dL_law_531 : decode cL_law 531 = .ok (.iload_n 3, 1) := by decide +kernel
theorem dL_law_532 : decode cL_law 532 = .ok (.iconst 1, 1) := by decide +kernel
theorem dL_law_533 : decode cL_law 533 = .ok (.iadd, 1) := by decide +kernel
theorem dL_law_534 : decode cL_law 534 = .ok (.iaload, 1) := by decide +kernel
theorem dL_law_535 : decode cL_law 535 = .ok (.aload_n 0, 1) := by decide +kernel
theorem dL_law_536 : decode cL_law 536 = .ok (.iload_n 3, 1) := by decide +kernel
theorem dL_law_537 : decode cL_law 537 = .ok (.iconst 2, 1) := by decide +kernel
theorem dL_law_538 : decode cL_law 538 = .ok (.iadd, 1) := by decide +kernel
theorem dL_law_539 : decode cL_law 539 = .ok (.iaload, 1) := by decide +kernel
theorem dL_law_540 : decode cL_law 540 = .ok (.aload_n 0, 1) := by decide +kernel
theorem dL_law_541 : decode cL_law 541 = .ok (.iload_n 3, 1) := by decide +kernel
theorem dL_law_542 : decode cL_law 542 = .ok (.iconst 3, 1) := by decide +kernel
theorem dL_law_543 : decode cL_law 543 = .ok (.iadd, 1) := by decide +kernel
theorem dL_law_544 : decode cL_law 544 = .ok (.iaload, 1) := by decide +kernel
theorem dL_law_545 : decode cL_law 545 = .ok (.invokevirtual 53, 3) := by decide +kernel
theorem dL_law_548 : decode cL_law 548 = .ok (.if_icmp .eq 699, 3) := by decide +kernel
theorem dL_law_551 : decode cL_law 551 = .ok (.iconst 0, 1) := by decide +kernel
theorem dL_law_552 : decode cL_law 552 = .ok (.ireturn, 1) := by decide +kernel
theorem dL_law_553 : decode cL_law 553 = .ok (.aload_n 1, 1) := by decide +kernel
theorem dL_law_554 : decode cL_law 554 = .ok (.invokevirtual 54, 3) := by decide +kernel
theorem dL_law_557 : decode cL_law 557 = .ok (.aload_n 2, 1) := by decide +kernel
theorem dL_law_558 : decode cL_law 558 = .ok (.invokevirtual 58, 3) := by decide +kernel
theorem dL_law_561 : decode cL_law 561 = .ok (.if_icmp .eq 686, 3) := by decide +kernel
theorem dL_law_564 : decode cL_law 564 = .ok (.iconst 0, 1) := by decide +kernel
theorem dL_law_565 : decode cL_law 565 = .ok (.ireturn, 1) := by decide +kernel
theorem dL_law_566 : decode cL_law 566 = .ok (.aload_n 1, 1) := by decide +kernel
theorem dL_law_567 : decode cL_law 567 = .ok (.invokevirtual 59, 3) := by decide +kernel
theorem dL_law_570 : decode cL_law 570 = .ok (.aload_n 2, 1) := by decide +kernel
theorem dL_law_571 : decode cL_law 571 = .ok (.invokevirtual 62, 3) := by decide +kernel
theorem dL_law_574 : decode cL_law 574 = .ok (.if_icmp .eq 673, 3) := by decide +kernel
theorem dL_law_577 : decode cL_law 577 = .ok (.iconst 0, 1) := by decide +kernel
theorem dL_law_578 : decode cL_law 578 = .ok (.ireturn, 1) := by decide +kernel
theorem dL_law_579 : decode cL_law 579 = .ok (.aload_n 1, 1) := by decide +kernel
theorem dL_law_580 : decode cL_law 580 = .ok (.aload_n 0, 1) := by decide +kernel
theorem dL_law_581 : decode cL_law 581 = .ok (.iload_n 3, 1) := by decide +kernel
theorem dL_law_582 : decode cL_law 582 = .ok (.iconst 1, 1) := by decide +kernel
theorem dL_law_583 : decode cL_law 583 = .ok (.iadd, 1) := by decide +kernel
theorem dL_law_584 : decode cL_law 584 = .ok (.iaload, 1) := by decide +kernel
theorem dL_law_585 : decode cL_law 585 = .ok (.invokevirtual 63, 3) := by decide +kernel
theorem dL_law_588 : decode cL_law 588 = .ok (.aload_n 2, 1) := by decide +kernel
theorem dL_law_589 : decode cL_law 589 = .ok (.aload_n 0, 1) := by decide +kernel
theorem dL_law_590 : decode cL_law 590 = .ok (.iload_n 3, 1) := by decide +kernel
theorem dL_law_591 : decode cL_law 591 = .ok (.iconst 1, 1) := by decide +kernel
theorem dL_law_592 : decode cL_law 592 = .ok (.iadd, 1) := by decide +kernel
theorem dL_law_593 : decode cL_law 593 = .ok (.iaload, 1) := by decide +kernel
theorem dL_law_594 : decode cL_law 594 = .ok (.invokevirtual 66, 3) := by decide +kernel
theorem dL_law_597 : decode cL_law 597 = .ok (.if_icmp .eq 650, 3) := by decide +kernel
theorem dL_law_600 : decode cL_law 600 = .ok (.iconst 0, 1) := by decide +kernel
theorem dL_law_601 : decode cL_law 601 = .ok (.ireturn, 1) := by decide +kernel
theorem dL_law_602 : decode cL_law 602 = .ok (.aload_n 1, 1) := by decide +kernel
theorem dL_law_603 : decode cL_law 603 = .ok (.aload_n 0, 1) := by decide +kernel
theorem dL_law_604 : decode cL_law 604 = .ok (.iload_n 3, 1) := by decide +kernel
theorem dL_law_605 : decode cL_law 605 = .ok (.iconst 1, 1) := by decide +kernel
theorem dL_law_606 : decode cL_law 606 = .ok (.iadd, 1) := by decide +kernel
theorem dL_law_607 : decode cL_law 607 = .ok (.iaload, 1) := by decide +kernel
theorem dL_law_608 : decode cL_law 608 = .ok (.invokevirtual 67, 3) := by decide +kernel
theorem dL_law_611 : decode cL_law 611 = .ok (.aload_n 2, 1) := by decide +kernel
theorem dL_law_612 : decode cL_law 612 = .ok (.aload_n 0, 1) := by decide +kernel
theorem dL_law_613 : decode cL_law 613 = .ok (.iload_n 3, 1) := by decide +kernel
theorem dL_law_614 : decode cL_law 614 = .ok (.iconst 1, 1) := by decide +kernel
theorem dL_law_615 : decode cL_law 615 = .ok (.iadd, 1) := by decide +kernel
theorem dL_law_616 : decode cL_law 616 = .ok (.iaload, 1) := by decide +kernel
theorem dL_law_617 : decode cL_law 617 = .ok (.invokevirtual 70, 3) := by decide +kernel
theorem dL_law_620 : decode cL_law 620 = .ok (.if_icmp .eq 627, 3) := by decide +kernel
theorem dL_law_623 : decode cL_law 623 = .ok (.iconst 0, 1) := by decide +kernel
theorem dL_law_624 : decode cL_law 624 = .ok (.ireturn, 1) := by decide +kernel
theorem dL_law_625 : decode cL_law 625 = .ok (.aload_n 1, 1) := by decide +kernel
theorem dL_law_626 : decode cL_law 626 = .ok (.aload_n 0, 1) := by decide +kernel
theorem dL_law_627 : decode cL_law 627 = .ok (.iload_n 3, 1) := by decide +kernel
theorem dL_law_628 : decode cL_law 628 = .ok (.iconst 1, 1) := by decide +kernel
theorem dL_law_629 : decode cL_law 629 = .ok (.iadd, 1) := by decide +kernel
theorem dL_law_630 : decode cL_law 630 = .ok (.iaload, 1) := by decide +kernel
theorem dL_law_631 : decode cL_law 631 = .ok (.aload_n 0, 1) := by decide +kernel
theorem dL_law_632 : decode cL_law 632 = .ok (.iload_n 3, 1) := by decide +kernel
theorem dL_law_633 : decode cL_law 633 = .ok (.iconst 2, 1) := by decide +kernel
theorem dL_law_634 : decode cL_law 634 = .ok (.iadd, 1) := by decide +kernel
theorem dL_law_635 : decode cL_law 635 = .ok (.iaload, 1) := by decide +kernel
theorem dL_law_636 : decode cL_law 636 = .ok (.aload_n 0, 1) := by decide +kernel
theorem dL_law_637 : decode cL_law 637 = .ok (.iload_n 3, 1) := by decide +kernel
theorem dL_law_638 : decode cL_law 638 = .ok (.iconst 3, 1) := by decide +kernel
theorem dL_law_639 : decode cL_law 639 = .ok (.iadd, 1) := by decide +kernel
theorem dL_law_640 : decode cL_law 640 = .ok (.iaload, 1) := by decide +kernel
theorem dL_law_641 : decode cL_law 641 = .ok (.aload_n 0, 1) := by decide +kernel
theorem dL_law_642 : decode cL_law 642 = .ok (.iload_n 3, 1) := by decide +kernel
theorem dL_law_643 : decode cL_law 643 = .ok (.iconst 4, 1) := by decide +kernel
theorem dL_law_644 : decode cL_law 644 = .ok (.iadd, 1) := by decide +kernel
theorem dL_law_645 : decode cL_law 645 = .ok (.iaload, 1) := by decide +kernel
theorem dL_law_646 : decode cL_law 646 = .ok (.invokevirtual 71, 3) := by decide +kernel
theorem dL_law_649 : decode cL_law 649 = .ok (.aload_n 2, 1) := by decide +kernel
theorem dL_law_650 : decode cL_law 650 = .ok (.aload_n 0, 1) := by decide +kernel
theorem dL_law_651 : decode cL_law 651 = .ok (.iload_n 3, 1) := by decide +kernel
theorem dL_law_652 : decode cL_law 652 = .ok (.iconst 1, 1) := by decide +kernel
theorem dL_law_653 : decode cL_law 653 = .ok (.iadd, 1) := by decide +kernel
theorem dL_law_654 : decode cL_law 654 = .ok (.iaload, 1) := by decide +kernel
theorem dL_law_655 : decode cL_law 655 = .ok (.aload_n 0, 1) := by decide +kernel
theorem dL_law_656 : decode cL_law 656 = .ok (.iload_n 3, 1) := by decide +kernel
theorem dL_law_657 : decode cL_law 657 = .ok (.iconst 2, 1) := by decide +kernel
theorem dL_law_658 : decode cL_law 658 = .ok (.iadd, 1) := by decide +kernel
theorem dL_law_659 : decode cL_law 659 = .ok (.iaload, 1) := by decide +kernel
theorem dL_law_660 : decode cL_law 660 = .ok (.aload_n 0, 1) := by decide +kernel
theorem dL_law_661 : decode cL_law 661 = .ok (.iload_n 3, 1) := by decide +kernel
theorem dL_law_662 : decode cL_law 662 = .ok (.iconst 3, 1) := by decide +kernel
theorem dL_law_663 : decode cL_law 663 = .ok (.iadd, 1) := by decide +kernel
theorem dL_law_664 : decode cL_law 664 = .ok (.iaload, 1) := by decide +kernel
theorem dL_law_665 : decode cL_law 665 = .ok (.aload_n 0, 1) := by decide +kernel
theorem dL_law_666 : decode cL_law 666 = .ok (.iload_n 3, 1) := by decide +kernel
theorem dL_law_667 : decode cL_law 667 = .ok (.iconst 4, 1) := by decide +kernel
theorem dL_law_668 : decode cL_law 668 = .ok (.iadd, 1) := by decide +kernel
theorem dL_law_669 : decode cL_law 669 = .ok (.iaload, 1) := by decide +kernel
theorem dL_law_670 : decode cL_law 670 = .ok (.invokevirtual 74, 3) := by decide +kernel
theorem dL_law_673 : decode cL_law 673 = .ok (.if_icmp .eq 574, 3) := by decide +kernel
theorem dL_law_676 : decode cL_law 676 = .ok (.iconst 0, 1) := by decide +kernel
theorem dL_law_677 : decode cL_law 677 = .ok (.ireturn, 1) := by decide +kernel
theorem dL_law_678 : decode cL_law 678 = .ok (.aload_n 1, 1) := by decide +kernel
theorem dL_law_679 : decode cL_law 679 = .ok (.aload_n 0, 1) := by decide +kernel
theorem dL_law_680 : decode cL_law 680 = .ok (.iload_n 3, 1) := by decide +kernel
theorem dL_law_681 : decode cL_law 681 = .ok (.iconst 1, 1) := by decide +kernel
theorem dL_law_682 : decode cL_law 682 = .ok (.iadd, 1) := by decide +kernel
theorem dL_law_683 : decode cL_law 683 = .ok (.iaload, 1) := by decide +kernel
theorem dL_law_684 : decode cL_law 684 = .ok (.invokevirtual 75, 3) := by decide +kernel
theorem dL_law_687 : decode cL_law 687 = .ok (.aload_n 2, 1) := by decide +kernel
theorem dL_law_688 : decode cL_law 688 = .ok (.aload_n 0, 1) := by decide +kernel
theorem dL_law_689 : decode cL_law 689 = .ok (.iload_n 3, 1) := by decide +kernel
theorem dL_law_690 : decode cL_law 690 = .ok (.iconst 1, 1) := by decide +kernel
theorem dL_law_691 : decode cL_law 691 = .ok (.iadd, 1) := by decide +kernel
theorem dL_law_692 : decode cL_law 692 = .ok (.iaload, 1) := by decide +kernel
theorem dL_law_693 : decode cL_law 693 = .ok (.invokevirtual 78, 3) := by decide +kernel
theorem dL_law_696 : decode cL_law 696 = .ok (.if_icmp .eq 551, 3) := by decide +kernel
theorem dL_law_699 : decode cL_law 699 = .ok (.iconst 0, 1) := by decide +kernel
theorem dL_law_700 : decode cL_law 700 = .ok (.ireturn, 1) := by decide +kernel
theorem dL_law_701 : decode cL_law 701 = .ok (.aload_n 1, 1) := by decide +kernel
theorem dL_law_702 : decode cL_law 702 = .ok (.aload_n 0, 1) := by decide +kernel
theorem dL_law_703 : decode cL_law 703 = .ok (.iload_n 3, 1) := by decide +kernel
theorem dL_law_704 : decode cL_law 704 = .ok (.iconst 1, 1) := by decide +kernel
theorem dL_law_705 : decode cL_law 705 = .ok (.iadd, 1) := by decide +kernel
theorem dL_law_706 : decode cL_law 706 = .ok (.iaload, 1) := by decide +kernel
theorem dL_law_707 : decode cL_law 707 = .ok (.invokevirtual 79, 3) := by decide +kernel
theorem dL_law_710 : decode cL_law 710 = .ok (.aload_n 2, 1) := by decide +kernel
theorem dL_law_711 : decode cL_law 711 = .ok (.aload_n 0, 1) := by decide +kernel
theorem dL_law_712 : decode cL_law 712 = .ok (.iload_n 3, 1) := by decide +kernel
theorem dL_law_713 : decode cL_law 713 = .ok (.iconst 1, 1) := by decide +kernel
theorem dL_law_714 : decode cL_law 714 = .ok (.iadd, 1) := by decide +kernel
theorem dL_law_715 : decode cL_law 715 = .ok (.iaload, 1) := by decide +kernel
theorem dL_law_716 : decode cL_law 716 = .ok (.invokevirtual 82, 3) := by decide +kernel
theorem dL_law_719 : decode cL_law 719 = .ok (.if_icmp .eq 528, 3) := by decide +kernel
theorem dL_law_722 : decode cL_law 722 = .ok (.iconst 0, 1) := by decide +kernel
theorem dL_law_723 : decode cL_law 723 = .ok (.ireturn, 1) := by decide +kernel
theorem dL_law_724 : decode cL_law 724 = .ok (.aload_n 1, 1) := by decide +kernel
theorem dL_law_725 : decode cL_law 725 = .ok (.aload_n 0, 1) := by decide +kernel
theorem dL_law_726 : decode cL_law 726 = .ok (.iload_n 3, 1) := by decide +kernel
theorem dL_law_727 : decode cL_law 727 = .ok (.iconst 1, 1) := by decide +kernel
theorem dL_law_728 : decode cL_law 728 = .ok (.iadd, 1) := by decide +kernel
theorem dL_law_729 : decode cL_law 729 = .ok (.iaload, 1) := by decide +kernel
theorem dL_law_730 : decode cL_law 730 = .ok (.aload_n 0, 1) := by decide +kernel
theorem dL_law_731 : decode cL_law 731 = .ok (.iload_n 3, 1) := by decide +kernel
theorem dL_law_732 : decode cL_law 732 = .ok (.iconst 2, 1) := by decide +kernel
theorem dL_law_733 : decode cL_law 733 = .ok (.iadd, 1) := by decide +kernel
theorem dL_law_734 : decode cL_law 734 = .ok (.iaload, 1) := by decide +kernel
theorem dL_law_735 : decode cL_law 735 = .ok (.aload_n 0, 1) := by decide +kernel
theorem dL_law_736 : decode cL_law 736 = .ok (.iload_n 3, 1) := by decide +kernel
theorem dL_law_737 : decode cL_law 737 = .ok (.iconst 3, 1) := by decide +kernel
theorem dL_law_738 : decode cL_law 738 = .ok (.iadd, 1) := by decide +kernel
theorem dL_law_739 : decode cL_law 739 = .ok (.iaload, 1) := by decide +kernel
theorem dL_law_740 : decode cL_law 740 = .ok (.invokevirtual 83, 3) := by decide +kernel
theorem dL_law_743 : decode cL_law 743 = .ok (.aload_n 2, 1) := by decide +kernel
theorem dL_law_744 : decode cL_law 744 = .ok (.aload_n 0, 1) := by decide +kernel
theorem dL_law_745 : decode cL_law 745 = .ok (.iload_n 3, 1) := by decide +kernel
theorem dL_law_746 : decode cL_law 746 = .ok (.iconst 1, 1) := by decide +kernel
theorem dL_law_747 : decode cL_law 747 = .ok (.iadd, 1) := by decide +kernel
theorem dL_law_748 : decode cL_law 748 = .ok (.iaload, 1) := by decide +kernel
theorem dL_law_749 : decode cL_law 749 = .ok (.aload_n 0, 1) := by decide +kernel
theorem dL_law_750 : decode cL_law 750 = .ok (.iload_n 3, 1) := by decide +kernel
theorem dL_law_751 : decode cL_law 751 = .ok (.iconst 2, 1) := by decide +kernel
theorem dL_law_752 : decode cL_law 752 = .ok (.iadd, 1) := by decide +kernel
theorem dL_law_753 : decode cL_law 753 = .ok (.iaload, 1) := by decide +kernel
theorem dL_law_754 : decode cL_law 754 = .ok (.aload_n 0, 1) := by decide +kernel
theorem dL_law_755 : decode cL_law 755 = .ok (.iload_n 3, 1) := by decide +kernel
theorem dL_law_756 : decode cL_law 756 = .ok (.iconst 3, 1) := by decide +kernel
theorem dL_law_757 : decode cL_law 757 = .ok (.iadd, 1) := by decide +kernel
theorem dL_law_758 : decode cL_law 758 = .ok (.iaload, 1) := by decide +kernel
theorem dL_law_759 : decode cL_law 759 = .ok (.invokevirtual 87, 3) := by decide +kernel
theorem dL_law_762 : decode cL_law 762 = .ok (.lcmp, 1) := by decide +kernel
theorem dL_law_763 : decode cL_law 763 = .ok (.ifCond .eq 484, 3) := by decide +kernel
theorem dL_law_766 : decode cL_law 766 = .ok (.iconst 0, 1) := by decide +kernel
theorem dL_law_767 : decode cL_law 767 = .ok (.ireturn, 1) := by decide +kernel
theorem dL_law_768 : decode cL_law 768 = .ok (.aload_n 1, 1) := by decide +kernel
theorem dL_law_769 : decode cL_law 769 = .ok (.aload_n 0, 1) := by decide +kernel
theorem dL_law_770 : decode cL_law 770 = .ok (.iload_n 3, 1) := by decide +kernel
theorem dL_law_771 : decode cL_law 771 = .ok (.iconst 1, 1) := by decide +kernel
theorem dL_law_772 : decode cL_law 772 = .ok (.iadd, 1) := by decide +kernel
theorem dL_law_773 : decode cL_law 773 = .ok (.iaload, 1) := by decide +kernel
theorem dL_law_774 : decode cL_law 774 = .ok (.aload_n 0, 1) := by decide +kernel
theorem dL_law_775 : decode cL_law 775 = .ok (.iload_n 3, 1) := by decide +kernel
theorem dL_law_776 : decode cL_law 776 = .ok (.iconst 2, 1) := by decide +kernel
theorem dL_law_777 : decode cL_law 777 = .ok (.iadd, 1) := by decide +kernel
theorem dL_law_778 : decode cL_law 778 = .ok (.iaload, 1) := by decide +kernel
theorem dL_law_779 : decode cL_law 779 = .ok (.invokevirtual 88, 3) := by decide +kernel
theorem dL_law_782 : decode cL_law 782 = .ok (.aload_n 2, 1) := by decide +kernel
theorem dL_law_783 : decode cL_law 783 = .ok (.aload_n 0, 1) := by decide +kernel
theorem dL_law_784 : decode cL_law 784 = .ok (.iload_n 3, 1) := by decide +kernel
theorem dL_law_785 : decode cL_law 785 = .ok (.iconst 1, 1) := by decide +kernel
theorem dL_law_786 : decode cL_law 786 = .ok (.iadd, 1) := by decide +kernel
theorem dL_law_787 : decode cL_law 787 = .ok (.iaload, 1) := by decide +kernel
theorem dL_law_788 : decode cL_law 788 = .ok (.aload_n 0, 1) := by decide +kernel
theorem dL_law_789 : decode cL_law 789 = .ok (.iload_n 3, 1) := by decide +kernel
theorem dL_law_790 : decode cL_law 790 = .ok (.iconst 2, 1) := by decide +kernel
theorem dL_law_791 : decode cL_law 791 = .ok (.iadd, 1) := by decide +kernel
theorem dL_law_792 : decode cL_law 792 = .ok (.iaload, 1) := by decide +kernel
theorem dL_law_793 : decode cL_law 793 = .ok (.invokevirtual 91, 3) := by decide +kernel
theorem dL_law_796 : decode cL_law 796 = .ok (.if_icmp .eq 451, 3) := by decide +kernel
theorem dL_law_799 : decode cL_law 799 = .ok (.iconst 0, 1) := by decide +kernel
theorem dL_law_800 : decode cL_law 800 = .ok (.ireturn, 1) := by decide +kernel
theorem dL_law_801 : decode cL_law 801 = .ok (.aload_n 1, 1) := by decide +kernel
theorem dL_law_802 : decode cL_law 802 = .ok (.aload_n 0, 1) := by decide +kernel
theorem dL_law_803 : decode cL_law 803 = .ok (.iload_n 3, 1) := by decide +kernel
theorem dL_law_804 : decode cL_law 804 = .ok (.iconst 1, 1) := by decide +kernel
theorem dL_law_805 : decode cL_law 805 = .ok (.iadd, 1) := by decide +kernel
theorem dL_law_806 : decode cL_law 806 = .ok (.iaload, 1) := by decide +kernel
theorem dL_law_807 : decode cL_law 807 = .ok (.aload_n 0, 1) := by decide +kernel
theorem dL_law_808 : decode cL_law 808 = .ok (.iload_n 3, 1) := by decide +kernel
theorem dL_law_809 : decode cL_law 809 = .ok (.iconst 2, 1) := by decide +kernel
theorem dL_law_810 : decode cL_law 810 = .ok (.iadd, 1) := by decide +kernel
theorem dL_law_811 : decode cL_law 811 = .ok (.iaload, 1) := by decide +kernel
theorem dL_law_812 : decode cL_law 812 = .ok (.invokevirtual 92, 3) := by decide +kernel
theorem dL_law_815 : decode cL_law 815 = .ok (.aload_n 2, 1) := by decide +kernel
theorem dL_law_816 : decode cL_law 816 = .ok (.aload_n 0, 1) := by decide +kernel
theorem dL_law_817 : decode cL_law 817 = .ok (.iload_n 3, 1) := by decide +kernel
theorem dL_law_818 : decode cL_law 818 = .ok (.iconst 1, 1) := by decide +kernel
theorem dL_law_819 : decode cL_law 819 = .ok (.iadd, 1) := by decide +kernel
theorem dL_law_820 : decode cL_law 820 = .ok (.iaload, 1) := by decide +kernel
theorem dL_law_821 : decode cL_law 821 = .ok (.aload_n 0, 1) := by decide +kernel
theorem dL_law_822 : decode cL_law 822 = .ok (.iload_n 3, 1) := by decide +kernel
theorem dL_law_823 : decode cL_law 823 = .ok (.iconst 2, 1) := by decide +kernel
theorem dL_law_824 : decode cL_law 824 = .ok (.iadd, 1) := by decide +kernel
theorem dL_law_825 : decode cL_law 825 = .ok (.iaload, 1) := by decide +kernel
theorem dL_law_826 : decode cL_law 826 = .ok (.invokevirtual 95, 3) := by decide +kernel
theorem dL_law_829 : decode cL_law 829 = .ok (.if_icmp .eq 418, 3) := by decide +kernel
theorem dL_law_832 : decode cL_law 832 = .ok (.iconst 0, 1) := by decide +kernel
theorem dL_law_833 : decode cL_law 833 = .ok (.ireturn, 1) := by decide +kernel
theorem dL_law_834 : decode cL_law 834 = .ok (.aload_n 1, 1) := by decide +kernel
theorem dL_law_835 : decode cL_law 835 = .ok (.aload_n 0, 1) := by decide +kernel
theorem dL_law_836 : decode cL_law 836 = .ok (.iload_n 3, 1) := by decide +kernel
theorem dL_law_837 : decode cL_law 837 = .ok (.iconst 1, 1) := by decide +kernel
theorem dL_law_838 : decode cL_law 838 = .ok (.iadd, 1) := by decide +kernel
theorem dL_law_839 : decode cL_law 839 = .ok (.iaload, 1) := by decide +kernel
theorem dL_law_840 : decode cL_law 840 = .ok (.invokevirtual 96, 3) := by decide +kernel
theorem dL_law_843 : decode cL_law 843 = .ok (.aload_n 2, 1) := by decide +kernel
theorem dL_law_844 : decode cL_law 844 = .ok (.aload_n 0, 1) := by decide +kernel
theorem dL_law_845 : decode cL_law 845 = .ok (.iload_n 3, 1) := by decide +kernel
theorem dL_law_846 : decode cL_law 846 = .ok (.iconst 1, 1) := by decide +kernel
theorem dL_law_847 : decode cL_law 847 = .ok (.iadd, 1) := by decide +kernel
theorem dL_law_848 : decode cL_law 848 = .ok (.iaload, 1) := by decide +kernel
theorem dL_law_849 : decode cL_law 849 = .ok (.invokevirtual 99, 3) := by decide +kernel
theorem dL_law_852 : decode cL_law 852 = .ok (.if_icmp .eq 395, 3) := by decide +kernel
theorem dL_law_855 : decode cL_law 855 = .ok (.iconst 0, 1) := by decide +kernel
theorem dL_law_856 : decode cL_law 856 = .ok (.ireturn, 1) := by decide +kernel
theorem dL_law_857 : decode cL_law 857 = .ok (.aload_n 1, 1) := by decide +kernel
theorem dL_law_858 : decode cL_law 858 = .ok (.aload_n 0, 1) := by decide +kernel
theorem dL_law_859 : decode cL_law 859 = .ok (.iload_n 3, 1) := by decide +kernel
theorem dL_law_860 : decode cL_law 860 = .ok (.iconst 1, 1) := by decide +kernel
theorem dL_law_861 : decode cL_law 861 = .ok (.iadd, 1) := by decide +kernel
theorem dL_law_862 : decode cL_law 862 = .ok (.iaload, 1) := by decide +kernel
theorem dL_law_863 : decode cL_law 863 = .ok (.invokevirtual 100, 3) := by decide +kernel
theorem dL_law_866 : decode cL_law 866 = .ok (.aload_n 2, 1) := by decide +kernel
theorem dL_law_867 : decode cL_law 867 = .ok (.aload_n 0, 1) := by decide +kernel
theorem dL_law_868 : decode cL_law 868 = .ok (.iload_n 3, 1) := by decide +kernel
theorem dL_law_869 : decode cL_law 869 = .ok (.iconst 1, 1) := by decide +kernel
theorem dL_law_870 : decode cL_law 870 = .ok (.iadd, 1) := by decide +kernel
theorem dL_law_871 : decode cL_law 871 = .ok (.iaload, 1) := by decide +kernel
theorem dL_law_872 : decode cL_law 872 = .ok (.invokevirtual 103, 3) := by decide +kernel
theorem dL_law_875 : decode cL_law 875 = .ok (.if_icmp .eq 372, 3) := by decide +kernel
theorem dL_law_878 : decode cL_law 878 = .ok (.iconst 0, 1) := by decide +kernel
theorem dL_law_879 : decode cL_law 879 = .ok (.ireturn, 1) := by decide +kernel
theorem dL_law_880 : decode cL_law 880 = .ok (.aload_n 1, 1) := by decide +kernel
theorem dL_law_881 : decode cL_law 881 = .ok (.aload_n 0, 1) := by decide +kernel
theorem dL_law_882 : decode cL_law 882 = .ok (.iload_n 3, 1) := by decide +kernel
theorem dL_law_883 : decode cL_law 883 = .ok (.iconst 1, 1) := by decide +kernel
theorem dL_law_884 : decode cL_law 884 = .ok (.iadd, 1) := by decide +kernel
theorem dL_law_885 : decode cL_law 885 = .ok (.iaload, 1) := by decide +kernel
theorem dL_law_886 : decode cL_law 886 = .ok (.invokevirtual 104, 3) := by decide +kernel
theorem dL_law_889 : decode cL_law 889 = .ok (.aload_n 2, 1) := by decide +kernel
theorem dL_law_890 : decode cL_law 890 = .ok (.aload_n 0, 1) := by decide +kernel
theorem dL_law_891 : decode cL_law 891 = .ok (.iload_n 3, 1) := by decide +kernel
theorem dL_law_892 : decode cL_law 892 = .ok (.iconst 1, 1) := by decide +kernel
theorem dL_law_893 : decode cL_law 893 = .ok (.iadd, 1) := by decide +kernel
theorem dL_law_894 : decode cL_law 894 = .ok (.iaload, 1) := by decide +kernel
theorem dL_law_895 : decode cL_law 895 = .ok (.invokevirtual 107, 3) := by decide +kernel
theorem dL_law_898 : decode cL_law 898 = .ok (.if_icmp .eq 349, 3) := by decide +kernel
theorem dL_law_901 : decode cL_law 901 = .ok (.iconst 0, 1) := by decide +kernel
theorem dL_law_902 : decode cL_law 902 = .ok (.ireturn, 1) := by decide +kernel
theorem dL_law_903 : decode cL_law 903 = .ok (.aload_n 1, 1) := by decide +kernel
theorem dL_law_904 : decode cL_law 904 = .ok (.aload_n 0, 1) := by decide +kernel
theorem dL_law_905 : decode cL_law 905 = .ok (.iload_n 3, 1) := by decide +kernel
theorem dL_law_906 : decode cL_law 906 = .ok (.iconst 1, 1) := by decide +kernel
theorem dL_law_907 : decode cL_law 907 = .ok (.iadd, 1) := by decide +kernel
theorem dL_law_908 : decode cL_law 908 = .ok (.iaload, 1) := by decide +kernel
theorem dL_law_909 : decode cL_law 909 = .ok (.aload_n 0, 1) := by decide +kernel
theorem dL_law_910 : decode cL_law 910 = .ok (.iload_n 3, 1) := by decide +kernel
theorem dL_law_911 : decode cL_law 911 = .ok (.iconst 2, 1) := by decide +kernel
theorem dL_law_912 : decode cL_law 912 = .ok (.iadd, 1) := by decide +kernel
theorem dL_law_913 : decode cL_law 913 = .ok (.iaload, 1) := by decide +kernel
theorem dL_law_914 : decode cL_law 914 = .ok (.aload_n 0, 1) := by decide +kernel
theorem dL_law_915 : decode cL_law 915 = .ok (.iload_n 3, 1) := by decide +kernel
theorem dL_law_916 : decode cL_law 916 = .ok (.iconst 3, 1) := by decide +kernel
theorem dL_law_917 : decode cL_law 917 = .ok (.iadd, 1) := by decide +kernel
theorem dL_law_918 : decode cL_law 918 = .ok (.iaload, 1) := by decide +kernel
theorem dL_law_919 : decode cL_law 919 = .ok (.invokevirtual 108, 3) := by decide +kernel
theorem dL_law_922 : decode cL_law 922 = .ok (.aload_n 2, 1) := by decide +kernel
theorem dL_law_923 : decode cL_law 923 = .ok (.aload_n 0, 1) := by decide +kernel
theorem dL_law_924 : decode cL_law 924 = .ok (.iload_n 3, 1) := by decide +kernel
theorem dL_law_925 : decode cL_law 925 = .ok (.iconst 1, 1) := by decide +kernel
theorem dL_law_926 : decode cL_law 926 = .ok (.iadd, 1) := by decide +kernel
theorem dL_law_927 : decode cL_law 927 = .ok (.iaload, 1) := by decide +kernel
theorem dL_law_928 : decode cL_law 928 = .ok (.aload_n 0, 1) := by decide +kernel
theorem dL_law_929 : decode cL_law 929 = .ok (.iload_n 3, 1) := by decide +kernel
theorem dL_law_930 : decode cL_law 930 = .ok (.iconst 2, 1) := by decide +kernel
theorem dL_law_931 : decode cL_law 931 = .ok (.iadd, 1) := by decide +kernel
theorem dL_law_932 : decode cL_law 932 = .ok (.iaload, 1) := by decide +kernel
theorem dL_law_933 : decode cL_law 933 = .ok (.aload_n 0, 1) := by decide +kernel
theorem dL_law_934 : decode cL_law 934 = .ok (.iload_n 3, 1) := by decide +kernel
theorem dL_law_935 : decode cL_law 935 = .ok (.iconst 3, 1) := by decide +kernel
theorem dL_law_936 : decode cL_law 936 = .ok (.iadd, 1) := by decide +kernel
theorem dL_law_937 : decode cL_law 937 = .ok (.iaload, 1) := by decide +kernel
theorem dL_law_938 : decode cL_law 938 = .ok (.invokevirtual 111, 3) := by decide +kernel
theorem dL_law_941 : decode cL_law 941 = .ok (.if_icmp .eq 306, 3) := by decide +kernel
theorem dL_law_944 : decode cL_law 944 = .ok (.iconst 0, 1) := by decide +kernel
theorem dL_law_945 : decode cL_law 945 = .ok (.ireturn, 1) := by decide +kernel
theorem dL_law_946 : decode cL_law 946 = .ok (.aload_n 1, 1) := by decide +kernel
theorem dL_law_947 : decode cL_law 947 = .ok (.aload_n 0, 1) := by decide +kernel
theorem dL_law_948 : decode cL_law 948 = .ok (.iload_n 3, 1) := by decide +kernel
theorem dL_law_949 : decode cL_law 949 = .ok (.iconst 1, 1) := by decide +kernel
theorem dL_law_950 : decode cL_law 950 = .ok (.iadd, 1) := by decide +kernel
theorem dL_law_951 : decode cL_law 951 = .ok (.iaload, 1) := by decide +kernel
theorem dL_law_952 : decode cL_law 952 = .ok (.invokevirtual 112, 3) := by decide +kernel
theorem dL_law_955 : decode cL_law 955 = .ok (.aload_n 2, 1) := by decide +kernel
theorem dL_law_956 : decode cL_law 956 = .ok (.aload_n 0, 1) := by decide +kernel
theorem dL_law_957 : decode cL_law 957 = .ok (.iload_n 3, 1) := by decide +kernel
theorem dL_law_958 : decode cL_law 958 = .ok (.iconst 1, 1) := by decide +kernel
theorem dL_law_959 : decode cL_law 959 = .ok (.iadd, 1) := by decide +kernel
theorem dL_law_960 : decode cL_law 960 = .ok (.iaload, 1) := by decide +kernel
theorem dL_law_961 : decode cL_law 961 = .ok (.invokevirtual 115, 3) := by decide +kernel
theorem dL_law_964 : decode cL_law 964 = .ok (.if_icmp .eq 283, 3) := by decide +kernel
theorem dL_law_967 : decode cL_law 967 = .ok (.iconst 0, 1) := by decide +kernel
theorem dL_law_968 : decode cL_law 968 = .ok (.ireturn, 1) := by decide +kernel
theorem dL_law_969 : decode cL_law 969 = .ok (.aload_n 1, 1) := by decide +kernel
theorem dL_law_970 : decode cL_law 970 = .ok (.aload_n 0, 1) := by decide +kernel
theorem dL_law_971 : decode cL_law 971 = .ok (.iload_n 3, 1) := by decide +kernel
theorem dL_law_972 : decode cL_law 972 = .ok (.iconst 1, 1) := by decide +kernel
theorem dL_law_973 : decode cL_law 973 = .ok (.iadd, 1) := by decide +kernel
theorem dL_law_974 : decode cL_law 974 = .ok (.iaload, 1) := by decide +kernel
theorem dL_law_975 : decode cL_law 975 = .ok (.aload_n 0, 1) := by decide +kernel
theorem dL_law_976 : decode cL_law 976 = .ok (.iload_n 3, 1) := by decide +kernel
theorem dL_law_977 : decode cL_law 977 = .ok (.iconst 2, 1) := by decide +kernel
theorem dL_law_978 : decode cL_law 978 = .ok (.iadd, 1) := by decide +kernel
theorem dL_law_979 : decode cL_law 979 = .ok (.iaload, 1) := by decide +kernel
theorem dL_law_980 : decode cL_law 980 = .ok (.aload_n 0, 1) := by decide +kernel
theorem dL_law_981 : decode cL_law 981 = .ok (.iload_n 3, 1) := by decide +kernel
theorem dL_law_982 : decode cL_law 982 = .ok (.iconst 3, 1) := by decide +kernel
theorem dL_law_983 : decode cL_law 983 = .ok (.iadd, 1) := by decide +kernel
theorem dL_law_984 : decode cL_law 984 = .ok (.iaload, 1) := by decide +kernel
theorem dL_law_985 : decode cL_law 985 = .ok (.invokevirtual 116, 3) := by decide +kernel
theorem dL_law_988 : decode cL_law 988 = .ok (.aload_n 2, 1) := by decide +kernel
theorem dL_law_989 : decode cL_law 989 = .ok (.aload_n 0, 1) := by decide +kernel
theorem dL_law_990 : decode cL_law 990 = .ok (.iload_n 3, 1) := by decide +kernel
theorem dL_law_991 : decode cL_law 991 = .ok (.iconst 1, 1) := by decide +kernel
theorem dL_law_992 : decode cL_law 992 = .ok (.iadd, 1) := by decide +kernel
theorem dL_law_993 : decode cL_law 993 = .ok (.iaload, 1) := by decide +kernel
theorem dL_law_994 : decode cL_law 994 = .ok (.aload_n 0, 1) := by decide +kernel
theorem dL_law_995 : decode cL_law 995 = .ok (.iload_n 3, 1) := by decide +kernel
theorem dL_law_996 : decode cL_law 996 = .ok (.iconst 2, 1) := by decide +kernel
theorem dL_law_997 : decode cL_law 997 = .ok (.iadd, 1) := by decide +kernel
theorem dL_law_998 : decode cL_law 998 = .ok (.iaload, 1) := by decide +kernel
theorem dL_law_999 : decode cL_law 999 = .ok (.aload_n 0, 1) := by decide +kernel
theorem dL_law_1000 : decode cL_law 1000 = .ok (.iload_n 3, 1) := by decide +kernel
theorem dL_law_1001 : decode cL_law 1001 = .ok (.iconst 3, 1) := by decide +kernel
theorem dL_law_1002 : decode cL_law 1002 = .ok (.iadd, 1) := by decide +kernel
theorem dL_law_1003 : decode cL_law 1003 = .ok (.iaload, 1) := by decide +kernel
theorem dL_law_1004 : decode cL_law 1004 = .ok (.invokevirtual 119, 3) := by decide +kernel
theorem dL_law_1007 : decode cL_law 1007 = .ok (.if_icmp .eq 240, 3) := by decide +kernel
theorem dL_law_1010 : decode cL_law 1010 = .ok (.iconst 0, 1) := by decide +kernel
theorem dL_law_1011 : decode cL_law 1011 = .ok (.ireturn, 1) := by decide +kernel
theorem dL_law_1012 : decode cL_law 1012 = .ok (.aload_n 1, 1) := by decide +kernel
theorem dL_law_1013 : decode cL_law 1013 = .ok (.aload_n 0, 1) := by decide +kernel
theorem dL_law_1014 : decode cL_law 1014 = .ok (.iload_n 3, 1) := by decide +kernel
theorem dL_law_1015 : decode cL_law 1015 = .ok (.iconst 1, 1) := by decide +kernel
theorem dL_law_1016 : decode cL_law 1016 = .ok (.iadd, 1) := by decide +kernel
theorem dL_law_1017 : decode cL_law 1017 = .ok (.iaload, 1) := by decide +kernel
theorem dL_law_1018 : decode cL_law 1018 = .ok (.aload_n 0, 1) := by decide +kernel
theorem dL_law_1019 : decode cL_law 1019 = .ok (.iload_n 3, 1) := by decide +kernel
theorem dL_law_1020 : decode cL_law 1020 = .ok (.iconst 2, 1) := by decide +kernel
theorem dL_law_1021 : decode cL_law 1021 = .ok (.iadd, 1) := by decide +kernel
theorem dL_law_1022 : decode cL_law 1022 = .ok (.iaload, 1) := by decide +kernel
theorem dL_law_1023 : decode cL_law 1023 = .ok (.aload_n 0, 1) := by decide +kernel
theorem dL_law_1024 : decode cL_law 1024 = .ok (.iload_n 3, 1) := by decide +kernel
theorem dL_law_1025 : decode cL_law 1025 = .ok (.iconst 3, 1) := by decide +kernel
theorem dL_law_1026 : decode cL_law 1026 = .ok (.iadd, 1) := by decide +kernel
theorem dL_law_1027 : decode cL_law 1027 = .ok (.iaload, 1) := by decide +kernel
theorem dL_law_1028 : decode cL_law 1028 = .ok (.invokevirtual 120, 3) := by decide +kernel
theorem dL_law_1031 : decode cL_law 1031 = .ok (.aload_n 2, 1) := by decide +kernel
theorem dL_law_1032 : decode cL_law 1032 = .ok (.aload_n 0, 1) := by decide +kernel
theorem dL_law_1033 : decode cL_law 1033 = .ok (.iload_n 3, 1) := by decide +kernel
theorem dL_law_1034 : decode cL_law 1034 = .ok (.iconst 1, 1) := by decide +kernel
theorem dL_law_1035 : decode cL_law 1035 = .ok (.iadd, 1) := by decide +kernel
theorem dL_law_1036 : decode cL_law 1036 = .ok (.iaload, 1) := by decide +kernel
theorem dL_law_1037 : decode cL_law 1037 = .ok (.aload_n 0, 1) := by decide +kernel
theorem dL_law_1038 : decode cL_law 1038 = .ok (.iload_n 3, 1) := by decide +kernel
theorem dL_law_1039 : decode cL_law 1039 = .ok (.iconst 2, 1) := by decide +kernel
theorem dL_law_1040 : decode cL_law 1040 = .ok (.iadd, 1) := by decide +kernel
theorem dL_law_1041 : decode cL_law 1041 = .ok (.iaload, 1) := by decide +kernel
theorem dL_law_1042 : decode cL_law 1042 = .ok (.aload_n 0, 1) := by decide +kernel
theorem dL_law_1043 : decode cL_law 1043 = .ok (.iload_n 3, 1) := by decide +kernel
theorem dL_law_1044 : decode cL_law 1044 = .ok (.iconst 3, 1) := by decide +kernel
theorem dL_law_1045 : decode cL_law 1045 = .ok (.iadd, 1) := by decide +kernel
theorem dL_law_1046 : decode cL_law 1046 = .ok (.iaload, 1) := by decide +kernel
theorem dL_law_1047 : decode cL_law 1047 = .ok (.invokevirtual 123, 3) := by decide +kernel
theorem dL_law_1050 : decode cL_law 1050 = .ok (.lcmp, 1) := by decide +kernel
theorem dL_law_1051 : decode cL_law 1051 = .ok (.ifCond .eq 196, 3) := by decide +kernel
theorem dL_law_1054 : decode cL_law 1054 = .ok (.iconst 0, 1) := by decide +kernel
theorem dL_law_1055 : decode cL_law 1055 = .ok (.ireturn, 1) := by decide +kernel
theorem dL_law_1056 : decode cL_law 1056 = .ok (.aload_n 1, 1) := by decide +kernel
theorem dL_law_1057 : decode cL_law 1057 = .ok (.aload_n 0, 1) := by decide +kernel
theorem dL_law_1058 : decode cL_law 1058 = .ok (.iload_n 3, 1) := by decide +kernel
theorem dL_law_1059 : decode cL_law 1059 = .ok (.iconst 1, 1) := by decide +kernel
theorem dL_law_1060 : decode cL_law 1060 = .ok (.iadd, 1) := by decide +kernel
theorem dL_law_1061 : decode cL_law 1061 = .ok (.iaload, 1) := by decide +kernel
theorem dL_law_1062 : decode cL_law 1062 = .ok (.aload_n 0, 1) := by decide +kernel
theorem dL_law_1063 : decode cL_law 1063 = .ok (.iload_n 3, 1) := by decide +kernel
theorem dL_law_1064 : decode cL_law 1064 = .ok (.iconst 2, 1) := by decide +kernel
theorem dL_law_1065 : decode cL_law 1065 = .ok (.iadd, 1) := by decide +kernel
theorem dL_law_1066 : decode cL_law 1066 = .ok (.iaload, 1) := by decide +kernel
theorem dL_law_1067 : decode cL_law 1067 = .ok (.aload_n 0, 1) := by decide +kernel
theorem dL_law_1068 : decode cL_law 1068 = .ok (.iload_n 3, 1) := by decide +kernel
theorem dL_law_1069 : decode cL_law 1069 = .ok (.iconst 3, 1) := by decide +kernel
theorem dL_law_1070 : decode cL_law 1070 = .ok (.iadd, 1) := by decide +kernel
theorem dL_law_1071 : decode cL_law 1071 = .ok (.iaload, 1) := by decide +kernel
theorem dL_law_1072 : decode cL_law 1072 = .ok (.aload_n 0, 1) := by decide +kernel
theorem dL_law_1073 : decode cL_law 1073 = .ok (.iload_n 3, 1) := by decide +kernel
theorem dL_law_1074 : decode cL_law 1074 = .ok (.iconst 4, 1) := by decide +kernel
theorem dL_law_1075 : decode cL_law 1075 = .ok (.iadd, 1) := by decide +kernel
theorem dL_law_1076 : decode cL_law 1076 = .ok (.iaload, 1) := by decide +kernel
theorem dL_law_1077 : decode cL_law 1077 = .ok (.aload_n 0, 1) := by decide +kernel
theorem dL_law_1078 : decode cL_law 1078 = .ok (.iload_n 3, 1) := by decide +kernel
theorem dL_law_1079 : decode cL_law 1079 = .ok (.iconst 5, 1) := by decide +kernel
theorem dL_law_1080 : decode cL_law 1080 = .ok (.iadd, 1) := by decide +kernel
theorem dL_law_1081 : decode cL_law 1081 = .ok (.iaload, 1) := by decide +kernel
theorem dL_law_1082 : decode cL_law 1082 = .ok (.invokevirtual 124, 3) := by decide +kernel
theorem dL_law_1085 : decode cL_law 1085 = .ok (.aload_n 2, 1) := by decide +kernel
theorem dL_law_1086 : decode cL_law 1086 = .ok (.aload_n 0, 1) := by decide +kernel
theorem dL_law_1087 : decode cL_law 1087 = .ok (.iload_n 3, 1) := by decide +kernel
theorem dL_law_1088 : decode cL_law 1088 = .ok (.iconst 1, 1) := by decide +kernel
theorem dL_law_1089 : decode cL_law 1089 = .ok (.iadd, 1) := by decide +kernel
theorem dL_law_1090 : decode cL_law 1090 = .ok (.iaload, 1) := by decide +kernel
theorem dL_law_1091 : decode cL_law 1091 = .ok (.aload_n 0, 1) := by decide +kernel
theorem dL_law_1092 : decode cL_law 1092 = .ok (.iload_n 3, 1) := by decide +kernel
theorem dL_law_1093 : decode cL_law 1093 = .ok (.iconst 2, 1) := by decide +kernel
theorem dL_law_1094 : decode cL_law 1094 = .ok (.iadd, 1) := by decide +kernel
theorem dL_law_1095 : decode cL_law 1095 = .ok (.iaload, 1) := by decide +kernel
theorem dL_law_1096 : decode cL_law 1096 = .ok (.aload_n 0, 1) := by decide +kernel
theorem dL_law_1097 : decode cL_law 1097 = .ok (.iload_n 3, 1) := by decide +kernel
theorem dL_law_1098 : decode cL_law 1098 = .ok (.iconst 3, 1) := by decide +kernel
theorem dL_law_1099 : decode cL_law 1099 = .ok (.iadd, 1) := by decide +kernel
theorem dL_law_1100 : decode cL_law 1100 = .ok (.iaload, 1) := by decide +kernel
theorem dL_law_1101 : decode cL_law 1101 = .ok (.aload_n 0, 1) := by decide +kernel
theorem dL_law_1102 : decode cL_law 1102 = .ok (.iload_n 3, 1) := by decide +kernel
theorem dL_law_1103 : decode cL_law 1103 = .ok (.iconst 4, 1) := by decide +kernel
theorem dL_law_1104 : decode cL_law 1104 = .ok (.iadd, 1) := by decide +kernel
theorem dL_law_1105 : decode cL_law 1105 = .ok (.iaload, 1) := by decide +kernel
theorem dL_law_1106 : decode cL_law 1106 = .ok (.aload_n 0, 1) := by decide +kernel
theorem dL_law_1107 : decode cL_law 1107 = .ok (.iload_n 3, 1) := by decide +kernel
theorem dL_law_1108 : decode cL_law 1108 = .ok (.iconst 5, 1) := by decide +kernel
theorem dL_law_1109 : decode cL_law 1109 = .ok (.iadd, 1) := by decide +kernel
theorem dL_law_1110 : decode cL_law 1110 = .ok (.iaload, 1) := by decide +kernel
theorem dL_law_1111 : decode cL_law 1111 = .ok (.invokevirtual 128, 3) := by decide +kernel
theorem dL_law_1114 : decode cL_law 1114 = .ok (.if_icmp .eq 133, 3) := by decide +kernel
theorem dL_law_1117 : decode cL_law 1117 = .ok (.iconst 0, 1) := by decide +kernel
theorem dL_law_1118 : decode cL_law 1118 = .ok (.ireturn, 1) := by decide +kernel
theorem dL_law_1119 : decode cL_law 1119 = .ok (.aload_n 1, 1) := by decide +kernel
theorem dL_law_1120 : decode cL_law 1120 = .ok (.aload_n 0, 1) := by decide +kernel
theorem dL_law_1121 : decode cL_law 1121 = .ok (.iload_n 3, 1) := by decide +kernel
theorem dL_law_1122 : decode cL_law 1122 = .ok (.iconst 1, 1) := by decide +kernel
theorem dL_law_1123 : decode cL_law 1123 = .ok (.iadd, 1) := by decide +kernel
theorem dL_law_1124 : decode cL_law 1124 = .ok (.iaload, 1) := by decide +kernel
theorem dL_law_1125 : decode cL_law 1125 = .ok (.invokevirtual 129, 3) := by decide +kernel
theorem dL_law_1128 : decode cL_law 1128 = .ok (.aload_n 2, 1) := by decide +kernel
theorem dL_law_1129 : decode cL_law 1129 = .ok (.aload_n 0, 1) := by decide +kernel
theorem dL_law_1130 : decode cL_law 1130 = .ok (.iload_n 3, 1) := by decide +kernel
theorem dL_law_1131 : decode cL_law 1131 = .ok (.iconst 1, 1) := by decide +kernel
theorem dL_law_1132 : decode cL_law 1132 = .ok (.iadd, 1) := by decide +kernel
theorem dL_law_1133 : decode cL_law 1133 = .ok (.iaload, 1) := by decide +kernel
theorem dL_law_1134 : decode cL_law 1134 = .ok (.invokevirtual 132, 3) := by decide +kernel
theorem dL_law_1137 : decode cL_law 1137 = .ok (.if_icmp .eq 110, 3) := by decide +kernel
theorem dL_law_1140 : decode cL_law 1140 = .ok (.iconst 0, 1) := by decide +kernel
theorem dL_law_1141 : decode cL_law 1141 = .ok (.ireturn, 1) := by decide +kernel
theorem dL_law_1142 : decode cL_law 1142 = .ok (.aload_n 1, 1) := by decide +kernel
theorem dL_law_1143 : decode cL_law 1143 = .ok (.aload_n 0, 1) := by decide +kernel
theorem dL_law_1144 : decode cL_law 1144 = .ok (.iload_n 3, 1) := by decide +kernel
theorem dL_law_1145 : decode cL_law 1145 = .ok (.iconst 1, 1) := by decide +kernel
theorem dL_law_1146 : decode cL_law 1146 = .ok (.iadd, 1) := by decide +kernel
theorem dL_law_1147 : decode cL_law 1147 = .ok (.iaload, 1) := by decide +kernel
theorem dL_law_1148 : decode cL_law 1148 = .ok (.invokevirtual 133, 3) := by decide +kernel
theorem dL_law_1151 : decode cL_law 1151 = .ok (.aload_n 2, 1) := by decide +kernel
theorem dL_law_1152 : decode cL_law 1152 = .ok (.aload_n 0, 1) := by decide +kernel
theorem dL_law_1153 : decode cL_law 1153 = .ok (.iload_n 3, 1) := by decide +kernel
theorem dL_law_1154 : decode cL_law 1154 = .ok (.iconst 1, 1) := by decide +kernel
theorem dL_law_1155 : decode cL_law 1155 = .ok (.iadd, 1) := by decide +kernel
theorem dL_law_1156 : decode cL_law 1156 = .ok (.iaload, 1) := by decide +kernel
theorem dL_law_1157 : decode cL_law 1157 = .ok (.invokevirtual 136, 3) := by decide +kernel
theorem dL_law_1160 : decode cL_law 1160 = .ok (.if_icmp .eq 87, 3) := by decide +kernel
theorem dL_law_1163 : decode cL_law 1163 = .ok (.iconst 0, 1) := by decide +kernel
theorem dL_law_1164 : decode cL_law 1164 = .ok (.ireturn, 1) := by decide +kernel
theorem dL_law_1165 : decode cL_law 1165 = .ok (.aload_n 1, 1) := by decide +kernel
theorem dL_law_1166 : decode cL_law 1166 = .ok (.aload_n 0, 1) := by decide +kernel
theorem dL_law_1167 : decode cL_law 1167 = .ok (.iload_n 3, 1) := by decide +kernel
theorem dL_law_1168 : decode cL_law 1168 = .ok (.iconst 1, 1) := by decide +kernel
theorem dL_law_1169 : decode cL_law 1169 = .ok (.iadd, 1) := by decide +kernel
theorem dL_law_1170 : decode cL_law 1170 = .ok (.iaload, 1) := by decide +kernel
theorem dL_law_1171 : decode cL_law 1171 = .ok (.aload_n 0, 1) := by decide +kernel
theorem dL_law_1172 : decode cL_law 1172 = .ok (.iload_n 3, 1) := by decide +kernel
theorem dL_law_1173 : decode cL_law 1173 = .ok (.iconst 2, 1) := by decide +kernel
theorem dL_law_1174 : decode cL_law 1174 = .ok (.iadd, 1) := by decide +kernel
theorem dL_law_1175 : decode cL_law 1175 = .ok (.iaload, 1) := by decide +kernel
theorem dL_law_1176 : decode cL_law 1176 = .ok (.invokevirtual 137, 3) := by decide +kernel
theorem dL_law_1179 : decode cL_law 1179 = .ok (.aload_n 2, 1) := by decide +kernel
theorem dL_law_1180 : decode cL_law 1180 = .ok (.aload_n 0, 1) := by decide +kernel
theorem dL_law_1181 : decode cL_law 1181 = .ok (.iload_n 3, 1) := by decide +kernel
theorem dL_law_1182 : decode cL_law 1182 = .ok (.iconst 1, 1) := by decide +kernel
theorem dL_law_1183 : decode cL_law 1183 = .ok (.iadd, 1) := by decide +kernel
theorem dL_law_1184 : decode cL_law 1184 = .ok (.iaload, 1) := by decide +kernel
theorem dL_law_1185 : decode cL_law 1185 = .ok (.aload_n 0, 1) := by decide +kernel
theorem dL_law_1186 : decode cL_law 1186 = .ok (.iload_n 3, 1) := by decide +kernel
theorem dL_law_1187 : decode cL_law 1187 = .ok (.iconst 2, 1) := by decide +kernel
theorem dL_law_1188 : decode cL_law 1188 = .ok (.iadd, 1) := by decide +kernel
theorem dL_law_1189 : decode cL_law 1189 = .ok (.iaload, 1) := by decide +kernel
theorem dL_law_1190 : decode cL_law 1190 = .ok (.invokevirtual 140, 3) := by decide +kernel
theorem dL_law_1193 : decode cL_law 1193 = .ok (.if_icmp .eq 54, 3) := by decide +kernel
theorem dL_law_1196 : decode cL_law 1196 = .ok (.iconst 0, 1) := by decide +kernel
theorem dL_law_1197 : decode cL_law 1197 = .ok (.ireturn, 1) := by decide +kernel
theorem dL_law_1198 : decode cL_law 1198 = .ok (.aload_n 1, 1) := by decide +kernel
theorem dL_law_1199 : decode cL_law 1199 = .ok (.invokevirtual 141, 3) := by decide +kernel
theorem dL_law_1202 : decode cL_law 1202 = .ok (.aload_n 2, 1) := by decide +kernel
theorem dL_law_1203 : decode cL_law 1203 = .ok (.invokevirtual 144, 3) := by decide +kernel
theorem dL_law_1206 : decode cL_law 1206 = .ok (.if_icmp .eq 41, 3) := by decide +kernel
theorem dL_law_1209 : decode cL_law 1209 = .ok (.iconst 0, 1) := by decide +kernel
theorem dL_law_1210 : decode cL_law 1210 = .ok (.ireturn, 1) := by decide +kernel
theorem dL_law_1211 : decode cL_law 1211 = .ok (.aload_n 1, 1) := by decide +kernel
theorem dL_law_1212 : decode cL_law 1212 = .ok (.invokevirtual 145, 3) := by decide +kernel
theorem dL_law_1215 : decode cL_law 1215 = .ok (.aload_n 2, 1) := by decide +kernel
theorem dL_law_1216 : decode cL_law 1216 = .ok (.invokevirtual 148, 3) := by decide +kernel
theorem dL_law_1219 : decode cL_law 1219 = .ok (.if_icmp .eq 28, 3) := by decide +kernel
theorem dL_law_1222 : decode cL_law 1222 = .ok (.iconst 0, 1) := by decide +kernel
theorem dL_law_1223 : decode cL_law 1223 = .ok (.ireturn, 1) := by decide +kernel
theorem dL_law_1224 : decode cL_law 1224 = .ok (.aload_n 1, 1) := by decide +kernel
theorem dL_law_1225 : decode cL_law 1225 = .ok (.aload_n 0, 1) := by decide +kernel
theorem dL_law_1226 : decode cL_law 1226 = .ok (.iload_n 3, 1) := by decide +kernel
theorem dL_law_1227 : decode cL_law 1227 = .ok (.iconst 1, 1) := by decide +kernel
theorem dL_law_1228 : decode cL_law 1228 = .ok (.iadd, 1) := by decide +kernel
theorem dL_law_1229 : decode cL_law 1229 = .ok (.iaload, 1) := by decide +kernel
theorem dL_law_1230 : decode cL_law 1230 = .ok (.invokevirtual 149, 3) := by decide +kernel
theorem dL_law_1233 : decode cL_law 1233 = .ok (.aload_n 2, 1) := by decide +kernel
theorem dL_law_1234 : decode cL_law 1234 = .ok (.aload_n 0, 1) := by decide +kernel
theorem dL_law_1235 : decode cL_law 1235 = .ok (.iload_n 3, 1) := by decide +kernel
theorem dL_law_1236 : decode cL_law 1236 = .ok (.iconst 1, 1) := by decide +kernel
theorem dL_law_1237 : decode cL_law 1237 = .ok (.iadd, 1) := by decide +kernel
theorem dL_law_1238 : decode cL_law 1238 = .ok (.iaload, 1) := by decide +kernel
theorem dL_law_1239 : decode cL_law 1239 = .ok (.invokevirtual 152, 3) := by decide +kernel
theorem dL_law_1242 : decode cL_law 1242 = .ok (.if_icmp .eq 5, 3) := by decide +kernel
theorem dL_law_1245 : decode cL_law 1245 = .ok (.iconst 0, 1) := by decide +kernel
theorem dL_law_1246 : decode cL_law 1246 = .ok (.ireturn, 1) := by decide +kernel
theorem dL_law_1247 : decode cL_law 1247 = .ok (.iinc 3 6, 3) := by decide +kernel
theorem dL_law_1250 : decode cL_law 1250 = .ok (.goto (-1232), 3) := by decide +kernel
theorem dL_law_1253 : decode cL_law 1253 = .ok (.iconst 1, 1) := by decide +kernel
theorem dL_law_1254 : decode cL_law 1254 = .ok (.ireturn, 1) := by decide +kernel
end
section
/-! T: the judgement of this proof. A method's state is seen as: the cells made since the base (their shapes S, whose references are numbers of cells), the ints in them (D: cell, place), the locals L, the stack st. -/
def tw : List Cond := lw_tbl.filter goodWord
theorem tw_good {w : Cond} (h : w ∈ tw) : goodWord w = true := (List.mem_filter.mp h).2
theorem tw_t {w : Cond} (i : Nat) (h : tables_1[i]? = some w) (hg : goodWord w = true) : w ∈ tw := List.mem_filter.mpr ⟨List.mem_append_right _ (List.mem_of_getElem? h), hg⟩
theorem tw_s {w : Cond} (i : Nat) (h : (k2_sels lw_privs)[i]? = some w) (hg : goodWord w = true) : w ∈ tw := List.mem_filter.mpr ⟨List.mem_append_left _ (List.mem_of_getElem? h), hg⟩
theorem tw_hts {args : Array Value} {s : State} (h : ∀ w ∈ lw_tbl, w.before args s = true) : ∀ w ∈ tw, w.before args s = true := fun w hw => h w (List.mem_filter.mp hw).1
theorem tw_in {w : Cond} (hw : w ∈ tw) : GoodIn tw (w :: tw) := fun v hv => by
  rcases List.mem_cons.mp hv with rfl | h
  · exact ⟨hw, good_of_word (tw_good hw)⟩
  · exact ⟨h, good_of_word (tw_good h)⟩
abbrev G0 : Type := Nat × (Nat × Nat × (Nat → Int32)) × va_G × ClassId × ClassId × ClassId
abbrev DD : Type := Nat → Nat → Int
abbrev SC : Type := Nat × Nat × List (Option Value)
abbrev MI : Type := String × ByteArray × Nat × Option FieldType × Bool
def iI (a : Int) : Value := .int (Int32.ofInt a)
def lI (a : Int) : Value := .long (Int64.ofInt a)
def cv (g : G0) : Value → Value
  | .ref i => .ref (g.1 + i)
  | .float _ => .ref g.2.1.1
  | v => v
theorem cv_cat (g : G0) (v : Value) : (cv g v).category = v.category := by cases v <;> rfl
def fv (g : G0) (D : DD) (i : Nat) : Nat → List (Option Value) → List Value
  | _, [] => []
  | k, some v :: r => cv g v :: fv g D i (k + 1) r
  | k, none :: r => iI (D i k) :: fv g D i (k + 1) r
def rf (g : G0) (fs : List (Option Value)) (j : Nat) : Option Nat := match fs[j]? with
  | some (some (.ref a)) => some (g.1 + a)
  | _ => none
def ce (g : G0) (D : DD) (i : Nat) (x : SC) : va_E := match x.1 with
  | 0 => .inr (x.2.1, fv g D i 0 x.2.2)
  | 1 => .inl (g.2.2.2.1, (x.2.1, .inl (fun j => Int32.ofInt (D i j))))
  | 2 => .inl (g.2.2.2.2.1, (x.2.1, .inl (fun j => Int32.ofInt (D i j))))
  | _ => .inl (g.2.2.2.2.2, (x.2.1, .inr (.inr (.inr (.inr (rf g x.2.2))))))
def wsO (g : G0) (D : DD) : Nat → List SC → va_W
  | _, [] => []
  | i, x :: r => (g.1 + i, ce g D i x) :: wsO g D (i + 1) r
theorem wsO_get (g : G0) (D : DD) : ∀ (S : List SC) (i k : Nat) (x : SC), S[k]? = some x → (wsO g D i S)[k]? = some (g.1 + (i + k), ce g D (i + k) x)
  | [], i, k, x, h => by simp at h
  | y :: r, i, 0, x, h => by
    simp only [List.getElem?_cons_zero, Option.some.injEq] at h
    subst h
    rfl
  | y :: r, i, k + 1, x, h => by
    simp only [List.getElem?_cons_succ] at h
    have h1 := wsO_get g D r (i + 1) k x h
    rw [show i + 1 + k = i + (k + 1) by omega] at h1
    exact h1
theorem wsO_fst (g : G0) (D : DD) : ∀ (S : List SC) (i k : Nat) (q : Nat × va_E), (wsO g D i S)[k]? = some q → q.1 = g.1 + (i + k) ∧ k < S.length
  | [], i, k, q, h => by simp [wsO] at h
  | y :: r, i, 0, q, h => by
    simp only [wsO, List.getElem?_cons_zero, Option.some.injEq] at h
    subst h
    exact ⟨rfl, by simp⟩
  | y :: r, i, k + 1, q, h => by
    simp only [wsO, List.getElem?_cons_succ] at h
    have h1 := wsO_fst g D r (i + 1) k q h
    exact ⟨by rw [h1.1]; omega, by simp only [List.length_cons]; omega⟩
theorem wsO_D (g : G0) (D : DD) (S : List SC) : va_D (fun q => g.1 ≤ q) (wsO g D 0 S) := by
  refine ⟨fun i j p q hi hj hpq => ?_, fun k q hk => ?_⟩
  · have h1 := (wsO_fst g D S 0 i p hi).1
    have h2 := (wsO_fst g D S 0 j q hj).1
    omega
  · have h1 := (wsO_fst g D S 0 k q hk).1
    show g.1 ≤ q.1
    omega
theorem fv_cong (g : G0) {D D' : DD} {i : Nat} (h : D i = D' i) : ∀ (fs : List (Option Value)) (k : Nat), fv g D i k fs = fv g D' i k fs
  | [], _ => rfl
  | some v :: r, k => by simp only [fv, fv_cong g h r (k + 1)]
  | none :: r, k => by simp only [fv, fv_cong g h r (k + 1), h]
theorem ce_cong (g : G0) {D D' : DD} {i : Nat} (h : D i = D' i) (x : SC) : ce g D i x = ce g D' i x := by
  unfold ce
  rw [fv_cong g h, h]
theorem wsO_cong (g : G0) {D D' : DD} : ∀ (S : List SC) (i : Nat), (∀ r, i ≤ r → D r = D' r) → wsO g D i S = wsO g D' i S
  | [], _, _ => rfl
  | x :: r, i, h => by
    simp only [wsO]
    rw [ce_cong g (h i (Nat.le_refl _)), wsO_cong g r (i + 1) (fun r hr => h r (by omega))]
theorem wsO_set (g : G0) {D D' : DD} : ∀ (S : List SC) (i k : Nat) (x : SC), k < S.length → (∀ r, r ≠ i + k → D' r = D r) → (wsO g D i S).set k (g.1 + (i + k), ce g D' (i + k) x) = wsO g D' i (S.set k x)
  | [], i, k, x, h, _ => by simp at h
  | y :: r, i, 0, x, h, hr => by
    show (g.1 + (i + 0), ce g D' (i + 0) x) :: wsO g D (i + 1) r = (g.1 + i, ce g D' i x) :: wsO g D' (i + 1) r
    rw [wsO_cong g (D := D) (D' := D') r (i + 1) (fun q hq => (hr q (by omega)).symm)]
    rfl
  | y :: r, i, k + 1, x, h, hr => by
    show (g.1 + i, ce g D i y) :: (wsO g D (i + 1) r).set k (g.1 + (i + (k + 1)), ce g D' (i + (k + 1)) x) = (g.1 + i, ce g D' i y) :: wsO g D' (i + 1) (r.set k x)
    have h1 := wsO_set g (D := D) (D' := D') r (i + 1) k x (by simpa using h) (fun q hq => hr q (by omega))
    rw [show i + 1 + k = i + (k + 1) by omega] at h1
    rw [h1, ce_cong g (D := D) (D' := D') (hr i (by omega)).symm y]
theorem set_same {α : Type} : ∀ (S : List α) (k : Nat) (x : α), S[k]? = some x → S.set k x = S
  | [], k, x, h => by simp at h
  | y :: r, 0, x, h => by simp only [List.getElem?_cons_zero, Option.some.injEq] at h; subst h; rfl
  | y :: r, k + 1, x, h => by
    simp only [List.getElem?_cons_succ] at h
    show y :: r.set k x = y :: r
    rw [set_same r k x h]
theorem wsO_upd (g : G0) {D D' : DD} {S : List SC} {k : Nat} {x : SC} (h : S[k]? = some x) (hr : ∀ r, r ≠ k → D' r = D r) : (wsO g D 0 S).set k (g.1 + k, ce g D' k x) = wsO g D' 0 S := by
  have h1 := wsO_set g (D := D) (D' := D') S 0 k x (List.getElem?_eq_some_iff.mp h).1 (fun r hq => hr r (by omega))
  rw [Nat.zero_add, set_same S k x h] at h1
  exact h1
theorem wsO_push (g : G0) (D : DD) : ∀ (S : List SC) (i : Nat) (x : SC), wsO g D i (S ++ [x]) = wsO g D i S ++ [(g.1 + (i + S.length), ce g D (i + S.length) x)]
  | [], i, x => rfl
  | y :: r, i, x => by
    show (g.1 + i, ce g D i y) :: wsO g D (i + 1) (r ++ [x]) = (g.1 + i, ce g D i y) :: (wsO g D (i + 1) r ++ _)
    rw [wsO_push g D r (i + 1) x, show i + 1 + r.length = i + (y :: r).length by simp only [List.length_cons]; omega]
theorem fv_get (g : G0) (D : DD) (i : Nat) : ∀ (fs : List (Option Value)) (k j : Nat) (o : Option Value), fs[j]? = some o → (fv g D i k fs)[j]? = some (match o with | some v => cv g v | none => iI (D i (k + j)))
  | [], k, j, o, h => by simp at h
  | some v :: r, k, 0, o, h => by simp only [List.getElem?_cons_zero, Option.some.injEq] at h; subst h; rfl
  | none :: r, k, 0, o, h => by simp only [List.getElem?_cons_zero, Option.some.injEq] at h; subst h; rfl
  | some v :: r, k, j + 1, o, h => by
    simp only [List.getElem?_cons_succ] at h
    have h1 := fv_get g D i r (k + 1) j o h
    rw [show k + 1 + j = k + (j + 1) by omega] at h1
    exact h1
  | none :: r, k, j + 1, o, h => by
    simp only [List.getElem?_cons_succ] at h
    have h1 := fv_get g D i r (k + 1) j o h
    rw [show k + 1 + j = k + (j + 1) by omega] at h1
    exact h1
theorem fv_len (g : G0) (D : DD) (i : Nat) : ∀ (fs : List (Option Value)) (k : Nat), (fv g D i k fs).length = fs.length
  | [], _ => rfl
  | some v :: r, k => by simp only [fv, List.length_cons, fv_len g D i r (k + 1)]
  | none :: r, k => by simp only [fv, List.length_cons, fv_len g D i r (k + 1)]
def st2 (D : DD) (i j : Nat) (v : Int) : DD := fun a b => if a = i ∧ b = j then v else D a b
theorem st2_row {D : DD} {i j a : Nat} {v : Int} (h : a ≠ i) : st2 D i j v a = D a := by funext b; simp [st2, h]
theorem st2_at {D : DD} {i j : Nat} {v : Int} : st2 D i j v i j = v := by simp [st2]
theorem st2_ne {D : DD} {i j b : Nat} {v : Int} (h : b ≠ j) : st2 D i j v i b = D i b := by simp [st2, h]
theorem fv_st (g : G0) (D : DD) (i : Nat) (v : Int) : ∀ (fs : List (Option Value)) (k j : Nat), fs[j]? = some none → fv g (st2 D i (k + j) v) i k fs = (fv g D i k fs).set j (iI v)
  | [], k, j, h => by simp at h
  | some w :: r, k, 0, h => by simp at h
  | none :: r, k, 0, h => by
    show iI (st2 D i (k + 0) v i k) :: fv g (st2 D i (k + 0) v) i (k + 1) r = iI v :: fv g D i (k + 1) r
    have h1 : ∀ (r : List (Option Value)) (q : Nat), k < q → fv g (st2 D i (k + 0) v) i q r = fv g D i q r := by
      intro r
      induction r with
      | nil => intro q _; rfl
      | cons o r ih =>
        intro q hq
        cases o with
        | some w => show cv g w :: _ = cv g w :: _; rw [ih (q + 1) (by omega)]
        | none =>
          show iI (st2 D i (k + 0) v i q) :: _ = iI (D i q) :: _
          rw [ih (q + 1) (by omega), st2_ne (by omega)]
    rw [h1 r (k + 1) (by omega)]
    simp [st2]
  | some w :: r, k, j + 1, h => by
    simp only [List.getElem?_cons_succ] at h
    show cv g w :: fv g (st2 D i (k + (j + 1)) v) i (k + 1) r = cv g w :: (fv g D i (k + 1) r).set j (iI v)
    rw [show k + (j + 1) = k + 1 + j by omega, fv_st g D i v r (k + 1) j h]
  | none :: r, k, j + 1, h => by
    simp only [List.getElem?_cons_succ] at h
    show iI (st2 D i (k + (j + 1)) v i k) :: fv g (st2 D i (k + (j + 1)) v) i (k + 1) r = iI (D i k) :: (fv g D i (k + 1) r).set j (iI v)
    rw [st2_ne (by omega), show k + (j + 1) = k + 1 + j by omega, fv_st g D i v r (k + 1) j h]
theorem fv_stR (g : G0) (D : DD) (i : Nat) (v : Value) : ∀ (fs : List (Option Value)) (k j : Nat), j < fs.length → fv g D i k (fs.set j (some v)) = (fv g D i k fs).set j (cv g v)
  | [], k, j, h => by simp at h
  | some w :: r, k, 0, h => rfl
  | none :: r, k, 0, h => rfl
  | some w :: r, k, j + 1, h => by
    show cv g w :: fv g D i (k + 1) (r.set j (some v)) = cv g w :: (fv g D i (k + 1) r).set j (cv g v)
    rw [fv_stR g D i v r (k + 1) j (by simpa using h)]
  | none :: r, k, j + 1, h => by
    show iI (D i k) :: fv g D i (k + 1) (r.set j (some v)) = iI (D i k) :: (fv g D i (k + 1) r).set j (cv g v)
    rw [fv_stR g D i v r (k + 1) j (by simpa using h)]
/-! locals -/
def isW : Value → Bool
  | .long _ => true
  | .double _ => true
  | _ => false
def lup (k i : Nat) (v : Value) (o : Option Value) : Option Value :=
  if k = i then some v else if k + 1 = i then (match o with | some (.long _) => none | some (.double _) => none | o => o) else if k = i + 1 then (match v with | .long _ => none | .double _ => none | _ => o) else o
def lset : Nat → Nat → Value → List (Option Value) → List (Option Value)
  | _, _, _, [] => []
  | k, i, v, o :: r => lup k i v o :: lset (k + 1) i v r
def lp (g : G0) : Nat → List (Option Value) → List (Nat × Value)
  | _, [] => []
  | k, some v :: r => (k, cv g v) :: lp g (k + 1) r
  | k, none :: r => lp g (k + 1) r
theorem lp_mem (g : G0) : ∀ (L : List (Option Value)) (k : Nat) (q : Nat × Value), q ∈ lp g k L ↔ ∃ (j : Nat) (v : Value), L[j]? = some (some v) ∧ q = (k + j, cv g v)
  | [], k, q => by simp [lp]
  | some w :: r, k, q => by
    simp only [lp, List.mem_cons, lp_mem g r (k + 1) q]
    constructor
    · rintro (rfl | ⟨j, v, h1, rfl⟩)
      · exact ⟨0, w, rfl, rfl⟩
      · exact ⟨j + 1, v, h1, by rw [show k + 1 + j = k + (j + 1) by omega]⟩
    · rintro ⟨j, v, h1, rfl⟩
      cases j with
      | zero => simp only [List.getElem?_cons_zero, Option.some.injEq] at h1; subst h1; exact Or.inl rfl
      | succ j => exact Or.inr ⟨j, v, h1, by rw [show k + 1 + j = k + (j + 1) by omega]⟩
  | none :: r, k, q => by
    simp only [lp, lp_mem g r (k + 1) q]
    constructor
    · rintro ⟨j, v, h1, rfl⟩
      exact ⟨j + 1, v, h1, by rw [show k + 1 + j = k + (j + 1) by omega]⟩
    · rintro ⟨j, v, h1, rfl⟩
      cases j with
      | zero => simp at h1
      | succ j => exact ⟨j, v, h1, by rw [show k + 1 + j = k + (j + 1) by omega]⟩
theorem lset_get : ∀ (L : List (Option Value)) (k i : Nat) (v : Value) (j : Nat), (lset k i v L)[j]? = (L[j]?).map (lup (k + j) i v)
  | [], k, i, v, j => by simp [lset]
  | o :: r, k, i, v, 0 => by simp [lset]
  | o :: r, k, i, v, j + 1 => by
    simp only [lset, List.getElem?_cons_succ, lset_get r (k + 1) i v j]
    rw [show k + 1 + j = k + (j + 1) by omega]
def lh (g : G0) (ls : Array Slot) (n : Nat) (L : List (Option Value)) : Prop := lv_has ls n (lp g 0 L)
theorem lh_at {g : G0} {ls : Array Slot} {n i : Nat} {L : List (Option Value)} {v : Value} (h : lh g ls n L) (hi : L[i]? = some (some v)) : ls[i]? = some (.val (cv g v)) := by
  have h1 := h.2.2 (i, cv g v) ((lp_mem g L 0 _).mpr ⟨i, v, hi, by rw [Nat.zero_add]⟩)
  exact h1
theorem lup_cases {k i : Nat} {v w : Value} {o : Option Value} (h : lup k i v o = some w) : (k = i ∧ w = v) ∨ (o = some w ∧ k ≠ i ∧ ¬ (k + 1 = i ∧ w.category = 2) ∧ ¬ (k = i + 1 ∧ v.category = 2)) := by
  unfold lup at h
  by_cases h1 : k = i
  · rw [if_pos h1] at h
    exact Or.inl ⟨h1, (Option.some.inj h).symm⟩
  · rw [if_neg h1] at h
    by_cases h2 : k + 1 = i
    · rw [if_pos h2] at h
      refine Or.inr ?_
      cases o with
      | none => cases h
      | some x => cases x <;> first | (cases h; done) | (cases h; refine ⟨rfl, h1, fun q => ?_, fun q => by omega⟩; exact absurd q.2 (by decide)) | (cases h; exact ⟨rfl, h1, fun q => by simp [Value.category] at q, fun q => by omega⟩)
    · rw [if_neg h2] at h
      by_cases h3 : k = i + 1
      · rw [if_pos h3] at h
        refine Or.inr ?_
        cases v <;> first | (cases h; done) | exact ⟨h, h1, fun q => h2 q.1, fun q => by simp [Value.category] at q⟩
      · rw [if_neg h3] at h
        exact Or.inr ⟨h, h1, fun q => h2 q.1, fun q => h3 q.1⟩
theorem lh_st1 {g : G0} {ls' : Array Slot} {n i : Nat} {L : List (Option Value)} {v : Value} (h : lv_has ls' n ((i, cv g v) :: (lp g 0 L).filter (fun q => !(q.1 == i) && !(q.1 + 1 == i && q.2.category == 2)))) : lh g ls' n (lset 0 i v L) := by
  refine ⟨h.1, h.2.1, fun q hq => ?_⟩
  obtain ⟨j, w, hj, rfl⟩ := (lp_mem g _ 0 q).mp hq
  rw [lset_get, Option.map_eq_some_iff] at hj
  obtain ⟨o, ho, hw⟩ := hj
  rw [Nat.zero_add] at hw ⊢
  rcases lup_cases hw with ⟨rfl, rfl⟩ | ⟨rfl, h1, h2, -⟩
  · exact h.2.2 _ List.mem_cons_self
  · refine h.2.2 _ (List.mem_cons_of_mem _ (List.mem_filter.mpr ⟨(lp_mem g L 0 _).mpr ⟨j, w, ho, by rw [Nat.zero_add]⟩, ?_⟩))
    simp only [Bool.and_eq_true, Bool.not_eq_true', beq_eq_false_iff_ne, Bool.and_eq_false_iff]
    refine ⟨h1, ?_⟩
    rw [cv_cat]
    by_cases h3 : j + 1 = i
    · exact Or.inr (fun h4 => h2 ⟨h3, h4⟩)
    · exact Or.inl h3
theorem lh_st2 {g : G0} {ls' : Array Slot} {n i : Nat} {L : List (Option Value)} {v : Value} (hv : v.category = 2) (h : lv_has ls' n ((i, cv g v) :: (lp g 0 L).filter (fun q => !(q.1 == i) && (!(q.1 == i + 1) && !(q.1 + 1 == i && q.2.category == 2))))) : lh g ls' n (lset 0 i v L) := by
  refine ⟨h.1, h.2.1, fun q hq => ?_⟩
  obtain ⟨j, w, hj, rfl⟩ := (lp_mem g _ 0 q).mp hq
  rw [lset_get, Option.map_eq_some_iff] at hj
  obtain ⟨o, ho, hw⟩ := hj
  rw [Nat.zero_add] at hw ⊢
  rcases lup_cases hw with ⟨rfl, rfl⟩ | ⟨rfl, h1, h2, h5⟩
  · exact h.2.2 _ List.mem_cons_self
  · refine h.2.2 _ (List.mem_cons_of_mem _ (List.mem_filter.mpr ⟨(lp_mem g L 0 _).mpr ⟨j, w, ho, by rw [Nat.zero_add]⟩, ?_⟩))
    simp only [Bool.and_eq_true, Bool.not_eq_true', beq_eq_false_iff_ne, Bool.and_eq_false_iff]
    refine ⟨h1, fun h6 => h5 ⟨h6, hv⟩, ?_⟩
    rw [cv_cat]
    by_cases h3 : j + 1 = i
    · exact Or.inr (fun h4 => h2 ⟨h3, h4⟩)
    · exact Or.inl h3
def la : List Value → List (Option Value)
  | [] => []
  | v :: r => match v with
    | .long _ => some v :: none :: la r
    | .double _ => some v :: none :: la r
    | _ => some v :: la r
def le0 (n : Nat) (vs : List Value) : List (Option Value) := la vs ++ List.replicate (n - (la vs).length) none
theorem la_len (g : G0) : ∀ vs : List Value, (la vs).length = (lg_sl (vs.map (cv g))).length
  | [] => rfl
  | v :: r => by
    have ih := la_len g r
    cases v <;> simp only [la, List.length_cons, List.map_cons, lg_sl, List.flatMap_cons, List.length_append, cv, Value.category] at ih ⊢ <;> simp [ih] <;> omega
theorem la_args (g : G0) : ∀ (vs : List Value) (k : Nat) (t : List (Option Value)) (q : Nat × Value), (∀ o ∈ t, o = none) → q ∈ lp g k (la vs ++ t) → q ∈ lv_args k (vs.map (cv g))
  | [], k, t, q, ht, h => by
    obtain ⟨j, v, h1, -⟩ := (lp_mem g t k q).mp h
    exact absurd (ht _ (List.mem_of_getElem? h1)) (by simp)
  | v :: r, k, t, q, ht, h => by
    have ih := la_args g r
    cases v <;> simp only [la, List.cons_append, lp, List.mem_cons, List.map_cons, lv_args, cv, Value.category] at h ⊢ <;>
      (rcases h with h | h
       · exact Or.inl h
       · exact Or.inr (ih _ t q ht h))
theorem lh_entry (g : G0) (vs : List Value) {n : Nat} (h : (la vs).length ≤ n) : lh g ((lg_sl (vs.map (cv g)) ++ List.replicate (n - (lg_sl (vs.map (cv g))).length) Slot.unset).toArray) n (le0 n vs) := by
  have h1 := lv_entry (vs.map (cv g)) (n := n) (by rw [← la_len]; exact h)
  exact ⟨h1.1, h1.2.1, fun q hq => h1.2.2 q (la_args g vs 0 _ q (fun o ho => (List.mem_replicate.mp ho).2) hq)⟩

def tys (g : G0) : List (ClassId × FieldType) := [(g.2.2.2.1, .int), (g.2.2.2.2.1, .boolean), (g.2.2.2.2.2, .object RX4)]
def Rl (g : G0) (S : List SC) (D : DD) (H : Heap) : Prop := va_P g.2.2.1 vwCl (wsO g D 0 S) H
def Cx (g : G0) (M : MI) (R : Room) (nc ns : Nat) (L : List (Option Value)) (S : List SC) (D : DD) (p : Program) (s : State) (m : MethodId) (args : Array Value) (meth : Method) (c : Code) (H : Heap) (locs : List Loc) (cells slots : Nat) (ls : Array Slot) : Prop :=
  (p.tables.exec = Jvm.exec ∧ c.code = M.2.1 ∧ c.maxLocals = M.2.2.1 ∧ meth.sig.returnType = M.2.2.2.1 ∧ s.vm.findClass M.1 = some m.cls ∧ (∀ w ∈ tw, w.before args s = true) ∧ meth.locks = false ∧ (M.2.2.2.2 = true → meth.name = "<init>") ∧ va_K g.2.2.1 vwCl (tys g) s ∧ g.1 ≤ s.heap.size ∧ (M.1 = RL → va_X g.2.1.1 g.2.1.2.1 g.2.1.2.2 s s.heap ∧ g.2.1.1 < g.1)) ∧
  Rl g S D H ∧ va_S (fun q => g.1 ≤ q) s.heap H locs ∧ lh g ls M.2.2.1 L ∧ cells + nc = R.cells ∧ slots + ns = R.slots ∧ s.heap.size + cells = g.1 + S.length
def T (g : G0) (M : MI) (R : Room) (nc ns : Nat) (Qf : List Frame → Array Value → State → State → Prop) (pc : Nat) (L : List (Option Value)) (st : List Value) (S : List SC) (D : DD) : Prop :=
  ∀ (p : Program) (l : Launch) (e : Env) (s : State) (m : MethodId) (args : Array Value) (below : List Frame) (meth : Method) (c : Code) (H : Heap) (locs : List Loc) (cells slots : Nat) (ls : Array Slot), Cx g M R nc ns L S D p s m args meth c H locs cells slots ls → W p l e R s m args below meth c H locs cells slots (Qf below args s) (F0 m pc ls (st.map (cv g)))
def InR (a : Int) : Prop := -2147483648 ≤ a ∧ a < 2147483648
def In64 (a : Int) : Prop := -9223372036854775808 ≤ a ∧ a < 9223372036854775808
theorem i_ti {a : Int} (h : InR a) : (Int32.ofInt a).toInt = a := Int32.toInt_ofInt_of_le (by have := h.1; omega) (by have := h.2; omega)
theorem l_ti {a : Int} (h : In64 a) : (Int64.ofInt a).toInt = a := Int64.toInt_ofInt_of_le (by have := h.1; omega) (by have := h.2; omega)
theorem i_lt {a b : Int} (ha : InR a) (hb : InR b) : Int32.ofInt a < Int32.ofInt b ↔ a < b := by rw [Int32.lt_iff_toInt_lt, i_ti ha, i_ti hb]
theorem i_le {a b : Int} (ha : InR a) (hb : InR b) : Int32.ofInt a ≤ Int32.ofInt b ↔ a ≤ b := by rw [Int32.le_iff_toInt_le, i_ti ha, i_ti hb]
theorem i_eq {a b : Int} (ha : InR a) (hb : InR b) : Int32.ofInt a = Int32.ofInt b ↔ a = b := by rw [← Int32.toInt_inj, i_ti ha, i_ti hb]
theorem l_lt {a b : Int} (ha : In64 a) (hb : In64 b) : Int64.ofInt a < Int64.ofInt b ↔ a < b := by rw [Int64.lt_iff_toInt_lt, l_ti ha, l_ti hb]
theorem l_eq {a b : Int} (ha : In64 a) (hb : In64 b) : Int64.ofInt a = Int64.ofInt b ↔ a = b := by rw [← Int64.toInt_inj, l_ti ha, l_ti hb]
theorem inR_0 : InR 0 := ⟨by decide, by decide⟩
theorem i_0 : (0 : Int32) = Int32.ofInt 0 := by decide
theorem i_in {j : Int} {n : Nat} (h0 : 0 ≤ j) (h1 : j < n) (hn : n < 2147483648) : vp_in (Int32.ofInt j) n := by
  have hj : InR j := ⟨by omega, by omega⟩
  rw [vp_in_iff, i_ti hj]
  exact ⟨h0, h1⟩
theorem i_cl {j : Int} (h0 : 0 ≤ j) (h1 : j < 2147483648) : (Int32.ofInt j).toNatClampNeg = j.toNat := by
  show (Int32.ofInt j).toInt.toNat = j.toNat
  rw [i_ti ⟨by omega, h1⟩]
def iand (a b : Int) : Int := (Int32.ofInt a &&& Int32.ofInt b).toInt
def ior (a b : Int) : Int := (Int32.ofInt a ||| Int32.ofInt b).toInt
def ixor (a b : Int) : Int := (Int32.ofInt a ^^^ Int32.ofInt b).toInt
def ishl (a b : Int) : Int := (Int32.ofInt a <<< (Int32.ofInt b &&& 31)).toInt
def ishr (a b : Int) : Int := (Int32.ofInt a >>> (Int32.ofInt b &&& 31)).toInt
def iushr (a b : Int) : Int := ((Int32.ofInt a).toUInt32 >>> ((Int32.ofInt b).toUInt32 &&& Int32.toUInt32 31)).toInt32.toInt
def lshl (a b : Int) : Int := (Int64.ofInt a <<< ((Int32.ofInt b).toInt64 &&& 63)).toInt
def i2b (a : Int) : Int := (Int32.ofInt a).toInt8.toInt32.toInt
def i2s (a : Int) : Int := (Int32.ofInt a).toInt16.toInt32.toInt
def lc (a b : Int) : Int := if b < a then 1 else if a = b then 0 else -1
theorem inR_lc (a b : Int) : InR (lc a b) := by unfold lc InR; (split <;> first | omega | (split <;> omega))
theorem lc_lt {a b : Int} : lc a b < 0 ↔ a < b := by unfold lc; (split <;> first | omega | (split <;> omega))
theorem lc_le {a b : Int} : lc a b ≤ 0 ↔ a ≤ b := by unfold lc; (split <;> first | omega | (split <;> omega))
theorem lc_eq {a b : Int} : lc a b = 0 ↔ a = b := by unfold lc; (split <;> first | omega | (split <;> omega))
theorem i_of (x : Int32) : Int32.ofInt x.toInt = x := Int32.ofInt_toInt x
theorem l_of (x : Int64) : Int64.ofInt x.toInt = x := Int64.ofInt_toInt x
section
variable {g : G0} {M : MI} {R : Room} {nc ns : Nat} {Qf : List Frame → Array Value → State → State → Prop} {pc : Nat} {L : List (Option Value)} {st : List Value} {S : List SC} {D : DD}

theorem T_iconst {n : Int} (hd : decode M.2.1 pc = .ok (.iconst n, 1)) (k : T g M R nc ns Qf (pc + 1) L (iI n :: st) S D) : T g M R nc ns Qf pc L (st) S D := by
  intro p l e s m args below meth c H locs cells slots ls X
  exact lv_iconst X.1.1 X.1.2.1 hd rfl (k p l e s m args below meth c H locs cells slots ls X)
theorem T_bipush {n : Int} (hd : decode M.2.1 pc = .ok (.bipush n, 2)) (hv : (Int8.ofInt n).toInt32 = Int32.ofInt n) (k : T g M R nc ns Qf (pc + 2) L (iI n :: st) S D) : T g M R nc ns Qf pc L (st) S D := by
  intro p l e s m args below meth c H locs cells slots ls X
  exact lv_bipush X.1.1 X.1.2.1 hd hv (k p l e s m args below meth c H locs cells slots ls X)
theorem T_sipush {n : Int} (hd : decode M.2.1 pc = .ok (.sipush n, 3)) (hv : (Int16.ofInt n).toInt32 = Int32.ofInt n) (k : T g M R nc ns Qf (pc + 3) L (iI n :: st) S D) : T g M R nc ns Qf pc L (st) S D := by
  intro p l e s m args below meth c H locs cells slots ls X
  exact lv_sipush X.1.1 X.1.2.1 hd hv (k p l e s m args below meth c H locs cells slots ls X)
theorem T_lconst {n : Fin 2} (hd : decode M.2.1 pc = .ok (.lconst n, 1)) {a : Int} (hv : Int64.ofNat (n : Nat) = Int64.ofInt a) (k : T g M R nc ns Qf (pc + 1) L (lI a :: st) S D) : T g M R nc ns Qf pc L (st) S D := by
  intro p l e s m args below meth c H locs cells slots ls X
  exact lv_lconst X.1.1 X.1.2.1 hd hv (k p l e s m args below meth c H locs cells slots ls X)
theorem T_ldc {i : Nat} {n : Int} (hd : decode M.2.1 pc = .ok (.ldc i, 2)) (hw : Cond.constant M.1 i (Int32.ofInt n) ∈ tw) (k : T g M R nc ns Qf (pc + 2) L (iI n :: st) S D) : T g M R nc ns Qf pc L (st) S D := by
  intro p l e s m args below meth c H locs cells slots ls X
  exact lv_ldc X.1.1 X.1.2.1 X.1.2.2.2.2.1 (X.1.2.2.2.2.2.1 _ hw) hd (k p l e s m args below meth c H locs cells slots ls X)
theorem T_ldcw {i : Nat} {n : Int} (hd : decode M.2.1 pc = .ok (.ldc_w i, 3)) (hw : Cond.constant M.1 i (Int32.ofInt n) ∈ tw) (k : T g M R nc ns Qf (pc + 3) L (iI n :: st) S D) : T g M R nc ns Qf pc L (st) S D := by
  intro p l e s m args below meth c H locs cells slots ls X
  exact lv_ldcw X.1.1 X.1.2.1 X.1.2.2.2.2.1 (X.1.2.2.2.2.2.1 _ hw) hd (k p l e s m args below meth c H locs cells slots ls X)
theorem T_ldc2 {i : Nat} {n : Int} (hd : decode M.2.1 pc = .ok (.ldc2_w i, 3)) (hw : Cond.constantLong M.1 i (Int64.ofInt n) ∈ tw) (k : T g M R nc ns Qf (pc + 3) L (lI n :: st) S D) : T g M R nc ns Qf pc L (st) S D := by
  intro p l e s m args below meth c H locs cells slots ls X
  exact lv_ldc2 X.1.1 X.1.2.1 X.1.2.2.2.2.1 (X.1.2.2.2.2.2.1 _ hw) hd (k p l e s m args below meth c H locs cells slots ls X)
theorem T_iload_n {a : Int} {i : Fin 4} (hd : decode M.2.1 pc = .ok (.iload_n i, 1)) (hl : L[(i : Nat)]? = some (some (iI a))) (k : T g M R nc ns Qf (pc + 1) L (iI a :: st) S D) : T g M R nc ns Qf pc L (st) S D := by
  intro p l e s m args below meth c H locs cells slots ls X
  exact lv_iload_n X.1.1 X.1.2.1 hd rfl (lh_at X.2.2.2.1 hl) (k p l e s m args below meth c H locs cells slots ls X)
theorem T_iload {a : Int} {i : Nat} (hd : decode M.2.1 pc = .ok (.iload i, 2)) (hl : L[i]? = some (some (iI a))) (k : T g M R nc ns Qf (pc + 2) L (iI a :: st) S D) : T g M R nc ns Qf pc L (st) S D := by
  intro p l e s m args below meth c H locs cells slots ls X
  exact lv_iload X.1.1 X.1.2.1 hd (lh_at X.2.2.2.1 hl) (k p l e s m args below meth c H locs cells slots ls X)
theorem T_lload_n {a : Int} {i : Fin 4} (hd : decode M.2.1 pc = .ok (.lload_n i, 1)) (hl : L[(i : Nat)]? = some (some (lI a))) (k : T g M R nc ns Qf (pc + 1) L (lI a :: st) S D) : T g M R nc ns Qf pc L (st) S D := by
  intro p l e s m args below meth c H locs cells slots ls X
  exact lv_lload_n X.1.1 X.1.2.1 hd rfl (lh_at X.2.2.2.1 hl) (k p l e s m args below meth c H locs cells slots ls X)
theorem T_lload {a : Int} {i : Nat} (hd : decode M.2.1 pc = .ok (.lload i, 2)) (hl : L[i]? = some (some (lI a))) (k : T g M R nc ns Qf (pc + 2) L (lI a :: st) S D) : T g M R nc ns Qf pc L (st) S D := by
  intro p l e s m args below meth c H locs cells slots ls X
  exact lv_lload X.1.1 X.1.2.1 hd (lh_at X.2.2.2.1 hl) (k p l e s m args below meth c H locs cells slots ls X)
theorem T_aload_n {a : Nat} {i : Fin 4} (hd : decode M.2.1 pc = .ok (.aload_n i, 1)) (hl : L[(i : Nat)]? = some (some (.ref a))) (k : T g M R nc ns Qf (pc + 1) L (.ref a :: st) S D) : T g M R nc ns Qf pc L (st) S D := by
  intro p l e s m args below meth c H locs cells slots ls X
  exact lv_aload_n X.1.1 X.1.2.1 hd rfl (lh_at X.2.2.2.1 hl) (k p l e s m args below meth c H locs cells slots ls X)
theorem T_aload {a : Nat} {i : Nat} (hd : decode M.2.1 pc = .ok (.aload i, 2)) (hl : L[i]? = some (some (.ref a))) (k : T g M R nc ns Qf (pc + 2) L (.ref a :: st) S D) : T g M R nc ns Qf pc L (st) S D := by
  intro p l e s m args below meth c H locs cells slots ls X
  exact lv_aload X.1.1 X.1.2.1 hd (lh_at X.2.2.2.1 hl) (k p l e s m args below meth c H locs cells slots ls X)
theorem T_aloadS {x : UInt32} {i : Fin 4} (hd : decode M.2.1 pc = .ok (.aload_n i, 1)) (hl : L[(i : Nat)]? = some (some (.float x))) (k : T g M R nc ns Qf (pc + 1) L (.float x :: st) S D) : T g M R nc ns Qf pc L (st) S D := by
  intro p l e s m args below meth c H locs cells slots ls X
  exact lv_aload_n X.1.1 X.1.2.1 hd rfl (lh_at (v := .float x) X.2.2.2.1 hl) (k p l e s m args below meth c H locs cells slots ls X)
theorem T_istore_n {a : Int} {i : Fin 4} (hd : decode M.2.1 pc = .ok (.istore_n i, 1)) (hn : (i : Nat) < M.2.2.1) (k : T g M R nc ns Qf (pc + 1) (lset 0 (i : Nat) (iI a) L) st S D) : T g M R nc ns Qf pc L (iI a :: st) S D := by
  intro p l e s m args below meth c H locs cells slots ls X
  refine lv_istore_n X.1.1 X.1.2.1 hd rfl X.2.2.2.1 hn rfl (fun ls hl => ?_)
  exact k p l e s m args below meth c H locs cells slots ls ⟨X.1, X.2.1, X.2.2.1, lh_st1 hl, X.2.2.2.2⟩
theorem T_istore {a : Int} {i : Nat} (hd : decode M.2.1 pc = .ok (.istore i, 2)) (hn : i < M.2.2.1) (k : T g M R nc ns Qf (pc + 2) (lset 0 i (iI a) L) st S D) : T g M R nc ns Qf pc L (iI a :: st) S D := by
  intro p l e s m args below meth c H locs cells slots ls X
  refine lv_istore X.1.1 X.1.2.1 hd X.2.2.2.1 hn rfl (fun ls hl => ?_)
  exact k p l e s m args below meth c H locs cells slots ls ⟨X.1, X.2.1, X.2.2.1, lh_st1 hl, X.2.2.2.2⟩
theorem T_lstore_n {a : Int} {i : Fin 4} (hd : decode M.2.1 pc = .ok (.lstore_n i, 1)) (hn : (i : Nat) + 1 < M.2.2.1) (k : T g M R nc ns Qf (pc + 1) (lset 0 (i : Nat) (lI a) L) st S D) : T g M R nc ns Qf pc L (lI a :: st) S D := by
  intro p l e s m args below meth c H locs cells slots ls X
  refine lv_lstore_n X.1.1 X.1.2.1 hd rfl X.2.2.2.1 hn rfl (fun ls hl => ?_)
  exact k p l e s m args below meth c H locs cells slots ls ⟨X.1, X.2.1, X.2.2.1, lh_st2 rfl hl, X.2.2.2.2⟩
theorem T_lstore {a : Int} {i : Nat} (hd : decode M.2.1 pc = .ok (.lstore i, 2)) (hn : i + 1 < M.2.2.1) (k : T g M R nc ns Qf (pc + 2) (lset 0 i (lI a) L) st S D) : T g M R nc ns Qf pc L (lI a :: st) S D := by
  intro p l e s m args below meth c H locs cells slots ls X
  refine lv_lstore X.1.1 X.1.2.1 hd X.2.2.2.1 hn rfl (fun ls hl => ?_)
  exact k p l e s m args below meth c H locs cells slots ls ⟨X.1, X.2.1, X.2.2.1, lh_st2 rfl hl, X.2.2.2.2⟩
theorem T_astore_n {a : Nat} {i : Fin 4} (hd : decode M.2.1 pc = .ok (.astore_n i, 1)) (hn : (i : Nat) < M.2.2.1) (k : T g M R nc ns Qf (pc + 1) (lset 0 (i : Nat) (.ref a) L) st S D) : T g M R nc ns Qf pc L (.ref a :: st) S D := by
  intro p l e s m args below meth c H locs cells slots ls X
  refine lv_astore_n X.1.1 X.1.2.1 hd rfl X.2.2.2.1 hn rfl (fun ls hl => ?_)
  exact k p l e s m args below meth c H locs cells slots ls ⟨X.1, X.2.1, X.2.2.1, lh_st1 hl, X.2.2.2.2⟩
theorem T_astore {a : Nat} {i : Nat} (hd : decode M.2.1 pc = .ok (.astore i, 2)) (hn : i < M.2.2.1) (k : T g M R nc ns Qf (pc + 2) (lset 0 i (.ref a) L) st S D) : T g M R nc ns Qf pc L (.ref a :: st) S D := by
  intro p l e s m args below meth c H locs cells slots ls X
  refine lv_astore X.1.1 X.1.2.1 hd X.2.2.2.1 hn rfl (fun ls hl => ?_)
  exact k p l e s m args below meth c H locs cells slots ls ⟨X.1, X.2.1, X.2.2.1, lh_st1 hl, X.2.2.2.2⟩
theorem T_iinc {a n : Int} {i : Nat} (hd : decode M.2.1 pc = .ok (.iinc i n, 3)) (hl : L[i]? = some (some (iI a))) (hn : i < M.2.2.1) (k : T g M R nc ns Qf (pc + 3) (lset 0 i (iI (a + n)) L) st S D) : T g M R nc ns Qf pc L st S D := by
  intro p l e s m args below meth c H locs cells slots ls X
  obtain ⟨k0, hk0⟩ := List.getElem?_of_mem ((lp_mem g L 0 (i, iI a)).mpr ⟨i, iI a, hl, by rw [Nat.zero_add]; rfl⟩)
  refine lv_iinc (v := Int32.ofInt (a + n)) X.1.1 X.1.2.1 hd X.2.2.2.1 hk0 (Int32.ofInt_add a n).symm hn rfl (fun ls hl => ?_)
  exact k p l e s m args below meth c H locs cells slots ls ⟨X.1, X.2.1, X.2.2.1, lh_st1 (v := iI (a + n)) hl, X.2.2.2.2⟩
theorem T_iadd {a b : Int} (hd : decode M.2.1 pc = .ok (.iadd, 1)) (k : T g M R nc ns Qf (pc + 1) L (iI (a + b) :: st) S D) : T g M R nc ns Qf pc L (iI b :: iI a :: st) S D := by
  intro p l e s m args below meth c H locs cells slots ls X
  have h := k p l e s m args below meth c H locs cells slots ls X
  simp only [List.map_cons, iI, cv, Int32.ofInt_add] at h ⊢
  exact lv_iadd X.1.1 X.1.2.1 hd h
theorem T_isub {a b : Int} (hd : decode M.2.1 pc = .ok (.isub, 1)) (k : T g M R nc ns Qf (pc + 1) L (iI (a - b) :: st) S D) : T g M R nc ns Qf pc L (iI b :: iI a :: st) S D := by
  intro p l e s m args below meth c H locs cells slots ls X
  have h := k p l e s m args below meth c H locs cells slots ls X
  simp only [List.map_cons, iI, cv, Int32.ofInt_sub] at h ⊢
  exact lv_isub X.1.1 X.1.2.1 hd h
theorem T_imul {a b : Int} (hd : decode M.2.1 pc = .ok (.imul, 1)) (k : T g M R nc ns Qf (pc + 1) L (iI (a * b) :: st) S D) : T g M R nc ns Qf pc L (iI b :: iI a :: st) S D := by
  intro p l e s m args below meth c H locs cells slots ls X
  have h := k p l e s m args below meth c H locs cells slots ls X
  simp only [List.map_cons, iI, cv, Int32.ofInt_mul] at h ⊢
  exact lv_imul X.1.1 X.1.2.1 hd h
theorem T_ladd {a b : Int} (hd : decode M.2.1 pc = .ok (.ladd, 1)) (k : T g M R nc ns Qf (pc + 1) L (lI (a + b) :: st) S D) : T g M R nc ns Qf pc L (lI b :: lI a :: st) S D := by
  intro p l e s m args below meth c H locs cells slots ls X
  have h := k p l e s m args below meth c H locs cells slots ls X
  simp only [List.map_cons, lI, cv, Int64.ofInt_add] at h ⊢
  exact lv_ladd X.1.1 X.1.2.1 hd h
theorem T_lsub {a b : Int} (hd : decode M.2.1 pc = .ok (.lsub, 1)) (k : T g M R nc ns Qf (pc + 1) L (lI (a - b) :: st) S D) : T g M R nc ns Qf pc L (lI b :: lI a :: st) S D := by
  intro p l e s m args below meth c H locs cells slots ls X
  have h := k p l e s m args below meth c H locs cells slots ls X
  simp only [List.map_cons, lI, cv, Int64.ofInt_sub] at h ⊢
  exact lv_lsub X.1.1 X.1.2.1 hd h
theorem T_lmul {a b : Int} (hd : decode M.2.1 pc = .ok (.lmul, 1)) (k : T g M R nc ns Qf (pc + 1) L (lI (a * b) :: st) S D) : T g M R nc ns Qf pc L (lI b :: lI a :: st) S D := by
  intro p l e s m args below meth c H locs cells slots ls X
  have h := k p l e s m args below meth c H locs cells slots ls X
  simp only [List.map_cons, lI, cv, Int64.ofInt_mul] at h ⊢
  exact lv_lmul X.1.1 X.1.2.1 hd h
theorem T_iand {a b : Int} (hd : decode M.2.1 pc = .ok (.iand, 1)) (k : T g M R nc ns Qf (pc + 1) L (iI (iand a b) :: st) S D) : T g M R nc ns Qf pc L (iI b :: iI a :: st) S D := by
  intro p l e s m args below meth c H locs cells slots ls X
  have h := k p l e s m args below meth c H locs cells slots ls X
  simp only [List.map_cons, iI, cv, iand, i_of] at h ⊢
  exact lv_iand X.1.1 X.1.2.1 hd h
theorem T_ior {a b : Int} (hd : decode M.2.1 pc = .ok (.ior, 1)) (k : T g M R nc ns Qf (pc + 1) L (iI (ior a b) :: st) S D) : T g M R nc ns Qf pc L (iI b :: iI a :: st) S D := by
  intro p l e s m args below meth c H locs cells slots ls X
  have h := k p l e s m args below meth c H locs cells slots ls X
  simp only [List.map_cons, iI, cv, ior, i_of] at h ⊢
  exact lv_ior X.1.1 X.1.2.1 hd h
theorem T_ixor {a b : Int} (hd : decode M.2.1 pc = .ok (.ixor, 1)) (k : T g M R nc ns Qf (pc + 1) L (iI (ixor a b) :: st) S D) : T g M R nc ns Qf pc L (iI b :: iI a :: st) S D := by
  intro p l e s m args below meth c H locs cells slots ls X
  have h := k p l e s m args below meth c H locs cells slots ls X
  simp only [List.map_cons, iI, cv, ixor, i_of] at h ⊢
  exact lv_ixor X.1.1 X.1.2.1 hd h
theorem T_ishl {a b : Int} (hd : decode M.2.1 pc = .ok (.ishl, 1)) (k : T g M R nc ns Qf (pc + 1) L (iI (ishl a b) :: st) S D) : T g M R nc ns Qf pc L (iI b :: iI a :: st) S D := by
  intro p l e s m args below meth c H locs cells slots ls X
  have h := k p l e s m args below meth c H locs cells slots ls X
  simp only [List.map_cons, iI, cv, ishl, i_of] at h ⊢
  exact lv_ishl X.1.1 X.1.2.1 hd h
theorem T_ishr {a b : Int} (hd : decode M.2.1 pc = .ok (.ishr, 1)) (k : T g M R nc ns Qf (pc + 1) L (iI (ishr a b) :: st) S D) : T g M R nc ns Qf pc L (iI b :: iI a :: st) S D := by
  intro p l e s m args below meth c H locs cells slots ls X
  have h := k p l e s m args below meth c H locs cells slots ls X
  simp only [List.map_cons, iI, cv, ishr, i_of] at h ⊢
  exact lv_ishr X.1.1 X.1.2.1 hd h
theorem T_iushr {a b : Int} (hd : decode M.2.1 pc = .ok (.iushr, 1)) (k : T g M R nc ns Qf (pc + 1) L (iI (iushr a b) :: st) S D) : T g M R nc ns Qf pc L (iI b :: iI a :: st) S D := by
  intro p l e s m args below meth c H locs cells slots ls X
  have h := k p l e s m args below meth c H locs cells slots ls X
  simp only [List.map_cons, iI, cv, iushr, i_of] at h ⊢
  exact lv_iushr X.1.1 X.1.2.1 hd rfl h
theorem T_lshl {a b : Int} (hd : decode M.2.1 pc = .ok (.lshl, 1)) (k : T g M R nc ns Qf (pc + 1) L (lI (lshl a b) :: st) S D) : T g M R nc ns Qf pc L (iI b :: lI a :: st) S D := by
  intro p l e s m args below meth c H locs cells slots ls X
  have h := k p l e s m args below meth c H locs cells slots ls X
  simp only [List.map_cons, iI, lI, cv, lshl, l_of] at h ⊢
  exact lv_lshl X.1.1 X.1.2.1 hd rfl h
theorem T_ineg {a : Int} (hd : decode M.2.1 pc = .ok (.ineg, 1)) (k : T g M R nc ns Qf (pc + 1) L (iI (-a) :: st) S D) : T g M R nc ns Qf pc L (iI a :: st) S D := by
  intro p l e s m args below meth c H locs cells slots ls X
  have h := k p l e s m args below meth c H locs cells slots ls X
  simp only [List.map_cons, iI, cv, Int32.ofInt_neg] at h ⊢
  exact lv_ineg X.1.1 X.1.2.1 hd h
theorem T_lneg {a : Int} (hd : decode M.2.1 pc = .ok (.lneg, 1)) (k : T g M R nc ns Qf (pc + 1) L (lI (-a) :: st) S D) : T g M R nc ns Qf pc L (lI a :: st) S D := by
  intro p l e s m args below meth c H locs cells slots ls X
  have h := k p l e s m args below meth c H locs cells slots ls X
  simp only [List.map_cons, lI, cv, Int64.ofInt_neg] at h ⊢
  exact lv_lneg X.1.1 X.1.2.1 hd h
theorem T_i2b {a : Int} (hd : decode M.2.1 pc = .ok (.i2b, 1)) (k : T g M R nc ns Qf (pc + 1) L (iI (i2b a) :: st) S D) : T g M R nc ns Qf pc L (iI a :: st) S D := by
  intro p l e s m args below meth c H locs cells slots ls X
  have h := k p l e s m args below meth c H locs cells slots ls X
  simp only [List.map_cons, iI, cv, i2b, i_of] at h ⊢
  exact lv_i2b X.1.1 X.1.2.1 hd rfl h
theorem T_i2s {a : Int} (hd : decode M.2.1 pc = .ok (.i2s, 1)) (k : T g M R nc ns Qf (pc + 1) L (iI (i2s a) :: st) S D) : T g M R nc ns Qf pc L (iI a :: st) S D := by
  intro p l e s m args below meth c H locs cells slots ls X
  have h := k p l e s m args below meth c H locs cells slots ls X
  simp only [List.map_cons, iI, cv, i2s, i_of] at h ⊢
  exact lv_i2s X.1.1 X.1.2.1 hd rfl h
theorem i2l_of {a : Int} (h : InR a) : (Int32.ofInt a).toInt64 = Int64.ofInt a := by
  rw [← Int64.toInt_inj, Int32.toInt_toInt64, i_ti h, l_ti ⟨by have := h.1; omega, by have := h.2; omega⟩]
theorem T_i2l {a : Int} (hd : decode M.2.1 pc = .ok (.i2l, 1)) (ha : InR a) (k : T g M R nc ns Qf (pc + 1) L (lI a :: st) S D) : T g M R nc ns Qf pc L (iI a :: st) S D := by
  intro p l e s m args below meth c H locs cells slots ls X
  exact lv_i2l X.1.1 X.1.2.1 hd (i2l_of ha) (k p l e s m args below meth c H locs cells slots ls X)
theorem idiv_of {a b : Int} (ha : InR a) (hb : InR b) : Int32.ofInt a / Int32.ofInt b = Int32.ofInt (a.tdiv b) := by
  rw [← Int32.toInt_inj, Int32.toInt_div, i_ti ha, i_ti hb, Int32.toInt_ofInt]
theorem ldiv_of {a b : Int} (ha : In64 a) (hb : In64 b) : Int64.ofInt a / Int64.ofInt b = Int64.ofInt (a.tdiv b) := by
  rw [← Int64.toInt_inj, Int64.toInt_div, l_ti ha, l_ti hb, Int64.toInt_ofInt]
theorem i_ne0 {b : Int} (hb : InR b) (h : b ≠ 0) : ¬ Int32.ofInt b = 0 := fun q => h ((i_eq hb inR_0).mp (q.trans i_0))
theorem l_ne0 {b : Int} (hb : In64 b) (h : b ≠ 0) : ¬ Int64.ofInt b = 0 := fun q => h ((l_eq hb ⟨by decide, by decide⟩).mp (q.trans (by decide)))
theorem T_idiv {a b : Int} (hd : decode M.2.1 pc = .ok (.idiv, 1)) (ha : InR a) (hb : InR b) (h0 : b ≠ 0) (k : T g M R nc ns Qf (pc + 1) L (iI (a.tdiv b) :: st) S D) : T g M R nc ns Qf pc L (iI b :: iI a :: st) S D := by
  intro p l e s m args below meth c H locs cells slots ls X
  have h := k p l e s m args below meth c H locs cells slots ls X
  simp only [List.map_cons, iI, cv, ← idiv_of ha hb] at h ⊢
  exact lv_idiv X.1.1 X.1.2.1 hd (i_ne0 hb h0) h
theorem T_irem {a b : Int} (hd : decode M.2.1 pc = .ok (.irem, 1)) (ha : InR a) (hb : InR b) (h0 : b ≠ 0) (k : T g M R nc ns Qf (pc + 1) L (iI (a.tmod b) :: st) S D) : T g M R nc ns Qf pc L (iI b :: iI a :: st) S D := by
  intro p l e s m args below meth c H locs cells slots ls X
  have h := k p l e s m args below meth c H locs cells slots ls X
  rw [show a.tmod b = a - a.tdiv b * b by rw [Int.tmod_def, Int.mul_comm]] at h
  simp only [List.map_cons, iI, cv, Int32.ofInt_sub, Int32.ofInt_mul, ← idiv_of ha hb] at h ⊢
  exact lv_irem X.1.1 X.1.2.1 hd (i_ne0 hb h0) h
theorem T_ldiv {a b : Int} (hd : decode M.2.1 pc = .ok (.ldiv, 1)) (ha : In64 a) (hb : In64 b) (h0 : b ≠ 0) (k : T g M R nc ns Qf (pc + 1) L (lI (a.tdiv b) :: st) S D) : T g M R nc ns Qf pc L (lI b :: lI a :: st) S D := by
  intro p l e s m args below meth c H locs cells slots ls X
  have h := k p l e s m args below meth c H locs cells slots ls X
  simp only [List.map_cons, lI, cv, ← ldiv_of ha hb] at h ⊢
  exact lv_ldiv X.1.1 X.1.2.1 hd (l_ne0 hb h0) h
theorem T_lrem {a b : Int} (hd : decode M.2.1 pc = .ok (.lrem, 1)) (ha : In64 a) (hb : In64 b) (h0 : b ≠ 0) (k : T g M R nc ns Qf (pc + 1) L (lI (a.tmod b) :: st) S D) : T g M R nc ns Qf pc L (lI b :: lI a :: st) S D := by
  intro p l e s m args below meth c H locs cells slots ls X
  have h := k p l e s m args below meth c H locs cells slots ls X
  rw [show a.tmod b = a - a.tdiv b * b by rw [Int.tmod_def, Int.mul_comm]] at h
  simp only [List.map_cons, lI, cv, Int64.ofInt_sub, Int64.ofInt_mul, ← ldiv_of ha hb] at h ⊢
  exact lv_lrem X.1.1 X.1.2.1 hd (l_ne0 hb h0) h
theorem lc_of {a b : Int} (ha : In64 a) (hb : In64 b) : lg_cmp (Int64.ofInt a) (Int64.ofInt b) = Int32.ofInt (lc a b) := by
  unfold lg_cmp lc
  by_cases h1 : b < a
  · rw [if_pos h1, if_pos ((l_lt hb ha).mpr h1)]; decide
  · rw [if_neg h1, if_neg (fun q => h1 ((l_lt hb ha).mp q))]
    by_cases h2 : a = b
    · rw [if_pos h2, if_pos (by rw [h2])]; decide
    · rw [if_neg h2, if_neg (fun q => h2 ((l_eq ha hb).mp q))]; decide
theorem T_lcmp {a b : Int} (hd : decode M.2.1 pc = .ok (.lcmp, 1)) (ha : In64 a) (hb : In64 b) (k : T g M R nc ns Qf (pc + 1) L (iI (lc a b) :: st) S D) : T g M R nc ns Qf pc L (lI b :: lI a :: st) S D := by
  intro p l e s m args below meth c H locs cells slots ls X
  have h := k p l e s m args below meth c H locs cells slots ls X
  simp only [List.map_cons, iI, lI, cv, ← lc_of ha hb] at h ⊢
  exact W.lcmp X.1.1 X.1.2.1 hd h
theorem T_dup {v : Value} (hd : decode M.2.1 pc = .ok (.dup, 1)) (hv : v.category = 1) (k : T g M R nc ns Qf (pc + 1) L (v :: v :: st) S D) : T g M R nc ns Qf pc L (v :: st) S D := by
  intro p l e s m args below meth c H locs cells slots ls X
  exact lv_dup X.1.1 X.1.2.1 hd (by rw [cv_cat]; exact hv) (k p l e s m args below meth c H locs cells slots ls X)
theorem T_pop {v : Value} (hd : decode M.2.1 pc = .ok (.pop, 1)) (hv : v.category = 1) (k : T g M R nc ns Qf (pc + 1) L (st) S D) : T g M R nc ns Qf pc L (v :: st) S D := by
  intro p l e s m args below meth c H locs cells slots ls X
  exact lv_pop X.1.1 X.1.2.1 hd (by rw [cv_cat]; exact hv) (k p l e s m args below meth c H locs cells slots ls X)
theorem T_dup2 {v u : Value} (hd : decode M.2.1 pc = .ok (.dup2, 1)) (hv : v.category = 1) (hu : u.category = 1) (k : T g M R nc ns Qf (pc + 1) L (v :: u :: v :: u :: st) S D) : T g M R nc ns Qf pc L (v :: u :: st) S D := by
  intro p l e s m args below meth c H locs cells slots ls X
  exact lv_dup2_11 X.1.1 X.1.2.1 hd (by rw [cv_cat]; exact hv) (by rw [cv_cat]; exact hu) (k p l e s m args below meth c H locs cells slots ls X)
theorem T_dup_x1 {v u : Value} (hd : decode M.2.1 pc = .ok (.dup_x1, 1)) (hv : v.category = 1) (hu : u.category = 1) (k : T g M R nc ns Qf (pc + 1) L (v :: u :: v :: st) S D) : T g M R nc ns Qf pc L (v :: u :: st) S D := by
  intro p l e s m args below meth c H locs cells slots ls X
  exact lv_dup_x1 X.1.1 X.1.2.1 hd (by rw [cv_cat]; exact hv) (by rw [cv_cat]; exact hu) (k p l e s m args below meth c H locs cells slots ls X)
theorem T_goto {off : Int} {tgt : Nat} (hd : decode M.2.1 pc = .ok (.goto off, 3)) (ht : (pc : Int) + off = (tgt : Int)) (k : T g M R nc ns Qf tgt L (st) S D) : T g M R nc ns Qf pc L (st) S D := by
  intro p l e s m args below meth c H locs cells slots ls X
  exact lv_goto X.1.1 X.1.2.1 hd ht (k p l e s m args below meth c H locs cells slots ls X)
theorem T_if_eq {a : Int} {off : Int} (tgt : Nat) (hd : decode M.2.1 pc = .ok (.ifCond .eq off, 3)) (ht : (pc : Int) + off = (tgt : Int)) (ha : InR a) (kt : a = 0 → T g M R nc ns Qf tgt L st S D) (kf : ¬ a = 0 → T g M R nc ns Qf (pc + 3) L st S D) : T g M R nc ns Qf pc L (iI a :: st) S D := by
  intro p l e s m args below meth c H locs cells slots ls X
  refine lv_if_eq X.1.1 X.1.2.1 hd ht (fun h => ?_) (fun h => ?_)
  · rw [i_0] at h
    exact kt ((i_eq ha inR_0).mp h) p l e s m args below meth c H locs cells slots ls X
  · rw [i_0] at h
    exact kf (fun q => h ((i_eq ha inR_0).mpr q)) p l e s m args below meth c H locs cells slots ls X
theorem T_icmp_eq {a b : Int} {off : Int} (tgt : Nat) (hd : decode M.2.1 pc = .ok (.if_icmp .eq off, 3)) (ht : (pc : Int) + off = (tgt : Int)) (ha : InR a) (hb : InR b) (kt : a = b → T g M R nc ns Qf tgt L st S D) (kf : ¬ a = b → T g M R nc ns Qf (pc + 3) L st S D) : T g M R nc ns Qf pc L (iI b :: iI a :: st) S D := by
  intro p l e s m args below meth c H locs cells slots ls X
  refine lv_icmp_eq X.1.1 X.1.2.1 hd ht (fun h => ?_) (fun h => ?_)
  · skip
    exact kt ((i_eq ha hb).mp h) p l e s m args below meth c H locs cells slots ls X
  · skip
    exact kf (fun q => h ((i_eq ha hb).mpr q)) p l e s m args below meth c H locs cells slots ls X
theorem T_if_ne {a : Int} {off : Int} (tgt : Nat) (hd : decode M.2.1 pc = .ok (.ifCond .ne off, 3)) (ht : (pc : Int) + off = (tgt : Int)) (ha : InR a) (kt : a ≠ 0 → T g M R nc ns Qf tgt L st S D) (kf : ¬ a ≠ 0 → T g M R nc ns Qf (pc + 3) L st S D) : T g M R nc ns Qf pc L (iI a :: st) S D := by
  intro p l e s m args below meth c H locs cells slots ls X
  refine lv_if_ne X.1.1 X.1.2.1 hd ht (fun h => ?_) (fun h => ?_)
  · rw [i_0] at h
    exact kt (fun q => h ((i_eq ha inR_0).mpr q)) p l e s m args below meth c H locs cells slots ls X
  · rw [i_0] at h
    exact kf (fun q => q ((i_eq ha inR_0).mp h)) p l e s m args below meth c H locs cells slots ls X
theorem T_icmp_ne {a b : Int} {off : Int} (tgt : Nat) (hd : decode M.2.1 pc = .ok (.if_icmp .ne off, 3)) (ht : (pc : Int) + off = (tgt : Int)) (ha : InR a) (hb : InR b) (kt : a ≠ b → T g M R nc ns Qf tgt L st S D) (kf : ¬ a ≠ b → T g M R nc ns Qf (pc + 3) L st S D) : T g M R nc ns Qf pc L (iI b :: iI a :: st) S D := by
  intro p l e s m args below meth c H locs cells slots ls X
  refine lv_icmp_ne X.1.1 X.1.2.1 hd ht (fun h => ?_) (fun h => ?_)
  · skip
    exact kt (fun q => h ((i_eq ha hb).mpr q)) p l e s m args below meth c H locs cells slots ls X
  · skip
    exact kf (fun q => q ((i_eq ha hb).mp h)) p l e s m args below meth c H locs cells slots ls X
theorem T_if_lt {a : Int} {off : Int} (tgt : Nat) (hd : decode M.2.1 pc = .ok (.ifCond .lt off, 3)) (ht : (pc : Int) + off = (tgt : Int)) (ha : InR a) (kt : a < 0 → T g M R nc ns Qf tgt L st S D) (kf : ¬ a < 0 → T g M R nc ns Qf (pc + 3) L st S D) : T g M R nc ns Qf pc L (iI a :: st) S D := by
  intro p l e s m args below meth c H locs cells slots ls X
  refine lv_if_lt X.1.1 X.1.2.1 hd ht (fun h => ?_) (fun h => ?_)
  · rw [i_0] at h
    exact kt ((i_lt ha inR_0).mp h) p l e s m args below meth c H locs cells slots ls X
  · rw [i_0] at h
    exact kf (fun q => h ((i_lt ha inR_0).mpr q)) p l e s m args below meth c H locs cells slots ls X
theorem T_icmp_lt {a b : Int} {off : Int} (tgt : Nat) (hd : decode M.2.1 pc = .ok (.if_icmp .lt off, 3)) (ht : (pc : Int) + off = (tgt : Int)) (ha : InR a) (hb : InR b) (kt : a < b → T g M R nc ns Qf tgt L st S D) (kf : ¬ a < b → T g M R nc ns Qf (pc + 3) L st S D) : T g M R nc ns Qf pc L (iI b :: iI a :: st) S D := by
  intro p l e s m args below meth c H locs cells slots ls X
  refine lv_icmp_lt X.1.1 X.1.2.1 hd ht (fun h => ?_) (fun h => ?_)
  · skip
    exact kt ((i_lt ha hb).mp h) p l e s m args below meth c H locs cells slots ls X
  · skip
    exact kf (fun q => h ((i_lt ha hb).mpr q)) p l e s m args below meth c H locs cells slots ls X
theorem T_if_ge {a : Int} {off : Int} (tgt : Nat) (hd : decode M.2.1 pc = .ok (.ifCond .ge off, 3)) (ht : (pc : Int) + off = (tgt : Int)) (ha : InR a) (kt : 0 ≤ a → T g M R nc ns Qf tgt L st S D) (kf : ¬ 0 ≤ a → T g M R nc ns Qf (pc + 3) L st S D) : T g M R nc ns Qf pc L (iI a :: st) S D := by
  intro p l e s m args below meth c H locs cells slots ls X
  refine lv_if_ge X.1.1 X.1.2.1 hd ht (fun h => ?_) (fun h => ?_)
  · rw [i_0] at h
    exact kt ((i_le inR_0 ha).mp h) p l e s m args below meth c H locs cells slots ls X
  · rw [i_0] at h
    exact kf (fun q => h ((i_le inR_0 ha).mpr q)) p l e s m args below meth c H locs cells slots ls X
theorem T_icmp_ge {a b : Int} {off : Int} (tgt : Nat) (hd : decode M.2.1 pc = .ok (.if_icmp .ge off, 3)) (ht : (pc : Int) + off = (tgt : Int)) (ha : InR a) (hb : InR b) (kt : b ≤ a → T g M R nc ns Qf tgt L st S D) (kf : ¬ b ≤ a → T g M R nc ns Qf (pc + 3) L st S D) : T g M R nc ns Qf pc L (iI b :: iI a :: st) S D := by
  intro p l e s m args below meth c H locs cells slots ls X
  refine lv_icmp_ge X.1.1 X.1.2.1 hd ht (fun h => ?_) (fun h => ?_)
  · skip
    exact kt ((i_le hb ha).mp h) p l e s m args below meth c H locs cells slots ls X
  · skip
    exact kf (fun q => h ((i_le hb ha).mpr q)) p l e s m args below meth c H locs cells slots ls X
theorem T_if_gt {a : Int} {off : Int} (tgt : Nat) (hd : decode M.2.1 pc = .ok (.ifCond .gt off, 3)) (ht : (pc : Int) + off = (tgt : Int)) (ha : InR a) (kt : 0 < a → T g M R nc ns Qf tgt L st S D) (kf : ¬ 0 < a → T g M R nc ns Qf (pc + 3) L st S D) : T g M R nc ns Qf pc L (iI a :: st) S D := by
  intro p l e s m args below meth c H locs cells slots ls X
  refine lv_if_gt X.1.1 X.1.2.1 hd ht (fun h => ?_) (fun h => ?_)
  · rw [i_0] at h
    exact kt ((i_lt inR_0 ha).mp h) p l e s m args below meth c H locs cells slots ls X
  · rw [i_0] at h
    exact kf (fun q => h ((i_lt inR_0 ha).mpr q)) p l e s m args below meth c H locs cells slots ls X
theorem T_icmp_gt {a b : Int} {off : Int} (tgt : Nat) (hd : decode M.2.1 pc = .ok (.if_icmp .gt off, 3)) (ht : (pc : Int) + off = (tgt : Int)) (ha : InR a) (hb : InR b) (kt : b < a → T g M R nc ns Qf tgt L st S D) (kf : ¬ b < a → T g M R nc ns Qf (pc + 3) L st S D) : T g M R nc ns Qf pc L (iI b :: iI a :: st) S D := by
  intro p l e s m args below meth c H locs cells slots ls X
  refine lv_icmp_gt X.1.1 X.1.2.1 hd ht (fun h => ?_) (fun h => ?_)
  · skip
    exact kt ((i_lt hb ha).mp h) p l e s m args below meth c H locs cells slots ls X
  · skip
    exact kf (fun q => h ((i_lt hb ha).mpr q)) p l e s m args below meth c H locs cells slots ls X
theorem T_if_le {a : Int} {off : Int} (tgt : Nat) (hd : decode M.2.1 pc = .ok (.ifCond .le off, 3)) (ht : (pc : Int) + off = (tgt : Int)) (ha : InR a) (kt : a ≤ 0 → T g M R nc ns Qf tgt L st S D) (kf : ¬ a ≤ 0 → T g M R nc ns Qf (pc + 3) L st S D) : T g M R nc ns Qf pc L (iI a :: st) S D := by
  intro p l e s m args below meth c H locs cells slots ls X
  refine lv_if_le X.1.1 X.1.2.1 hd ht (fun h => ?_) (fun h => ?_)
  · rw [i_0] at h
    exact kt ((i_le ha inR_0).mp h) p l e s m args below meth c H locs cells slots ls X
  · rw [i_0] at h
    exact kf (fun q => h ((i_le ha inR_0).mpr q)) p l e s m args below meth c H locs cells slots ls X
theorem T_icmp_le {a b : Int} {off : Int} (tgt : Nat) (hd : decode M.2.1 pc = .ok (.if_icmp .le off, 3)) (ht : (pc : Int) + off = (tgt : Int)) (ha : InR a) (hb : InR b) (kt : a ≤ b → T g M R nc ns Qf tgt L st S D) (kf : ¬ a ≤ b → T g M R nc ns Qf (pc + 3) L st S D) : T g M R nc ns Qf pc L (iI b :: iI a :: st) S D := by
  intro p l e s m args below meth c H locs cells slots ls X
  refine lv_icmp_le X.1.1 X.1.2.1 hd ht (fun h => ?_) (fun h => ?_)
  · skip
    exact kt ((i_le ha hb).mp h) p l e s m args below meth c H locs cells slots ls X
  · skip
    exact kf (fun q => h ((i_le ha hb).mpr q)) p l e s m args below meth c H locs cells slots ls X
theorem T_tsw {a dflt lo hi : Int} {offs : Array Int} {len : Nat} (hd : decode M.2.1 pc = .ok (.tableswitch dflt lo hi offs, len)) (ha : InR a) (ki : ∀ (off : Int), lo ≤ a → a ≤ hi → offs[(a - lo).toNat]? = some off → ∀ tgt : Nat, (pc : Int) + off = (tgt : Int) → T g M R nc ns Qf tgt L st S D)
    (hof : ∀ off ∈ offs.toList, 0 ≤ (pc : Int) + off) (hsz : (offs.size : Int) = hi - lo + 1) (tgtd : Nat) (htd : (pc : Int) + dflt = (tgtd : Int)) (ko : a < lo ∨ hi < a → T g M R nc ns Qf tgtd L st S D) : T g M R nc ns Qf pc L (iI a :: st) S D := by
  intro p l e s m args below meth c H locs cells slots ls X
  by_cases h : a < lo ∨ hi < a
  · exact lv_tableOut X.1.1 X.1.2.1 hd (by rw [i_ti ha]; exact h) htd (ko h p l e s m args below meth c H locs cells slots ls X)
  · have h1 : lo ≤ a := by omega
    have h2 : a ≤ hi := by omega
    have hlt : (a - lo).toNat < offs.size := by omega
    have ho : offs[(a - lo).toNat]? = some offs[(a - lo).toNat] := Array.getElem?_eq_getElem hlt
    have hm : 0 ≤ (pc : Int) + offs[(a - lo).toNat] := hof _ (by simp)
    obtain ⟨tgt, ht⟩ : ∃ tgt : Nat, (pc : Int) + offs[(a - lo).toNat] = (tgt : Int) := ⟨((pc : Int) + offs[(a - lo).toNat]).toNat, by omega⟩
    exact lv_tableIn X.1.1 X.1.2.1 hd (by rw [i_ti ha]; omega) (by rw [i_ti ha]; omega) (by rw [i_ti ha]; exact ho) ht (ki _ h1 h2 ho tgt ht p l e s m args below meth c H locs cells slots ls X)
theorem T_lsw {a dflt : Int} {ps : Array (Int × Int)} {len : Nat} (hd : decode M.2.1 pc = .ok (.lookupswitch dflt ps, len)) (ha : InR a) (hp : (ps.toList.zip (ps.toList.drop 1)).all (fun (a, next) => a.1 < next.1) = true) {off : Int} (ho : Op.lookupswitch.offset ps.toList dflt a = off) (tgt : Nat) (ht : (pc : Int) + off = (tgt : Int)) (k : T g M R nc ns Qf tgt L st S D) : T g M R nc ns Qf pc L (iI a :: st) S D := by
  intro p l e s m args below meth c H locs cells slots ls X
  exact lv_lookup X.1.1 X.1.2.1 hd hp (by rw [i_ti ha]; exact ho) ht (k p l e s m args below meth c H locs cells slots ls X)

def CK (ci : Nat) (C : String) (Tt : u_T) (N : Nat) (ty0 : Nat → FieldType) : Prop := vwCl[ci]? = some (C, Tt, N) ∧ (∀ w ∈ u_ws C Tt N, w ∈ tw) ∧ (∀ k, k < N → parseFieldDescriptor (Tt k).2.2.1 = some (ty0 k)) ∧ (∀ a, a < N → ∀ b, b < N → a ≠ b → (Tt a).2.1 ≠ (Tt b).2.1)
def FL (own : String) (idx ci k : Nat) (ty : FieldType) (fin : Bool) : Prop := ∃ (C : String) (Tt : u_T) (N : Nat) (ty0 : Nat → FieldType), CK ci C Tt N ty0 ∧ k < N ∧ Cond.fieldLink own idx C (Tt k).2.1 (Tt k).2.2.1 ∈ tw ∧ (Tt k).1 = C ∧ ty0 k = ty ∧ (Tt k).2.2.2 = fin
theorem T_getI {idx ci k i : Nat} {ty : FieldType} {fin : Bool} {fs : List (Option Value)} (hd : decode M.2.1 pc = .ok (.getfield idx, 3)) (hF : FL M.1 idx ci k ty fin) (hS : S[i]? = some (0, ci, fs)) (hf : fs[k]? = some none) (kk : T g M R nc ns Qf (pc + 3) L (iI (D i k) :: st) S D) : T g M R nc ns Qf pc L (.ref i :: st) S D := by
  intro p l e s m args below meth c H locs cells slots ls X
  obtain ⟨C, Tt, N, ty0, ⟨hc, hin, hty, hnm⟩, hk, hl, hC, -, -⟩ := hF
  have hg := wsO_get g D S 0 i _ hS
  rw [Nat.zero_add] at hg
  have hv := fv_get g D i fs 0 k none hf
  rw [Nat.zero_add] at hv
  exact va_get X.1.1 X.1.2.1 X.1.2.2.2.2.2.1 hin X.1.2.2.2.2.1 X.1.2.2.2.2.2.2.2.2.1 X.2.1 i hg hc k hk (X.1.2.2.2.2.2.1 _ hl) (fun x hx => by rw [hC] at hx; exact hx) hv hd (kk p l e s m args below meth c H locs cells slots ls X)
theorem T_getR {idx ci k i : Nat} {ty : FieldType} {fin : Bool} {fs : List (Option Value)} {v : Value} (hd : decode M.2.1 pc = .ok (.getfield idx, 3)) (hF : FL M.1 idx ci k ty fin) (hS : S[i]? = some (0, ci, fs)) (hf : fs[k]? = some (some v)) (kk : T g M R nc ns Qf (pc + 3) L (v :: st) S D) : T g M R nc ns Qf pc L (.ref i :: st) S D := by
  intro p l e s m args below meth c H locs cells slots ls X
  obtain ⟨C, Tt, N, ty0, ⟨hc, hin, hty, hnm⟩, hk, hl, hC, -, -⟩ := hF
  have hg := wsO_get g D S 0 i _ hS
  rw [Nat.zero_add] at hg
  have hv := fv_get g D i fs 0 k (some v) hf
  exact va_get X.1.1 X.1.2.1 X.1.2.2.2.2.2.1 hin X.1.2.2.2.2.1 X.1.2.2.2.2.2.2.2.2.1 X.2.1 i hg hc k hk (X.1.2.2.2.2.2.1 _ hl) (fun x hx => by rw [hC] at hx; exact hx) hv hd (kk p l e s m args below meth c H locs cells slots ls X)
theorem T_putG {idx ci k i : Nat} {ty : FieldType} {fs : List (Option Value)} {x : Int} (hd : decode M.2.1 pc = .ok (.putfield idx, 3)) (hF : FL M.1 idx ci k ty false) (hS : S[i]? = some (0, ci, fs)) (hf : fs[k]? = some none) (hn : narrow ty (iI x) = iI x) (hfit : fits ty (iI x) = true) (kk : T g M R nc ns Qf (pc + 3) L st S (st2 D i k x)) : T g M R nc ns Qf pc L (iI x :: .ref i :: st) S D := by
  intro p l e s m args below meth c H locs cells slots ls X
  obtain ⟨C, Tt, N, ty0, ⟨hc, hin, hty, hnm⟩, hk, hl, hC, hT, hfin⟩ := hF
  have hg := wsO_get g D S 0 i _ hS
  rw [Nat.zero_add] at hg
  refine va_put (v := iI x) (ty := ty) X.1.1 X.1.2.1 X.1.2.2.2.2.2.1 hin ty0 hty hnm X.1.2.2.2.2.1 X.1.2.2.2.2.2.2.2.2.1 X.2.1 (wsO_D g D S) X.2.2.1 i hg hc k hk (X.1.2.2.2.2.2.1 _ hl) (fun x hx => by rw [hC] at hx; exact hx) hfin (by rw [hty k hk, hT]) hn hfit (by rw [fv_len]; exact (List.getElem?_eq_some_iff.mp hf).1) hd (fun H1 locs1 hP hD hS1 => ?_)
  have e1 : (wsO g D 0 S).set i (g.1 + i, .inr (ci, (fv g D i 0 fs).set k (iI x))) = wsO g (st2 D i k x) 0 S := by
    have h2 := wsO_upd g (D := D) (D' := st2 D i k x) hS (fun r hr => st2_row hr)
    have h3 := fv_st g D i x fs 0 k hf
    rw [Nat.zero_add] at h3
    rw [← h2]
    show _ = (wsO g D 0 S).set i (g.1 + i, .inr (ci, fv g (st2 D i k x) i 0 fs))
    rw [h3]
  rw [e1] at hP
  exact kk p l e s m args below meth c H1 locs1 cells slots ls ⟨X.1, hP, hS1, X.2.2.2⟩
theorem T_putI {idx ci k i : Nat} {fs : List (Option Value)} {x : Int} (hd : decode M.2.1 pc = .ok (.putfield idx, 3)) (hF : FL M.1 idx ci k .int false) (hS : S[i]? = some (0, ci, fs)) (hf : fs[k]? = some none) (kk : T g M R nc ns Qf (pc + 3) L st S (st2 D i k x)) : T g M R nc ns Qf pc L (iI x :: .ref i :: st) S D :=
  T_putG hd hF hS hf rfl rfl kk
theorem T_putZ {idx ci k i : Nat} {fs : List (Option Value)} {x : Int} (hd : decode M.2.1 pc = .ok (.putfield idx, 3)) (hF : FL M.1 idx ci k .boolean false) (hS : S[i]? = some (0, ci, fs)) (hf : fs[k]? = some none) (hx : x = 0 ∨ x = 1) (kk : T g M R nc ns Qf (pc + 3) L st S (st2 D i k x)) : T g M R nc ns Qf pc L (iI x :: .ref i :: st) S D :=
  T_putG hd hF hS hf (by rcases hx with rfl | rfl <;> decide) (by rcases hx with rfl | rfl <;> decide) kk
theorem T_putR {idx ci k i a : Nat} {ty : FieldType} {fs : List (Option Value)} (hd : decode M.2.1 pc = .ok (.putfield idx, 3)) (hF : FL M.1 idx ci k ty true) (hM : M.2.2.2.2 = true) (hO : ∀ (C : String) (Tt : u_T) (N : Nat), vwCl[ci]? = some (C, Tt, N) → C = M.1) (hS : S[i]? = some (0, ci, fs)) (hf : k < fs.length) (hn : ∀ b, narrow ty (.ref b) = .ref b) (hfit : ∀ b, fits ty (.ref b) = true) (kk : T g M R nc ns Qf (pc + 3) L st (S.set i (0, ci, fs.set k (some (.ref a)))) D) : T g M R nc ns Qf pc L (.ref a :: .ref i :: st) S D := by
  intro p l e s m args below meth c H locs cells slots ls X
  obtain ⟨C, Tt, N, ty0, ⟨hc, hin, hty, hnm⟩, hk, hl, hC, hT, hfin⟩ := hF
  have hg := wsO_get g D S 0 i _ hS
  rw [Nat.zero_add] at hg
  refine va_putF (v := .ref (g.1 + a)) (ty := ty) X.1.1 X.1.2.1 X.1.2.2.2.2.2.1 hin ty0 hty hnm X.1.2.2.2.2.1 X.1.2.2.2.2.2.2.2.2.1 X.2.1 (wsO_D g D S) X.2.2.1 i hg hc k hk (X.1.2.2.2.2.2.1 _ hl) (fun x hx => by rw [hC] at hx; exact hx) hfin (X.1.2.2.2.2.2.2.2.1 hM) (by rw [hC]; exact hO C Tt N hc) (by rw [hty k hk, hT]) (hn _) (hfit _) (by rw [fv_len]; exact hf) hd (fun H1 locs1 hP hD hS1 => ?_)
  have hi := (List.getElem?_eq_some_iff.mp hS).1
  have e1 : (wsO g D 0 S).set i (g.1 + i, .inr (ci, (fv g D i 0 fs).set k (.ref (g.1 + a)))) = wsO g D 0 (S.set i (0, ci, fs.set k (some (.ref a)))) := by
    have h2 := wsO_set g (D := D) (D' := D) S 0 i (0, ci, fs.set k (some (.ref a))) hi (fun r hr => rfl)
    rw [Nat.zero_add] at h2
    rw [← h2]
    show _ = (wsO g D 0 S).set i (g.1 + i, .inr (ci, fv g D i 0 (fs.set k (some (.ref a)))))
    rw [fv_stR g D i _ fs 0 k hf]
    rfl
  rw [e1] at hP
  exact kk p l e s m args below meth c H1 locs1 cells slots ls ⟨X.1, hP, hS1, X.2.2.2.1, X.2.2.2.2.1, X.2.2.2.2.2.1, by rw [List.length_set]; exact X.2.2.2.2.2.2⟩
theorem T_iald {i n : Nat} {j : Int} {fs : List (Option Value)} (hd : decode M.2.1 pc = .ok (.iaload, 1)) (hS : S[i]? = some (1, n, fs)) (hn : n < 2147483648) (h0 : 0 ≤ j) (h1 : j < n) (kk : T g M R nc ns Qf (pc + 1) L (iI (D i j.toNat) :: st) S D) : T g M R nc ns Qf pc L (iI j :: .ref i :: st) S D := by
  intro p l e s m args below meth c H locs cells slots ls X
  have hg := wsO_get g D S 0 i _ hS
  rw [Nat.zero_add] at hg
  refine va_iald X.1.1 X.1.2.1 X.1.2.2.2.2.2.2.2.2.1 X.2.1 i 0 hg rfl (i_in h0 h1 hn) hd ?_
  rw [i_cl h0 (by omega)]
  exact kk p l e s m args below meth c H locs cells slots ls X
theorem T_zald {i n : Nat} {j : Int} {fs : List (Option Value)} (hd : decode M.2.1 pc = .ok (.baload, 1)) (hS : S[i]? = some (2, n, fs)) (hn : n < 2147483648) (h0 : 0 ≤ j) (h1 : j < n) (kk : T g M R nc ns Qf (pc + 1) L (iI (D i j.toNat) :: st) S D) : T g M R nc ns Qf pc L (iI j :: .ref i :: st) S D := by
  intro p l e s m args below meth c H locs cells slots ls X
  have hg := wsO_get g D S 0 i _ hS
  rw [Nat.zero_add] at hg
  refine va_zald X.1.1 X.1.2.1 X.1.2.2.2.2.2.2.2.2.1 X.2.1 i 1 hg rfl (i_in h0 h1 hn) hd ?_
  rw [i_cl h0 (by omega)]
  exact kk p l e s m args below meth c H locs cells slots ls X
theorem ce_st {i j : Nat} {x : Int} : (fun q => Int32.ofInt (st2 D i j x i q)) = upd (fun q => Int32.ofInt (D i q)) j (Int32.ofInt x) := by
  funext q
  by_cases h : q = j
  · subst h; simp [upd, st2]
  · simp [upd, st2, h]
theorem T_iast {i n : Nat} {j x : Int} {fs : List (Option Value)} (hd : decode M.2.1 pc = .ok (.iastore, 1)) (hS : S[i]? = some (1, n, fs)) (hn : n < 2147483648) (h0 : 0 ≤ j) (h1 : j < n) (kk : T g M R nc ns Qf (pc + 1) L st S (st2 D i j.toNat x)) : T g M R nc ns Qf pc L (iI x :: iI j :: .ref i :: st) S D := by
  intro p l e s m args below meth c H locs cells slots ls X
  have hg := wsO_get g D S 0 i _ hS
  rw [Nat.zero_add] at hg
  refine va_iast (x := Int32.ofInt x) X.1.1 X.1.2.1 X.1.2.2.2.2.2.2.2.2.1 X.2.1 (wsO_D g D S) X.2.2.1 i 0 hg rfl (i_in h0 h1 hn) hd (fun H1 locs1 hP hD hS1 => ?_)
  rw [i_cl h0 (by omega), ← ce_st] at hP
  have h2 := wsO_upd g (D := D) (D' := st2 D i j.toNat x) hS (fun r hr => st2_row hr)
  exact kk p l e s m args below meth c H1 locs1 cells slots ls ⟨X.1, (by rw [Rl, ← h2]; exact hP), hS1, X.2.2.2⟩
theorem T_zast {i n : Nat} {j x : Int} {fs : List (Option Value)} (hd : decode M.2.1 pc = .ok (.bastore, 1)) (hS : S[i]? = some (2, n, fs)) (hn : n < 2147483648) (h0 : 0 ≤ j) (h1 : j < n) (hx : x = 0 ∨ x = 1) (kk : T g M R nc ns Qf (pc + 1) L st S (st2 D i j.toNat x)) : T g M R nc ns Qf pc L (iI x :: iI j :: .ref i :: st) S D := by
  intro p l e s m args below meth c H locs cells slots ls X
  have hg := wsO_get g D S 0 i _ hS
  rw [Nat.zero_add] at hg
  refine va_zast (x := Int32.ofInt x) X.1.1 X.1.2.1 X.1.2.2.2.2.2.2.2.2.1 X.2.1 (wsO_D g D S) X.2.2.1 i 1 hg rfl (i_in h0 h1 hn) hd (fun H1 locs1 hP hD hS1 => ?_)
  rw [i_cl h0 (by omega), show vp_nar .boolean (Int32.ofInt x) = Int32.ofInt x by rcases hx with rfl | rfl <;> decide, ← ce_st] at hP
  have h2 := wsO_upd g (D := D) (D' := st2 D i j.toNat x) hS (fun r hr => st2_row hr)
  exact kk p l e s m args below meth c H1 locs1 cells slots ls ⟨X.1, (by rw [Rl, ← h2]; exact hP), hS1, X.2.2.2⟩
theorem T_aald {i n a : Nat} {j : Int} {fs : List (Option Value)} (hd : decode M.2.1 pc = .ok (.aaload, 1)) (hS : S[i]? = some (3, n, fs)) (hn : n < 2147483648) (h0 : 0 ≤ j) (h1 : j < n) (hf : fs[j.toNat]? = some (some (.ref a))) (kk : T g M R nc ns Qf (pc + 1) L (.ref a :: st) S D) : T g M R nc ns Qf pc L (iI j :: .ref i :: st) S D := by
  intro p l e s m args below meth c H locs cells slots ls X
  have hg := wsO_get g D S 0 i _ hS
  rw [Nat.zero_add] at hg
  refine va_aldq X.1.1 X.1.2.1 X.1.2.2.2.2.2.2.2.2.1 X.2.1 i 2 hg rfl (i_in h0 h1 hn) hd ?_
  rw [i_cl h0 (by omega), show rf g fs j.toNat = some (g.1 + a) by unfold rf; rw [hf]]
  exact kk p l e s m args below meth c H locs cells slots ls X
theorem T_alen {i n t : Nat} {fs : List (Option Value)} (hd : decode M.2.1 pc = .ok (.arraylength, 1)) (hS : S[i]? = some (t + 1, n, fs)) (kk : T g M R nc ns Qf (pc + 1) L (iI n :: st) S D) : T g M R nc ns Qf pc L (.ref i :: st) S D := by
  intro p l e s m args below meth c H locs cells slots ls X
  have hg := wsO_get g D S 0 i _ hS
  rw [Nat.zero_add] at hg
  have hk := kk p l e s m args below meth c H locs cells slots ls X
  have e : Int32.ofNat n = Int32.ofInt n := (Int32.ofInt_eq_ofNat (n := n)).symm
  match t, hg with
  | 0, hg => exact va_alen X.1.1 X.1.2.1 X.1.2.2.2.2.2.2.2.2.1 X.2.1 i 0 hg rfl e hd hk
  | 1, hg => exact va_alen X.1.1 X.1.2.1 X.1.2.2.2.2.2.2.2.2.1 X.2.1 i 1 hg rfl e hd hk
  | _ + 2, hg => exact va_alen X.1.1 X.1.2.1 X.1.2.2.2.2.2.2.2.2.1 X.2.1 i 2 hg rfl e hd hk
theorem T_slen {x : UInt32} (hd : decode M.2.1 pc = .ok (.arraylength, 1)) (hM : M.1 = RL) (kk : T g M R nc ns Qf (pc + 1) L (iI g.2.1.2.1 :: st) S D) : T g M R nc ns Qf pc L (.float x :: st) S D := by
  intro p l e s m args below meth c H locs cells slots ls X
  have hk := kk p l e s m args below meth c H locs cells slots ls X
  have e : Int32.ofNat g.2.1.2.1 = Int32.ofInt g.2.1.2.1 := (Int32.ofInt_eq_ofNat (n := g.2.1.2.1)).symm
  obtain ⟨hX, hb⟩ := X.1.2.2.2.2.2.2.2.2.2.2 hM
  refine va_slen X.1.1 X.1.2.1 hX (Nat.lt_of_lt_of_le hb X.1.2.2.2.2.2.2.2.2.2.1) (A := fun q => g.1 ≤ q) (Nat.not_le.mpr hb) X.2.2.1 hd ?_
  rw [e]
  exact hk
theorem T_sld {x : UInt32} {j : Int} (hd : decode M.2.1 pc = .ok (.iaload, 1)) (hM : M.1 = RL) (hn : g.2.1.2.1 < 2147483648) (h0 : 0 ≤ j) (h1 : j < g.2.1.2.1) (kk : T g M R nc ns Qf (pc + 1) L (iI (g.2.1.2.2 j.toNat).toInt :: st) S D) : T g M R nc ns Qf pc L (iI j :: .float x :: st) S D := by
  intro p l e s m args below meth c H locs cells slots ls X
  have hk := kk p l e s m args below meth c H locs cells slots ls X
  obtain ⟨hX, hb⟩ := X.1.2.2.2.2.2.2.2.2.2.2 hM
  refine va_sld X.1.1 X.1.2.1 hX (Nat.lt_of_lt_of_le hb X.1.2.2.2.2.2.2.2.2.2.1) (A := fun q => g.1 ≤ q) (Nat.not_le.mpr hb) X.2.2.1 (i_in h0 h1 hn) hd ?_
  rw [i_cl h0 (by omega)]
  simp only [List.map_cons, iI, cv, i_of] at hk
  exact hk
end
section
variable {g : G0} {M : MI} {R : Room} {nc ns : Nat} {Qf : List Frame → Array Value → State → State → Prop} {pc : Nat} {L : List (Option Value)} {st : List Value} {S : List SC} {D : DD}
theorem T_objInit {idx i : Nat} (hd : decode M.2.1 pc = .ok (.invokespecial idx, 3)) (h1 : Cond.methodLink M.1 idx objectInit ∈ tw) (h2 : Cond.instanceMethod objectInit ∈ tw) (h3 : Cond.code objectInit ⟨#[0xb1]⟩ 1 none ∈ tw) (hst : (st.map fun v => v.category).sum ≤ 8) (hf : 1 ≤ R.frames) (hlo : 20 ≤ R.locals) (kk : T g M R nc ns Qf (pc + 3) L st S D) : T g M R nc ns Qf pc L (.ref i :: st) S D := by
  intro p l e s m args below meth c H locs cells slots ls X
  refine W.objInit (rest := st.map (cv g)) X.1.1 X.1.2.1 X.1.2.2.2.2.1 (X.1.2.2.2.2.2.1 _ h1) (X.1.2.2.2.2.2.1 _ h2) (X.1.2.2.2.2.2.1 _ h3) rfl (by rw [X.1.2.2.1]; exact X.2.2.2.1.1) rfl hd hf ?_ (kk p l e s m args below meth c H locs cells slots ls X)
  show 2 * 0 + _ + 12 ≤ R.locals
  have e1 : ((st.map (cv g)).map fun v => v.category) = st.map fun v => v.category := by rw [List.map_map]; exact List.map_congr_left (fun v _ => cv_cat g v)
  rw [e1]
  omega
theorem W.fits {p : Program} {l : Launch} {e : Env} {R : Room} {s : State} {m : MethodId} {args : Array Value} {below : List Frame} {meth : Method} {c : Code} {H : Heap} {locs : List Loc} {cells slots : Nat} {Q : State → Prop} {f : JFrame} (h : H.size ≤ s.heap.size + cells → W p l e R s m args below meth c H locs cells slots Q f) : W p l e R s m args below meth c H locs cells slots Q f := by
  intro T hT X
  have h1 := X.same.2.2.1
  have h2 : (T.setVm s.vm).heap = H := hT
  rw [h2] at h1
  exact h h1 T hT X
theorem new_q {g : G0} {D : DD} {S : List SC} {q : Nat} {x : va_E} {H1 : Heap} {b : Nat} (hP : va_P g.2.2.1 vwCl (wsO g D 0 S ++ [(q, x)]) H1) (hD : va_D (fun q => g.1 ≤ q) (wsO g D 0 S ++ [(q, x)])) (hz : H1.size ≤ b) (hb : b = g.1 + S.length + 1) (hl : (wsO g D 0 S).length = S.length) : q = g.1 + S.length := by
  have hq : (wsO g D 0 S ++ [(q, x)])[S.length]? = some (q, x) := by rw [List.getElem?_append_right (by omega), hl, Nat.sub_self]; rfl
  have h1 := (hP _ _ hq).lt
  have h2 : g.1 ≤ q := hD.2 _ _ hq
  have h3 : q < H1.size := h1
  rcases Nat.lt_or_ge q (g.1 + S.length) with h | h
  · exfalso
    have hi : q - g.1 < S.length := by omega
    have hg := wsO_get g D S 0 (q - g.1) S[q - g.1] (List.getElem?_eq_getElem hi)
    have hg2 : (wsO g D 0 S ++ [(q, x)])[q - g.1]? = some (g.1 + (0 + (q - g.1)), ce g D (0 + (q - g.1)) S[q - g.1]) := by rw [List.getElem?_append_left (by omega)]; exact hg
    have := hD.1 _ _ _ _ hg2 hq (by show g.1 + (0 + (q - g.1)) = q; omega)
    omega
  · omega
theorem wsO_len (g : G0) (D : DD) : ∀ (S : List SC) (i : Nat), (wsO g D i S).length = S.length
  | [], _ => rfl
  | x :: r, i => by simp only [wsO, List.length_cons, wsO_len g D r (i + 1)]
def nul (N : Nat) (ty0 : Nat → FieldType) : List (Option Value) := (List.range N).map (fun k => match ty0 k with | .int => none | .boolean => none | _ => some .null)
def NW (own : String) (idx ci : Nat) (N : Nat) (fs : List (Option Value)) : Prop := ∃ (C : String) (Tt : u_T) (ty0 : Nat → FieldType), CK ci C Tt N ty0 ∧ Cond.classLink own idx C ∈ tw ∧ Cond.instantiable C N ∈ tw ∧ Cond.initialized C ∈ tw ∧ fs.length = N ∧ ∀ k, k < N → (fs[k]? = some none ∧ defaultValue (ty0 k) = iI 0) ∨ (fs[k]? = some (some .null) ∧ defaultValue (ty0 k) = .null)
theorem T_new {idx ci N : Nat} {fs : List (Option Value)} (hd : decode M.2.1 pc = .ok (.new idx, 3)) (hN : NW M.1 idx ci N fs) (hz : ∀ j, D S.length j = 0) (kk : T g M R nc ns Qf (pc + 3) L (.ref S.length :: st) (S ++ [(0, ci, fs)]) D) : T g M R (nc + 1) (ns + N) Qf pc L st S D := by
  intro p l e s m args below meth c H locs cells slots ls X
  obtain ⟨C, Tt, ty0, ⟨hc, hin, hty, hnm⟩, h1, h2, h3, hlen, hfs⟩ := hN
  refine va_new (fs := fv g D S.length 0 fs) X.1.1 X.1.2.1 X.1.2.2.2.2.2.1 hin ty0 hty X.1.2.2.2.2.1 (X.1.2.2.2.2.2.1 _ h1) (X.1.2.2.2.2.2.1 _ h2) (X.1.2.2.2.2.2.1 _ h3) X.1.2.2.2.2.2.2.2.2.1 X.2.1 (wsO_D g D S) X.2.2.1 (fun q hq => Nat.le_trans X.1.2.2.2.2.2.2.2.2.2.1 hq) hc ?_ (by have := X.2.2.2.2.1; omega) (by have := X.2.2.2.2.2.1; omega) hd (fun q H1 hP hD hS1 => ?_)
  · intro j hj
    show _ = (fv g D S.length 0 fs).getD j .null
    rcases hfs j hj with ⟨a1, a2⟩ | ⟨a1, a2⟩
    · have := fv_get g D S.length fs 0 j none a1
      rw [List.getD_eq_getElem?_getD, this, a2]
      show iI 0 = iI (D S.length (0 + j))
      rw [hz]
    · have := fv_get g D S.length fs 0 j (some .null) a1
      rw [List.getD_eq_getElem?_getD, this, a2]
      rfl
  · refine W.fits (fun hz1 => ?_)
    have hq := new_q hP hD hz1 (by have := X.2.2.2.2.2.2; omega) (wsO_len g D S 0)
    subst hq
    have e1 := wsO_push g D S 0 (0, ci, fs)
    rw [Nat.zero_add] at e1
    have hP2 : Rl g (S ++ [(0, ci, fs)]) D H1 := by rw [Rl, e1]; exact hP
    exact kk p l e s m args below meth c H1 locs (cells + 1) (slots + N) ls ⟨X.1, hP2, hS1, X.2.2.2.1, by have := X.2.2.2.2.1; omega, by have := X.2.2.2.2.2.1; omega, by have := X.2.2.2.2.2.2; simp only [List.length_append, List.length_singleton]; omega⟩
theorem T_newI {n : Nat} (hd : decode M.2.1 pc = .ok (.newarray .int, 2)) (hw : Cond.arrayClass .int ∈ tw) (hn : n ≤ 1000) (hz : ∀ j, D S.length j = 0) (kk : T g M R nc ns Qf (pc + 2) L (.ref S.length :: st) (S ++ [(1, n, [])]) D) : T g M R (nc + 1) (ns + n) Qf pc L (iI n :: st) S D := by
  intro p l e s m args below meth c H locs cells slots ls X
  refine va_newa (atype := .int) (N' := n) (a0 := (n, .inl (fun _ => Int32.ofInt 0))) (ty := .int) X.1.1 X.1.2.1 (X.1.2.2.2.2.2.1 _ hw) rfl X.1.2.2.2.2.2.2.2.2.1 X.2.1 (wsO_D g D S) X.2.2.1 (fun q hq => Nat.le_trans X.1.2.2.2.2.2.2.2.2.2.1 hq) (fun cA => rfl) ?_ ?_ ?_ (by have := X.2.2.2.2.1; omega) (by have := X.2.2.2.2.2.1; omega) hd (fun q cA H1 hK hP hD hS1 => ?_)
  · rw [i_0, i_lt ⟨by omega, by omega⟩ inR_0]; omega
  · rw [i_cl (by omega) (by omega)]; rfl
  · show n * 4 ≤ _; omega
  · refine W.fits (fun hz1 => ?_)
    have hq := new_q hP hD hz1 (by have := X.2.2.2.2.2.2; omega) (wsO_len g D S 0)
    subst hq
    have hc : cA = g.2.2.2.1 := by
      have h1 := (hK.2 3 _ rfl).2
      have h2 := (X.1.2.2.2.2.2.2.2.2.1.2 0 _ rfl).2
      exact Option.some.inj (h1.symm.trans h2)
    subst hc
    have e1 := wsO_push g D S 0 (1, n, [])
    rw [Nat.zero_add] at e1
    have hP2 : Rl g (S ++ [(1, n, [])]) D H1 := by
      rw [Rl, e1]
      show va_P _ _ (wsO g D 0 S ++ [(g.1 + S.length, .inl (g.2.2.2.1, (n, .inl (fun j => Int32.ofInt (D S.length j)))))]) H1
      rw [show (fun j => Int32.ofInt (D S.length j)) = (fun _ => Int32.ofInt 0) from funext fun j => by rw [hz]]
      exact hP
    exact kk p l e s m args below meth c H1 locs (cells + 1) (slots + n) ls ⟨X.1, hP2, hS1, X.2.2.2.1, by have := X.2.2.2.2.1; omega, by have := X.2.2.2.2.2.1; omega, by have := X.2.2.2.2.2.2; simp only [List.length_append, List.length_singleton]; omega⟩
theorem T_newZ {n : Nat} (hd : decode M.2.1 pc = .ok (.newarray .boolean, 2)) (hw : Cond.arrayClass .boolean ∈ tw) (hn : n ≤ 1000) (hz : ∀ j, D S.length j = 0) (kk : T g M R nc ns Qf (pc + 2) L (.ref S.length :: st) (S ++ [(2, n, [])]) D) : T g M R (nc + 1) (ns + n) Qf pc L (iI n :: st) S D := by
  intro p l e s m args below meth c H locs cells slots ls X
  refine va_newa (atype := .boolean) (N' := n) (a0 := (n, .inl (fun _ => Int32.ofInt 0))) (ty := .boolean) X.1.1 X.1.2.1 (X.1.2.2.2.2.2.1 _ hw) rfl X.1.2.2.2.2.2.2.2.2.1 X.2.1 (wsO_D g D S) X.2.2.1 (fun q hq => Nat.le_trans X.1.2.2.2.2.2.2.2.2.2.1 hq) (fun cA => rfl) ?_ ?_ ?_ (by have := X.2.2.2.2.1; omega) (by have := X.2.2.2.2.2.1; omega) hd (fun q cA H1 hK hP hD hS1 => ?_)
  · rw [i_0, i_lt ⟨by omega, by omega⟩ inR_0]; omega
  · rw [i_cl (by omega) (by omega)]; rfl
  · show n * 1 ≤ _; omega
  · refine W.fits (fun hz1 => ?_)
    have hq := new_q hP hD hz1 (by have := X.2.2.2.2.2.2; omega) (wsO_len g D S 0)
    subst hq
    have hc : cA = g.2.2.2.2.1 := by
      have h1 := (hK.2 3 _ rfl).2
      have h2 := (X.1.2.2.2.2.2.2.2.2.1.2 1 _ rfl).2
      exact Option.some.inj (h1.symm.trans h2)
    subst hc
    have e1 := wsO_push g D S 0 (2, n, [])
    rw [Nat.zero_add] at e1
    have hP2 : Rl g (S ++ [(2, n, [])]) D H1 := by
      rw [Rl, e1]
      show va_P _ _ (wsO g D 0 S ++ [(g.1 + S.length, .inl (g.2.2.2.2.1, (n, .inl (fun j => Int32.ofInt (D S.length j)))))]) H1
      rw [show (fun j => Int32.ofInt (D S.length j)) = (fun _ => Int32.ofInt 0) from funext fun j => by rw [hz]]
      exact hP
    exact kk p l e s m args below meth c H1 locs (cells + 1) (slots + n) ls ⟨X.1, hP2, hS1, X.2.2.2.1, by have := X.2.2.2.2.1; omega, by have := X.2.2.2.2.2.1; omega, by have := X.2.2.2.2.2.2; simp only [List.length_append, List.length_singleton]; omega⟩
theorem T_newS {idx n : Nat} (hd : decode M.2.1 pc = .ok (.anewarray idx, 3)) (hw : Cond.classLink M.1 idx RX4 ∈ tw) (hw2 : Cond.arrayOver (.object RX4) ∈ tw) (hn : n ≤ 1000) (kk : T g M R nc ns Qf (pc + 3) L (.ref S.length :: st) (S ++ [(3, n, List.replicate n (some .null))]) D) : T g M R (nc + 1) (ns + n) Qf pc L (iI n :: st) S D := by
  intro p l e s m args below meth c H locs cells slots ls X
  refine va_newq (C := RX4) (N' := n) X.1.1 X.1.2.1 X.1.2.2.2.2.1 (X.1.2.2.2.2.2.1 _ hw) (va_AO.of (X.1.2.2.2.2.2.1 _ hw2)) X.1.2.2.2.2.2.2.2.2.1 X.2.1 (wsO_D g D S) X.2.2.1 (fun q hq => Nat.le_trans X.1.2.2.2.2.2.2.2.2.2.1 hq) ?_ ?_ ?_ (by have := X.2.2.2.2.1; omega) (by have := X.2.2.2.2.2.1; omega) hd (fun q cA H1 hK hP hD hS1 => ?_)
  · rw [i_0, i_lt ⟨by omega, by omega⟩ inR_0]; omega
  · rw [i_cl (by omega) (by omega)]; rfl
  · omega
  · refine W.fits (fun hz1 => ?_)
    have hq := new_q hP hD hz1 (by have := X.2.2.2.2.2.2; omega) (wsO_len g D S 0)
    subst hq
    have hc : cA = g.2.2.2.2.2 := by
      obtain ⟨_, _, -, -, -, h1⟩ := (hK.2 3 _ rfl).2
      obtain ⟨_, _, -, -, -, h2⟩ := (X.1.2.2.2.2.2.2.2.2.1.2 2 _ rfl).2
      exact Option.some.inj (h1.symm.trans h2)
    subst hc
    have e1 := wsO_push g D S 0 (3, n, List.replicate n (some .null))
    rw [Nat.zero_add] at e1
    have hP2 : Rl g (S ++ [(3, n, List.replicate n (some .null))]) D H1 := by
      rw [Rl, e1]
      show va_P _ _ (wsO g D 0 S ++ [(g.1 + S.length, .inl (g.2.2.2.2.2, (n, .inr (.inr (.inr (.inr (rf g (List.replicate n (some .null)))))))))]) H1
      rw [show rf g (List.replicate n (some .null)) = (fun _ => none) from funext fun j => by
        unfold rf
        rw [List.getElem?_replicate]
        split
        · next h => split at h <;> simp at h
        · rfl]
      exact hP
    exact kk p l e s m args below meth c H1 locs (cells + 1) (slots + n) ls ⟨X.1, hP2, hS1, X.2.2.2.1, by have := X.2.2.2.2.1; omega, by have := X.2.2.2.2.2.1; omega, by have := X.2.2.2.2.2.2; simp only [List.length_append, List.length_singleton]; omega⟩
theorem T_aast {i n a : Nat} {j : Int} {fs fa : List (Option Value)} (hd : decode M.2.1 pc = .ok (.aastore, 1)) (hS : S[i]? = some (3, n, fs)) (ha : S[a]? = some (0, 4, fa)) (hn : n < 2147483648) (hl : fs.length = n) (h0 : 0 ≤ j) (h1 : j < n) (kk : T g M R nc ns Qf (pc + 1) L st (S.set i (3, n, fs.set j.toNat (some (.ref a)))) D) : T g M R nc ns Qf pc L (.ref a :: iI j :: .ref i :: st) S D := by
  intro p l e s m args below meth c H locs cells slots ls X
  have hg := wsO_get g D S 0 i _ hS
  rw [Nat.zero_add] at hg
  have ha2 := wsO_get g D S 0 a _ ha
  rw [Nat.zero_add] at ha2
  refine va_astq (r := (RX4, TX4, 4)) (i := Int32.ofInt j) X.1.1 X.1.2.1 X.1.2.2.2.2.2.2.2.2.1 X.2.1 (wsO_D g D S) X.2.2.1 i 2 a 4 hg rfl ha2 rfl (i_in h0 h1 hn) hd (fun H1 locs1 hP hD hS1 => ?_)
  rw [i_cl h0 (by omega)] at hP
  have hi := (List.getElem?_eq_some_iff.mp hS).1
  have e1 : (wsO g D 0 S).set i (g.1 + i, .inl (g.2.2.2.2.2, n, .inr (.inr (.inr (.inr (va_up (rf g fs) j.toNat (some (g.1 + a)))))))) = wsO g D 0 (S.set i (3, n, fs.set j.toNat (some (.ref a)))) := by
    have h2 := wsO_set g (D := D) (D' := D) S 0 i (3, n, fs.set j.toNat (some (.ref a))) hi (fun r hr => rfl)
    rw [Nat.zero_add] at h2
    rw [← h2]
    show _ = (wsO g D 0 S).set i (g.1 + i, .inl (g.2.2.2.2.2, (n, .inr (.inr (.inr (.inr (rf g (fs.set j.toNat (some (.ref a))))))))))
    have e2 : va_up (rf g fs) j.toNat (some (g.1 + a)) = rf g (fs.set j.toNat (some (.ref a))) := by
      funext q
      unfold va_up rf
      by_cases hq : q = j.toNat
      · subst hq
        rw [if_pos rfl, List.getElem?_set_self (by omega)]
      · rw [if_neg hq, List.getElem?_set_ne (Ne.symm hq)]
    rw [e2]
  have hP2 : Rl g (S.set i (3, n, fs.set j.toNat (some (.ref a)))) D H1 := by rw [Rl, ← e1]; exact hP
  exact kk p l e s m args below meth c H1 locs1 cells slots ls ⟨X.1, hP2, hS1, X.2.2.2.1, X.2.2.2.2.1, X.2.2.2.2.2.1, by rw [List.length_set]; exact X.2.2.2.2.2.2⟩
end

def pst (r : Option Value) (st : List Value) : List Value := match r with
  | none => st
  | some v => v :: st
def Pq (g : G0) (R : Room) (P : Option Value → List SC → DD → Prop) : Array Value → State → Outcome → State → Prop := fun _ st oc t => ∃ (r : Option Value) (S' : List SC) (D' : DD), oc = .returned (r.map (cv g)) ∧ P r S' D' ∧ Rl g S' D' t.heap ∧ va_K g.2.2.1 vwCl (tys g) t ∧ va_F (fun q => g.1 ≤ q) st t ∧ st.heap.size + R.cells = g.1 + S'.length
def Qm (g : G0) (R : Room) (P : Option Value → List SC → DD → Prop) : List Frame → Array Value → State → State → Prop := fun below args s => MQ below (Pq g R P) args s R.cells R.slots (fun q => g.1 ≤ q)
def PcT (g : G0) (vs : List Value) (S : List SC) (D : DD) : Array Value → State → Prop := fun a U => a = (vs.map (cv g)).toArray ∧ Rl g S D U.heap ∧ va_K g.2.2.1 vwCl (tys g) U ∧ U.heap.size = g.1 + S.length
theorem PcT_blind (g : G0) (vs : List Value) (S : List SC) (D : DD) : FrameBlind (PcT g vs S D) := fun a U f mk q => ⟨q.1, q.2.1, va_K.moved (u := U) (U := U.calling f mk a) (Vm.Alike.refl U.vm) q.2.2.1, q.2.2.2⟩
def rmd (d a b : Nat) : Room := { frames := d + 1, cells := a, slots := b, locals := 64 * (d + 1) }
def RO (d ml : Nat) (R : Room) : Prop := d + 2 ≤ R.frames ∧ 19 + ml + 64 * (d + 1) ≤ R.locals
theorem RO_r {d a b ml : Nat} (h : ml ≤ 40) : RO d ml (rmd (d + 1) a b) := ⟨Nat.le_refl _, by show 19 + ml + 64 * (d + 1) ≤ 64 * (d + 1 + 1); omega⟩
section
variable {g : G0} {M : MI} {R : Room} {nc ns : Nat} {Qf : List Frame → Array Value → State → State → Prop} {pc : Nat} {L : List (Option Value)} {st : List Value} {S : List SC} {D : DD} {P : Option Value → List SC → DD → Prop}
theorem T_vret (hd : decode M.2.1 pc = .ok (.return_, 1)) (hr : M.2.2.2.1 = none) (h : P none S D) : T g M R 0 0 (Qm g R P) pc L [] S D := by
  intro p l e s m args below meth c H locs cells slots ls X
  refine W.cs (cells' := R.cells) (slots' := R.slots) X.2.2.2.2.1 X.2.2.2.2.2.1 ?_
  exact W.vret X.1.1 X.1.2.1 (by rw [X.1.2.2.2.1]; exact hr) (fun t ht hW => ⟨none, S, D, rfl, h, by rw [ht]; exact X.2.1, va_K.moved hW.alike X.1.2.2.2.2.2.2.2.2.1, X.2.2.1.F ht, by have h1 := X.2.2.2.2.1; have h2 := X.2.2.2.2.2.2; omega⟩) X.2.2.1.2.2 hd (hlocks := X.1.2.2.2.2.2.2.1)
theorem T_iret {a : Int} (hd : decode M.2.1 pc = .ok (.ireturn, 1)) (hr : M.2.2.2.1 = some .int) (h : P (some (iI a)) S D) : T g M R 0 0 (Qm g R P) pc L [iI a] S D := by
  intro p l e s m args below meth c H locs cells slots ls X
  refine W.cs (cells' := R.cells) (slots' := R.slots) X.2.2.2.2.1 X.2.2.2.2.2.1 ?_
  exact W.iret X.1.1 X.1.2.1 (by rw [X.1.2.2.2.1]; exact hr) (fun t ht hW => ⟨some (iI a), S, D, rfl, h, by rw [ht]; exact X.2.1, va_K.moved hW.alike X.1.2.2.2.2.2.2.2.2.1, X.2.2.1.F ht, by have h1 := X.2.2.2.2.1; have h2 := X.2.2.2.2.2.2; omega⟩) X.2.2.1.2.2 hd (hlocks := X.1.2.2.2.2.2.2.1)
theorem T_zret {a : Int} (hd : decode M.2.1 pc = .ok (.ireturn, 1)) (hr : M.2.2.2.1 = some .boolean) (ha : a = 0 ∨ a = 1) (h : P (some (iI a)) S D) : T g M R 0 0 (Qm g R P) pc L [iI a] S D := by
  intro p l e s m args below meth c H locs cells slots ls X
  refine W.cs (cells' := R.cells) (slots' := R.slots) X.2.2.2.2.1 X.2.2.2.2.2.1 ?_
  exact W.zret (ty := .boolean) X.1.1 X.1.2.1 (by rw [X.1.2.2.2.1]; exact hr) (by rcases ha with rfl | rfl <;> decide) (fun t ht hW => ⟨some (iI a), S, D, rfl, h, by rw [ht]; exact X.2.1, va_K.moved hW.alike X.1.2.2.2.2.2.2.2.2.1, X.2.2.1.F ht, by have h1 := X.2.2.2.2.1; have h2 := X.2.2.2.2.2.2; omega⟩) X.2.2.1.2.2 hd (hlocks := X.1.2.2.2.2.2.2.1)
theorem T_lret {a : Int} (hd : decode M.2.1 pc = .ok (.lreturn, 1)) (hr : M.2.2.2.1 = some .long) (h : P (some (lI a)) S D) : T g M R 0 0 (Qm g R P) pc L [lI a] S D := by
  intro p l e s m args below meth c H locs cells slots ls X
  refine W.cs (cells' := R.cells) (slots' := R.slots) X.2.2.2.2.1 X.2.2.2.2.2.1 ?_
  exact W.lret X.1.1 X.1.2.1 (by rw [X.1.2.2.2.1]; exact hr) (fun t ht hW => ⟨some (lI a), S, D, rfl, h, by rw [ht]; exact X.2.1, va_K.moved hW.alike X.1.2.2.2.2.2.2.2.2.1, X.2.2.1.F ht, by have h1 := X.2.2.2.2.1; have h2 := X.2.2.2.2.2.2; omega⟩) X.2.2.1.2.2 hd (hlocks := X.1.2.2.2.2.2.2.1)
theorem T_met {y : MethodName} {l : Launch} {vs : List Value} (hy : plainName y.cls = true) (hM1 : M.1 = y.cls) (hi : M.2.2.2.2 = true → y.name = "<init>") (hla : (la vs).length ≤ M.2.2.1) (hnl : M.1 ≠ RL) (k : T g M R R.cells R.slots (Qm g R P) 0 (le0 M.2.2.1 vs) [] S D) : Met l y (Cond.code y M.2.1 M.2.2.1 M.2.2.2.1 :: tw) R (PcT g vs S D) (Pq g R P) R.cells R.slots (fun q => g.1 ≤ q) := by
  refine Met.ofW (cc := M.2.1) (maxL := M.2.2.1) (ret := M.2.2.2.1) hy rfl ?_
  intro p e s m args below meth c s₁ B hml hv
  obtain ⟨rfl, hP, hK, hsz⟩ := hv
  have hts := atoms_spec (ws := Cond.code y M.2.1 M.2.2.1 M.2.2.2.1 :: tw) B.pre
  rw [lg_entry_eq]
  exact k p l e s m _ below meth c s.heap [] 0 0 _ ⟨⟨B.exec, B.bytes, hml, B.returns, by rw [hM1]; exact findClass_of_methodNamed B.named, fun w hw => hts w (List.mem_cons_of_mem _ hw), B.notSynchronized, fun h => by rw [(name_of_methodNamed B.named B.method).1]; exact hi h, hK, by omega, fun h => absurd h hnl⟩, hP, va_S.rf, lh_entry g vs hla, Nat.zero_add _, Nat.zero_add _, hsz⟩
theorem map_cat (g : G0) (st : List Value) : ((st.map (cv g)).map fun v => v.category) = st.map fun v => v.category := by rw [List.map_map]; exact List.map_congr_left (fun v _ => cv_cat g v)
/-- behind a call -/
theorem W.after {p : Program} {l : Launch} {e : Env} {s : State} {m : MethodId} {args : Array Value} {below : List Frame} {meth : Method} {c : Code} {H : Heap} {locs : List Loc} {cells slots : Nat} {ls : Array Slot} {R' : Room} {st0 : List Value} {a : Array Value} (X : Cx g M R (nc + R'.cells) (ns + R'.slots) L S D p s m args meth c H locs cells slots ls) (hz : H.size = g.1 + S.length)
    (hr : va_Run p l e R s m args below meth c H locs cells slots R'.cells R'.slots (F0 m pc ls st0) (st.map (cv g)) (Pq g R' (fun r S' D' => T g M R nc ns Qf (pc + 3) L (pst r st) S' D') a) (fun q => g.1 ≤ q)) : W p l e R s m args below meth c H locs cells slots (Qf below args s) (F0 m pc ls st0) := by
  intro T hT Y
  obtain ⟨v, st₀, t, T', L', h0, Y', hL', e1, e2, ⟨r, S', D', hv, hp, hP, -, hF, hn⟩, go⟩ := hr T hT Y
  have hv2 : v = r.map (cv g) := by simpa using hv
  subst hv2
  rw [h0] at hn
  have hF2 : va_S (fun q => g.1 ≤ q) s.heap T'.heap (locs ++ L') := by
    refine ⟨?_, fun q h1 h2 => ?_, fun q hq => ?_⟩
    · have := hF.1
      rw [h0] at this
      rw [e1]
      exact Nat.le_trans X.2.2.1.1 this
    · have := hF.2 q (by rw [h0]; exact Nat.lt_of_lt_of_le h1 X.2.2.1.1) h2
      rw [e1, this, h0]
      exact X.2.2.1.2.1 q h1 h2
    · rcases List.mem_append.mp hq with h | h
      · exact X.2.2.1.2.2 q h
      · exact hL' q h
  have hc := X.2.2.2.2.1
  have hs := X.2.2.2.2.2.1
  have hh := X.2.2.2.2.2.2
  obtain ⟨t2, a1, b1⟩ := hp p l e s m args below meth c T'.heap (locs ++ L') (cells + R'.cells) (slots + R'.slots) ls ⟨X.1, by rw [e1]; exact hP, hF2, X.2.2.2.1, by omega, by omega, by omega⟩ T' rfl Y'
  refine ⟨t2, go t2 ?_, b1⟩
  cases r <;> exact a1
theorem sz_of {p : Program} {s : State} {m : MethodId} {args : Array Value} {meth : Method} {c : Code} {H : Heap} {locs : List Loc} {cells slots : Nat} {ls : Array Slot} (X : Cx g M R nc ns L S D p s m args meth c H locs cells slots ls) (h : H.size ≤ s.heap.size + cells) : H.size = g.1 + S.length := by
  have h1 := X.2.2.2.2.2.2
  have h2 : s.heap.size ≤ H.size := X.2.2.1.1
  have h3 : g.1 ≤ s.heap.size := X.1.2.2.2.2.2.2.2.2.2.1
  rcases Nat.eq_zero_or_pos S.length with h4 | h4
  · omega
  · have h5 := wsO_get g D S 0 (S.length - 1) S[S.length - 1] (List.getElem?_eq_getElem (by omega))
    have h6 := (X.2.1 _ _ h5).lt
    have h7 : g.1 + (0 + (S.length - 1)) < H.size := h6
    omega
def LB (y : MethodName) (M' : MI) (n : Nat) : Prop := (Cond.initialized y.cls ∈ tw ∧ Cond.code y M'.2.1 M'.2.2.1 M'.2.2.2.1 ∈ tw) ∧ (y.cls ≠ "java/lang/invoke/MethodHandle" ∧ y.cls ≠ "java/lang/invoke/VarHandle" ∧ (parseMethodDescriptor y.desc).map (fun d => d.parameters.length) = some n) ∧ plainName y.cls = true ∧ M'.1 = y.cls ∧ (M'.2.2.2.2 = true → y.name = "<init>") ∧ M'.1 ≠ RL
def LV (own : String) (idx : Nat) (y : MethodName) (M' : MI) (n ci : Nat) : Prop := LB y M' n ∧ Cond.methodLink own idx y ∈ tw ∧ Cond.instanceMethod y ∈ tw ∧ Cond.selects y.cls y y ∈ tw ∧ ∃ (Tt : u_T) (N : Nat), vwCl[ci]? = some (y.cls, Tt, N)
def LSs (own : String) (idx : Nat) (y : MethodName) (M' : MI) (n : Nat) : Prop := LB y M' n ∧ Cond.methodLink own idx y ∈ tw ∧ Cond.static y ∈ tw
def LSN (own : String) (idx : Nat) (y : MethodName) (M' : MI) (n : Nat) (host : String) : Prop := LB y M' n ∧ Cond.methodLinkNest own idx y host ∈ tw ∧ Cond.static y ∈ tw
def LI (own : String) (idx : Nat) (y : MethodName) (M' : MI) (n : Nat) : Prop := LB y M' n ∧ Cond.methodLink own idx y ∈ tw ∧ Cond.instanceMethod y ∈ tw ∧ y.name = "<init>" ∧ M'.2.2.2.1 = none
def LIN (own : String) (idx : Nat) (y : MethodName) (M' : MI) (n : Nat) (host : String) : Prop := LB y M' n ∧ Cond.methodLinkNest own idx y host ∈ tw ∧ Cond.instanceMethod y ∈ tw ∧ y.name = "<init>" ∧ M'.2.2.2.1 = none
theorem T_cV0 {idx n d b ci : Nat} {y : MethodName} {M' : MI} {R' : Room} {As : List Value} {fs : List (Option Value)} (hd : decode M.2.1 pc = .ok (.invokevirtual idx, 3)) (hL : LV M.1 idx y M' n ci) (hn : As.length = n) (hS : S[b]? = some (0, ci, fs)) (hst : (st.map fun v => v.category).sum ≤ 8) (hRr : R'.frames = d + 1 ∧ R'.locals = 64 * (d + 1)) (hR : RO d M'.2.2.1 R) (hla : (la (.ref b :: As)).length ≤ M'.2.2.1) {st0 : List Value} (hst0 : st0 = As.reverse ++ .ref b :: st) (k : T g M' R' R'.cells R'.slots (Qm g R' (fun r S' D' => T g M R nc ns Qf (pc + 3) L (pst r st) S' D')) 0 (le0 M'.2.2.1 (.ref b :: As)) [] S D) : T g M R (nc + R'.cells) (ns + R'.slots) Qf pc L st0 S D := by
  intro p l e s m args below meth c H locs cells slots ls X
  subst hst0
  refine W.fits (fun hz => ?_)
  have hz := sz_of X hz
  have hts := X.1.2.2.2.2.2.1
  obtain ⟨⟨⟨hw1, hw2⟩, hdd, hy, hM1, hi, hnl⟩, hrest⟩ := hL
  have hMet := T_met (l := l) (y := y) (vs := .ref b :: As) hy hM1 hi hla hnl k
  have hcc : cells + R'.cells ≤ R.cells ∧ slots + R'.slots ≤ R.slots := ⟨by have := X.2.2.2.2.1; omega, by have := X.2.2.2.2.2.1; omega⟩
  have hfr : R'.frames + 1 ≤ R.frames ∧ 8 + (M'.2.2.1 + 11) + R'.locals ≤ R.locals := ⟨by rw [hRr.1]; exact hR.1, by rw [hRr.2]; have := hR.2; omega⟩
  have hgo : GoodIn tw (Cond.code y M'.2.1 M'.2.2.1 M'.2.2.2.1 :: tw) := tw_in hw2
  have hpre : ∀ U : State, U.heap = H → s.WarmedH U.vm → PcT g (.ref b :: As) S D ((.ref b :: As).map (cv g)).toArray U := fun U hU hW => ⟨rfl, by rw [hU]; exact X.2.1, va_K.moved hW.alike X.1.2.2.2.2.2.2.2.2.1, by rw [hU]; exact hz⟩
  have hstk : ((As.reverse ++ .ref b :: st).map (cv g)) = (As.map (cv g)).reverse ++ .ref (g.1 + b) :: st.map (cv g) := by simp [cv]
  have hww : 2 * (F0 m pc ls ((As.reverse ++ .ref b :: st).map (cv g))).monitorRoom + ((st.map (cv g)).map fun v => v.category).sum ≤ 8 := by rw [map_cat]; exact lv_room hst
  refine W.after (st := st) (R' := R') (a := ((.ref b :: As).map (cv g)).toArray) X hz ?_
  obtain ⟨h1, h2, h3, Tt, N, hcl⟩ := hrest
  have hg := wsO_get g D S 0 b _ hS
  rw [Nat.zero_add] at hg
  exact va_runV (As := As.map (cv g)) (b := g.1 + b) (C := y.cls) (Ts := tw) (ret := M'.2.2.2.1) ⟨X.1.1, X.1.2.1, X.1.2.2.1, X.1.2.2.2.2.1, hts⟩ hMet ⟨callB_of n hts hgo rfl rfl rfl (hts _ hw1) (hts _ h1) hdd hfr, hts _ h2, hts _ h3⟩ ⟨PcT_blind g _ S D, va_recv X.1.2.2.2.2.2.2.2.2.1 X.2.1 hcl hg, hpre⟩ rfl (by rw [List.length_map]; exact hn) X.2.2.2.1.1 hstk hww hd hcc
theorem T_cS0 {idx n d  : Nat} {y : MethodName} {M' : MI} {R' : Room} {As : List Value} (hd : decode M.2.1 pc = .ok (.invokestatic idx, 3)) (hL : LSs M.1 idx y M' n) (hn : As.length = n) (hst : (st.map fun v => v.category).sum ≤ 8) (hRr : R'.frames = d + 1 ∧ R'.locals = 64 * (d + 1)) (hR : RO d M'.2.2.1 R) (hla : (la (As)).length ≤ M'.2.2.1) {st0 : List Value} (hst0 : st0 = As.reverse ++ st) (k : T g M' R' R'.cells R'.slots (Qm g R' (fun r S' D' => T g M R nc ns Qf (pc + 3) L (pst r st) S' D')) 0 (le0 M'.2.2.1 (As)) [] S D) : T g M R (nc + R'.cells) (ns + R'.slots) Qf pc L st0 S D := by
  intro p l e s m args below meth c H locs cells slots ls X
  subst hst0
  refine W.fits (fun hz => ?_)
  have hz := sz_of X hz
  have hts := X.1.2.2.2.2.2.1
  obtain ⟨⟨⟨hw1, hw2⟩, hdd, hy, hM1, hi, hnl⟩, hrest⟩ := hL
  have hMet := T_met (l := l) (y := y) (vs := As) hy hM1 hi hla hnl k
  have hcc : cells + R'.cells ≤ R.cells ∧ slots + R'.slots ≤ R.slots := ⟨by have := X.2.2.2.2.1; omega, by have := X.2.2.2.2.2.1; omega⟩
  have hfr : R'.frames + 1 ≤ R.frames ∧ 8 + (M'.2.2.1 + 11) + R'.locals ≤ R.locals := ⟨by rw [hRr.1]; exact hR.1, by rw [hRr.2]; have := hR.2; omega⟩
  have hgo : GoodIn tw (Cond.code y M'.2.1 M'.2.2.1 M'.2.2.2.1 :: tw) := tw_in hw2
  have hpre : ∀ U : State, U.heap = H → s.WarmedH U.vm → PcT g (As) S D ((As).map (cv g)).toArray U := fun U hU hW => ⟨rfl, by rw [hU]; exact X.2.1, va_K.moved hW.alike X.1.2.2.2.2.2.2.2.2.1, by rw [hU]; exact hz⟩
  have hstk : ((As.reverse ++ st).map (cv g)) = (As.map (cv g)).reverse ++ st.map (cv g) := by simp [cv]
  have hww : 2 * (F0 m pc ls ((As.reverse ++ st).map (cv g))).monitorRoom + ((st.map (cv g)).map fun v => v.category).sum ≤ 8 := by rw [map_cat]; exact lv_room hst
  refine W.after (st := st) (R' := R') (a := ((As).map (cv g)).toArray) X hz ?_
  obtain ⟨h1, h2⟩ := hrest
  exact va_runS (As := As.map (cv g)) (Ts := tw) (ret := M'.2.2.2.1) ⟨X.1.1, X.1.2.1, X.1.2.2.1, X.1.2.2.2.2.1, hts⟩ hMet ⟨callB_of n hts hgo rfl rfl rfl (hts _ hw1) (hts _ h1) hdd hfr, hts _ h2⟩ ⟨PcT_blind g _ S D, hpre⟩ rfl (by rw [List.length_map]; exact hn) X.2.2.2.1.1 hstk hww hd hcc
theorem T_cSN0 {idx n d  : Nat} {y : MethodName} {M' : MI} {R' : Room} {As : List Value} {host : String} (hd : decode M.2.1 pc = .ok (.invokestatic idx, 3)) (hL : LSN M.1 idx y M' n host) (hn : As.length = n) (hst : (st.map fun v => v.category).sum ≤ 8) (hRr : R'.frames = d + 1 ∧ R'.locals = 64 * (d + 1)) (hR : RO d M'.2.2.1 R) (hla : (la (As)).length ≤ M'.2.2.1) {st0 : List Value} (hst0 : st0 = As.reverse ++ st) (k : T g M' R' R'.cells R'.slots (Qm g R' (fun r S' D' => T g M R nc ns Qf (pc + 3) L (pst r st) S' D')) 0 (le0 M'.2.2.1 (As)) [] S D) : T g M R (nc + R'.cells) (ns + R'.slots) Qf pc L st0 S D := by
  intro p l e s m args below meth c H locs cells slots ls X
  subst hst0
  refine W.fits (fun hz => ?_)
  have hz := sz_of X hz
  have hts := X.1.2.2.2.2.2.1
  obtain ⟨⟨⟨hw1, hw2⟩, hdd, hy, hM1, hi, hnl⟩, hrest⟩ := hL
  have hMet := T_met (l := l) (y := y) (vs := As) hy hM1 hi hla hnl k
  have hcc : cells + R'.cells ≤ R.cells ∧ slots + R'.slots ≤ R.slots := ⟨by have := X.2.2.2.2.1; omega, by have := X.2.2.2.2.2.1; omega⟩
  have hfr : R'.frames + 1 ≤ R.frames ∧ 8 + (M'.2.2.1 + 11) + R'.locals ≤ R.locals := ⟨by rw [hRr.1]; exact hR.1, by rw [hRr.2]; have := hR.2; omega⟩
  have hgo : GoodIn tw (Cond.code y M'.2.1 M'.2.2.1 M'.2.2.2.1 :: tw) := tw_in hw2
  have hpre : ∀ U : State, U.heap = H → s.WarmedH U.vm → PcT g (As) S D ((As).map (cv g)).toArray U := fun U hU hW => ⟨rfl, by rw [hU]; exact X.2.1, va_K.moved hW.alike X.1.2.2.2.2.2.2.2.2.1, by rw [hU]; exact hz⟩
  have hstk : ((As.reverse ++ st).map (cv g)) = (As.map (cv g)).reverse ++ st.map (cv g) := by simp [cv]
  have hww : 2 * (F0 m pc ls ((As.reverse ++ st).map (cv g))).monitorRoom + ((st.map (cv g)).map fun v => v.category).sum ≤ 8 := by rw [map_cat]; exact lv_room hst
  refine W.after (st := st) (R' := R') (a := ((As).map (cv g)).toArray) X hz ?_
  obtain ⟨h1, h2⟩ := hrest
  exact va_runSN (As := As.map (cv g)) (Ts := tw) (ret := M'.2.2.2.1) ⟨X.1.1, X.1.2.1, X.1.2.2.1, X.1.2.2.2.2.1, hts⟩ hMet ⟨va_cnB n hts hgo rfl rfl rfl (va_Nw.of rfl (hts _ h1)) (hts _ hw1) hdd hfr, hts _ h2, trivial⟩ ⟨PcT_blind g _ S D, hpre⟩ rfl (by rw [List.length_map]; exact hn) X.2.2.2.1.1 hstk hww hd hcc
theorem T_cI0 {idx n d b : Nat} {y : MethodName} {M' : MI} {R' : Room} {As : List Value} (hd : decode M.2.1 pc = .ok (.invokespecial idx, 3)) (hL : LI M.1 idx y M' n) (hn : As.length = n) (hst : (st.map fun v => v.category).sum ≤ 8) (hRr : R'.frames = d + 1 ∧ R'.locals = 64 * (d + 1)) (hR : RO d M'.2.2.1 R) (hla : (la (.ref b :: As)).length ≤ M'.2.2.1) {st0 : List Value} (hst0 : st0 = As.reverse ++ .ref b :: st) (k : T g M' R' R'.cells R'.slots (Qm g R' (fun r S' D' => T g M R nc ns Qf (pc + 3) L (pst r st) S' D')) 0 (le0 M'.2.2.1 (.ref b :: As)) [] S D) : T g M R (nc + R'.cells) (ns + R'.slots) Qf pc L st0 S D := by
  intro p l e s m args below meth c H locs cells slots ls X
  subst hst0
  refine W.fits (fun hz => ?_)
  have hz := sz_of X hz
  have hts := X.1.2.2.2.2.2.1
  obtain ⟨⟨⟨hw1, hw2⟩, hdd, hy, hM1, hi, hnl⟩, hrest⟩ := hL
  have hMet := T_met (l := l) (y := y) (vs := .ref b :: As) hy hM1 hi hla hnl k
  have hcc : cells + R'.cells ≤ R.cells ∧ slots + R'.slots ≤ R.slots := ⟨by have := X.2.2.2.2.1; omega, by have := X.2.2.2.2.2.1; omega⟩
  have hfr : R'.frames + 1 ≤ R.frames ∧ 8 + (M'.2.2.1 + 11) + R'.locals ≤ R.locals := ⟨by rw [hRr.1]; exact hR.1, by rw [hRr.2]; have := hR.2; omega⟩
  have hgo : GoodIn tw (Cond.code y M'.2.1 M'.2.2.1 M'.2.2.2.1 :: tw) := tw_in hw2
  have hpre : ∀ U : State, U.heap = H → s.WarmedH U.vm → PcT g (.ref b :: As) S D ((.ref b :: As).map (cv g)).toArray U := fun U hU hW => ⟨rfl, by rw [hU]; exact X.2.1, va_K.moved hW.alike X.1.2.2.2.2.2.2.2.2.1, by rw [hU]; exact hz⟩
  have hstk : ((As.reverse ++ .ref b :: st).map (cv g)) = (As.map (cv g)).reverse ++ .ref (g.1 + b) :: st.map (cv g) := by simp [cv]
  have hww : 2 * (F0 m pc ls ((As.reverse ++ .ref b :: st).map (cv g))).monitorRoom + ((st.map (cv g)).map fun v => v.category).sum ≤ 8 := by rw [map_cat]; exact lv_room hst
  refine W.after (st := st) (R' := R') (a := ((.ref b :: As).map (cv g)).toArray) X hz ?_
  obtain ⟨h1, h2, h3, h4⟩ := hrest
  rw [h4] at hMet hw2 hgo
  exact va_runI (As := As.map (cv g)) (b := g.1 + b) (Ts := tw) ⟨X.1.1, X.1.2.1, X.1.2.2.1, X.1.2.2.2.2.1, hts⟩ hMet ⟨callB_of n hts hgo rfl rfl rfl (hts _ hw1) (hts _ h1) hdd hfr, h3, hts _ h2⟩ ⟨PcT_blind g _ S D, hpre⟩ rfl (by rw [List.length_map]; exact hn) X.2.2.2.1.1 hstk hww hd hcc
theorem T_cIN0 {idx n d b : Nat} {y : MethodName} {M' : MI} {R' : Room} {As : List Value} {host : String} (hd : decode M.2.1 pc = .ok (.invokespecial idx, 3)) (hL : LIN M.1 idx y M' n host) (hn : As.length = n) (hst : (st.map fun v => v.category).sum ≤ 8) (hRr : R'.frames = d + 1 ∧ R'.locals = 64 * (d + 1)) (hR : RO d M'.2.2.1 R) (hla : (la (.ref b :: As)).length ≤ M'.2.2.1) {st0 : List Value} (hst0 : st0 = As.reverse ++ .ref b :: st) (k : T g M' R' R'.cells R'.slots (Qm g R' (fun r S' D' => T g M R nc ns Qf (pc + 3) L (pst r st) S' D')) 0 (le0 M'.2.2.1 (.ref b :: As)) [] S D) : T g M R (nc + R'.cells) (ns + R'.slots) Qf pc L st0 S D := by
  intro p l e s m args below meth c H locs cells slots ls X
  subst hst0
  refine W.fits (fun hz => ?_)
  have hz := sz_of X hz
  have hts := X.1.2.2.2.2.2.1
  obtain ⟨⟨⟨hw1, hw2⟩, hdd, hy, hM1, hi, hnl⟩, hrest⟩ := hL
  have hMet := T_met (l := l) (y := y) (vs := .ref b :: As) hy hM1 hi hla hnl k
  have hcc : cells + R'.cells ≤ R.cells ∧ slots + R'.slots ≤ R.slots := ⟨by have := X.2.2.2.2.1; omega, by have := X.2.2.2.2.2.1; omega⟩
  have hfr : R'.frames + 1 ≤ R.frames ∧ 8 + (M'.2.2.1 + 11) + R'.locals ≤ R.locals := ⟨by rw [hRr.1]; exact hR.1, by rw [hRr.2]; have := hR.2; omega⟩
  have hgo : GoodIn tw (Cond.code y M'.2.1 M'.2.2.1 M'.2.2.2.1 :: tw) := tw_in hw2
  have hpre : ∀ U : State, U.heap = H → s.WarmedH U.vm → PcT g (.ref b :: As) S D ((.ref b :: As).map (cv g)).toArray U := fun U hU hW => ⟨rfl, by rw [hU]; exact X.2.1, va_K.moved hW.alike X.1.2.2.2.2.2.2.2.2.1, by rw [hU]; exact hz⟩
  have hstk : ((As.reverse ++ .ref b :: st).map (cv g)) = (As.map (cv g)).reverse ++ .ref (g.1 + b) :: st.map (cv g) := by simp [cv]
  have hww : 2 * (F0 m pc ls ((As.reverse ++ .ref b :: st).map (cv g))).monitorRoom + ((st.map (cv g)).map fun v => v.category).sum ≤ 8 := by rw [map_cat]; exact lv_room hst
  refine W.after (st := st) (R' := R') (a := ((.ref b :: As).map (cv g)).toArray) X hz ?_
  obtain ⟨h1, h2, h3, h4⟩ := hrest
  rw [h4] at hMet hw2 hgo
  exact va_runIN (As := As.map (cv g)) (b := g.1 + b) (Ts := tw) ⟨X.1.1, X.1.2.1, X.1.2.2.1, X.1.2.2.2.2.1, hts⟩ hMet ⟨va_cnB n hts hgo rfl rfl rfl (va_Nw.of rfl (hts _ h1)) (hts _ hw1) hdd hfr, h3, hts _ h2⟩ ⟨PcT_blind g _ S D, hpre⟩ rfl (by rw [List.length_map]; exact hn) X.2.2.2.1.1 hstk hww hd hcc
theorem T_cV {idx n d b ci : Nat} {y : MethodName} {M' : MI} {As : List Value} {fs : List (Option Value)} (hd : decode M.2.1 pc = .ok (.invokevirtual idx, 3)) (hL : LV M.1 idx y M' n ci) (hn : As.length = n) (hS : S[b]? = some (0, ci, fs)) (hst : (st.map fun v => v.category).sum ≤ 8) (hR : RO d M'.2.2.1 R) (hla : (la (.ref b :: As)).length ≤ M'.2.2.1) {st0 : List Value} (hst0 : st0 = As.reverse ++ .ref b :: st) (k : T g M' (rmd d 0 0) 0 0 (Qm g (rmd d 0 0) (fun r S' D' => T g M R nc ns Qf (pc + 3) L (pst r st) S' D')) 0 (le0 M'.2.2.1 (.ref b :: As)) [] S D) : T g M R nc ns Qf pc L st0 S D :=
  T_cV0 (R' := rmd d 0 0) (nc := nc) (ns := ns) hd hL hn hS hst ⟨rfl, rfl⟩ hR hla hst0 k
theorem T_cS {idx n d  : Nat} {y : MethodName} {M' : MI} {As : List Value} (hd : decode M.2.1 pc = .ok (.invokestatic idx, 3)) (hL : LSs M.1 idx y M' n) (hn : As.length = n) (hst : (st.map fun v => v.category).sum ≤ 8) (hR : RO d M'.2.2.1 R) (hla : (la (As)).length ≤ M'.2.2.1) {st0 : List Value} (hst0 : st0 = As.reverse ++ st) (k : T g M' (rmd d 0 0) 0 0 (Qm g (rmd d 0 0) (fun r S' D' => T g M R nc ns Qf (pc + 3) L (pst r st) S' D')) 0 (le0 M'.2.2.1 (As)) [] S D) : T g M R nc ns Qf pc L st0 S D :=
  T_cS0 (R' := rmd d 0 0) (nc := nc) (ns := ns) hd hL hn hst ⟨rfl, rfl⟩ hR hla hst0 k
theorem T_cSN {idx n d  : Nat} {y : MethodName} {M' : MI} {As : List Value} {host : String} (hd : decode M.2.1 pc = .ok (.invokestatic idx, 3)) (hL : LSN M.1 idx y M' n host) (hn : As.length = n) (hst : (st.map fun v => v.category).sum ≤ 8) (hR : RO d M'.2.2.1 R) (hla : (la (As)).length ≤ M'.2.2.1) {st0 : List Value} (hst0 : st0 = As.reverse ++ st) (k : T g M' (rmd d 0 0) 0 0 (Qm g (rmd d 0 0) (fun r S' D' => T g M R nc ns Qf (pc + 3) L (pst r st) S' D')) 0 (le0 M'.2.2.1 (As)) [] S D) : T g M R nc ns Qf pc L st0 S D :=
  T_cSN0 (R' := rmd d 0 0) (nc := nc) (ns := ns) hd hL hn hst ⟨rfl, rfl⟩ hR hla hst0 k
end

section
variable {g : G0} {M : MI} {R : Room} {nc ns : Nat} {Qf : List Frame → Array Value → State → State → Prop} {pc : Nat} {L : List (Option Value)} {st : List Value} {S : List SC} {D : DD}
def LM (own : String) (idx : Nat) (y : MethodName) (bytes : ByteArray) (ml : Nat) : Prop := Cond.methodLink own idx y ∈ tw ∧ Cond.static y ∈ tw ∧ Cond.initialized "java/lang/Math" ∈ tw ∧ Cond.code y bytes ml (some .int) ∈ tw
theorem T_abs {idx : Nat} {a : Int} (hd : decode M.2.1 pc = .ok (.invokestatic idx, 3)) (hL : LM M.1 idx Lib.Math.abs.name Lib.Math.abs.code 1) (ha : InR a) (hst : (st.map fun v => v.category).sum ≤ 8) (hR : 1 ≤ R.frames ∧ 40 ≤ R.locals) (k : T g M R nc ns Qf (pc + 3) L (iI (if 0 ≤ a then a else -a) :: st) S D) : T g M R nc ns Qf pc L (iI a :: st) S D := by
  intro p l e s m args below meth c H locs cells slots ls X
  have h := k p l e s m args below meth c H locs cells slots ls X
  have hts := X.1.2.2.2.2.2.1
  refine va_mabs X.1.1 X.1.2.1 (by rw [X.1.2.2.1]; exact X.2.2.2.1.1.symm) X.1.2.2.2.2.1 (hts _ hL.1) (hts _ hL.2.1) (hts _ hL.2.2.1) (hts _ hL.2.2.2) hR.1 (by rw [map_cat]; have := hR.2; omega) (by have := X.2.2.2.2.1; omega) (by have := X.2.2.2.2.2.1; omega) hd ?_
  have e1 : (if 0 ≤ Int32.ofInt a then Int32.ofInt a else 0 - Int32.ofInt a) = Int32.ofInt (if 0 ≤ a then a else -a) := by
    by_cases h0 : 0 ≤ a
    · rw [if_pos h0, if_pos (by rw [i_0]; exact (i_le inR_0 ha).mpr h0)]
    · rw [if_neg h0, if_neg (by rw [i_0]; exact fun q => h0 ((i_le inR_0 ha).mp q)), i_0, ← Int32.ofInt_sub, Int.zero_sub]
  rw [e1]
  exact h
theorem T_max {idx : Nat} {a b : Int} (hd : decode M.2.1 pc = .ok (.invokestatic idx, 3)) (hL : LM M.1 idx Lib.Math.max.name Lib.Math.max.code 2) (ha : InR a) (hb : InR b) (hst : (st.map fun v => v.category).sum ≤ 8) (hR : 1 ≤ R.frames ∧ 40 ≤ R.locals) (k : T g M R nc ns Qf (pc + 3) L (iI (if a < b then b else a) :: st) S D) : T g M R nc ns Qf pc L (iI b :: iI a :: st) S D := by
  intro p l e s m args below meth c H locs cells slots ls X
  have h := k p l e s m args below meth c H locs cells slots ls X
  have hts := X.1.2.2.2.2.2.1
  refine va_mmax X.1.1 X.1.2.1 (by rw [X.1.2.2.1]; exact X.2.2.2.1.1.symm) X.1.2.2.2.2.1 (hts _ hL.1) (hts _ hL.2.1) (hts _ hL.2.2.1) (hts _ hL.2.2.2) hR.1 (by rw [map_cat]; have := hR.2; omega) (by have := X.2.2.2.2.1; omega) (by have := X.2.2.2.2.2.1; omega) hd ?_
  have e1 : (if Int32.ofInt a < Int32.ofInt b then Int32.ofInt b else Int32.ofInt a) = Int32.ofInt (if a < b then b else a) := by
    by_cases h0 : a < b
    · rw [if_pos h0, if_pos ((i_lt ha hb).mpr h0)]
    · rw [if_neg h0, if_neg (fun q => h0 ((i_lt ha hb).mp q))]
  rw [e1]
  exact h
theorem T_min {idx : Nat} {a b : Int} (hd : decode M.2.1 pc = .ok (.invokestatic idx, 3)) (hL : LM M.1 idx Lib.Math.min.name Lib.Math.min.code 2) (ha : InR a) (hb : InR b) (hst : (st.map fun v => v.category).sum ≤ 8) (hR : 1 ≤ R.frames ∧ 40 ≤ R.locals) (k : T g M R nc ns Qf (pc + 3) L (iI (if b < a then b else a) :: st) S D) : T g M R nc ns Qf pc L (iI b :: iI a :: st) S D := by
  intro p l e s m args below meth c H locs cells slots ls X
  have h := k p l e s m args below meth c H locs cells slots ls X
  have hts := X.1.2.2.2.2.2.1
  refine va_mmin X.1.1 X.1.2.1 (by rw [X.1.2.2.1]; exact X.2.2.2.1.1.symm) X.1.2.2.2.2.1 (hts _ hL.1) (hts _ hL.2.1) (hts _ hL.2.2.1) (hts _ hL.2.2.2) hR.1 (by rw [map_cat]; have := hR.2; omega) (by have := X.2.2.2.2.1; omega) (by have := X.2.2.2.2.2.1; omega) hd ?_
  have e1 : (if Int32.ofInt b < Int32.ofInt a then Int32.ofInt b else Int32.ofInt a) = Int32.ofInt (if b < a then b else a) := by
    by_cases h0 : b < a
    · rw [if_pos h0, if_pos ((i_lt hb ha).mpr h0)]
    · rw [if_neg h0, if_neg (fun q => h0 ((i_lt hb ha).mp q))]
  rw [e1]
  exact h
def cpD (D : DD) (i0 sp i1 dp n : Nat) : DD := fun a b => if a = i1 ∧ dp ≤ b ∧ b < dp + n then D i0 (sp + (b - dp)) else D a b
theorem cpD_row {D : DD} {i0 sp i1 dp n a : Nat} (h : a ≠ i1) : cpD D i0 sp i1 dp n a = D a := by funext b; simp [cpD, h]
theorem T_copy {idx i0 i1 n0 n1 : Nat} {sp dp n : Int} {f0 f1 : List (Option Value)} (hd : decode M.2.1 pc = .ok (.invokestatic idx, 3)) (hL : Cond.methodLink M.1 idx arraycopyName ∈ tw ∧ Cond.native arraycopyName ∈ tw ∧ Cond.static arraycopyName ∈ tw ∧ Cond.initialized "java/lang/System" ∈ tw) (hS0 : S[i0]? = some (1, n0, f0)) (hS1 : S[i1]? = some (1, n1, f1)) (hn0 : n0 ≤ 1000) (hn1 : n1 ≤ 1000) (h1 : 0 ≤ sp) (h2 : 0 ≤ dp) (h3 : 0 ≤ n) (h4 : sp + n ≤ n0) (h5 : dp + n ≤ n1) (hst : (st.map fun v => v.category).sum ≤ 8) (hR : 1 ≤ R.frames ∧ 40 ≤ R.locals)
    (k : T g M R nc ns Qf (pc + 3) L st S (cpD D i0 sp.toNat i1 dp.toNat n.toNat)) : T g M R nc ns Qf pc L (iI n :: iI dp :: .ref i1 :: iI sp :: .ref i0 :: st) S D := by
  intro p l e s m args below meth c H locs cells slots ls X
  have hts := X.1.2.2.2.2.2.1
  have hg0 := wsO_get g D S 0 i0 _ hS0
  have hg1 := wsO_get g D S 0 i1 _ hS1
  rw [Nat.zero_add] at hg0 hg1
  have nl : ∀ z : Int, 0 ≤ z → z < 2147483648 → ¬ Int32.ofInt z < 0 := fun z hz hz2 => by rw [i_0, i_lt ⟨by omega, hz2⟩ inR_0]; omega
  refine va_copyi (ty := .int) X.1.1 X.1.2.1 (by rw [X.1.2.2.1]; exact X.2.2.2.1.1.symm) X.1.2.2.2.2.1 (hts _ hL.1) (hts _ hL.2.1) (hts _ hL.2.2.1) (hts _ hL.2.2.2) X.1.2.2.2.2.2.2.2.2.1 X.2.1 (wsO_D g D S) X.2.2.1 i0 i1 0 0 hg0 hg1 rfl rfl rfl (nl sp h1 (by omega)) (nl dp h2 (by omega)) (nl n h3 (by omega)) ?_ ?_ (fun i _ => rfl) hR.1 ?_ hd (fun H1 locs1 hP hD hS2 => ?_)
  · rw [i_cl h1 (by omega), i_cl h3 (by omega)]; show sp.toNat + n.toNat ≤ n0; omega
  · rw [i_cl h2 (by omega), i_cl h3 (by omega)]; show dp.toNat + n.toNat ≤ n1; omega
  · rw [map_cat, show nativeFrameWords "java/lang/System" "arraycopy" 5 = 7 by decide]; have := hR.2; omega
  · rw [i_cl h1 (by omega), i_cl h2 (by omega), i_cl h3 (by omega)] at hP
    have h6 := wsO_upd g (D := D) (D' := cpD D i0 sp.toNat i1 dp.toNat n.toNat) hS1 (fun r hr => cpD_row hr)
    refine k p l e s m args below meth c H1 locs1 cells slots ls ⟨X.1, ?_, hS2, X.2.2.2⟩
    rw [Rl, ← h6]
    show va_P _ _ ((wsO g D 0 S).set i1 (g.1 + i1, .inl (g.2.2.2.1, (n1, .inl (fun j => Int32.ofInt (cpD D i0 sp.toNat i1 dp.toNat n.toNat i1 j)))))) H1
    rw [show (fun j => Int32.ofInt (cpD D i0 sp.toNat i1 dp.toNat n.toNat i1 j)) = va_cpy (fun j => Int32.ofInt (D i0 j)) (fun j => Int32.ofInt (D i1 j)) sp.toNat dp.toNat n.toNat from funext fun j => by
      unfold cpD va_cpy
      by_cases hj : dp.toNat ≤ j ∧ j < dp.toNat + n.toNat
      · rw [if_pos hj, if_pos ⟨rfl, hj.1, hj.2⟩]
      · rw [if_neg hj, if_neg (fun q => hj q.2)]]
    exact hP
end
end
