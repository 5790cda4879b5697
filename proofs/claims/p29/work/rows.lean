section
-- ===== PART A: goes FIRST, ahead of the names: the tables' words, and 'selects' of the private methods out of them =====
/-- a private method of a class that the tables say can be made, by its rows of tables_1 -/
def lw_okq (q : MethodName × Nat) : Prop := (q.1.cls ≠ "java/lang/invoke/MethodHandle" ∧ q.1.cls ≠ "java/lang/invoke/VarHandle") ∧ Cond.instantiable q.1.cls q.2 ∈ tables_1 ∧ Cond.privateMethod q.1 ∈ tables_1 ∧ Cond.instanceMethod q.1 ∈ tables_1
theorem lw_p0 : lw_okq (⟨"java/lang/Throwable", "fillInStackTrace", "(I)Ljava/lang/Throwable;"⟩, 6) := ⟨⟨by decide +kernel, by decide +kernel⟩, List.mem_of_getElem? (i := 372) (by decide +kernel), List.mem_of_getElem? (i := 370) (by decide +kernel), List.mem_of_getElem? (i := 371) (by decide +kernel)⟩
theorem lw_p1 : lw_okq (⟨"LowAir$Ground", "addPad", "(I)I"⟩, 9) := ⟨⟨by decide +kernel, by decide +kernel⟩, List.mem_of_getElem? (i := 28) (by decide +kernel), List.mem_of_getElem? (i := 448) (by decide +kernel), List.mem_of_getElem? (i := 449) (by decide +kernel)⟩
theorem lw_p2 : lw_okq (⟨"LowAir$Ground", "addZone", "(IIII)I"⟩, 9) := ⟨⟨by decide +kernel, by decide +kernel⟩, List.mem_of_getElem? (i := 28) (by decide +kernel), List.mem_of_getElem? (i := 456) (by decide +kernel), List.mem_of_getElem? (i := 457) (by decide +kernel)⟩
theorem lw_p3 : lw_okq (⟨"LowAir", "checkCraft", "(I)V"⟩, 6) := ⟨⟨by decide +kernel, by decide +kernel⟩, List.mem_of_getElem? (i := 20) (by decide +kernel), List.mem_of_getElem? (i := 472) (by decide +kernel), List.mem_of_getElem? (i := 473) (by decide +kernel)⟩
theorem lw_p4 : lw_okq (⟨"LowAir$Sky", "isCraft", "(I)Z"⟩, 9) := ⟨⟨by decide +kernel, by decide +kernel⟩, List.mem_of_getElem? (i := 103) (by decide +kernel), List.mem_of_getElem? (i := 476) (by decide +kernel), List.mem_of_getElem? (i := 477) (by decide +kernel)⟩
theorem lw_p5 : lw_okq (⟨"LowAir", "checkFlight", "(I)V"⟩, 6) := ⟨⟨by decide +kernel, by decide +kernel⟩, List.mem_of_getElem? (i := 20) (by decide +kernel), List.mem_of_getElem? (i := 488) (by decide +kernel), List.mem_of_getElem? (i := 489) (by decide +kernel)⟩
theorem lw_p6 : lw_okq (⟨"LowAir$Judge", "plannedNoise", "(II)I"⟩, 3) := ⟨⟨by decide +kernel, by decide +kernel⟩, List.mem_of_getElem? (i := 270) (by decide +kernel), List.mem_of_getElem? (i := 496) (by decide +kernel), List.mem_of_getElem? (i := 497) (by decide +kernel)⟩
theorem lw_p7 : lw_okq (⟨"LowAir$Judge", "planDay", "(I)V"⟩, 3) := ⟨⟨by decide +kernel, by decide +kernel⟩, List.mem_of_getElem? (i := 270) (by decide +kernel), List.mem_of_getElem? (i := 500) (by decide +kernel), List.mem_of_getElem? (i := 501) (by decide +kernel)⟩
theorem lw_p8 : lw_okq (⟨"LowAir$Flight", "isPlannedOn", "(I)Z"⟩, 4) := ⟨⟨by decide +kernel, by decide +kernel⟩, List.mem_of_getElem? (i := 181) (by decide +kernel), List.mem_of_getElem? (i := 505) (by decide +kernel), List.mem_of_getElem? (i := 506) (by decide +kernel)⟩
theorem lw_p9 : lw_okq (⟨"LowAir$Flight", "isAhead", "()Z"⟩, 4) := ⟨⟨by decide +kernel, by decide +kernel⟩, List.mem_of_getElem? (i := 181) (by decide +kernel), List.mem_of_getElem? (i := 509) (by decide +kernel), List.mem_of_getElem? (i := 510) (by decide +kernel)⟩
theorem lw_p10 : lw_okq (⟨"LowAir$Judge", "plan", "(LLowAir$Craft;LLowAir$Route;)V"⟩, 3) := ⟨⟨by decide +kernel, by decide +kernel⟩, List.mem_of_getElem? (i := 270) (by decide +kernel), List.mem_of_getElem? (i := 514) (by decide +kernel), List.mem_of_getElem? (i := 515) (by decide +kernel)⟩
theorem lw_p11 : lw_okq (⟨"LowAir$Route", "at", "(I)I"⟩, 2) := ⟨⟨by decide +kernel, by decide +kernel⟩, List.mem_of_getElem? (i := 187) (by decide +kernel), List.mem_of_getElem? (i := 518) (by decide +kernel), List.mem_of_getElem? (i := 519) (by decide +kernel)⟩
theorem lw_p12 : lw_okq (⟨"LowAir$Sky", "flyingIn", "(I)I"⟩, 9) := ⟨⟨by decide +kernel, by decide +kernel⟩, List.mem_of_getElem? (i := 103) (by decide +kernel), List.mem_of_getElem? (i := 523) (by decide +kernel), List.mem_of_getElem? (i := 524) (by decide +kernel)⟩
theorem lw_p13 : lw_okq (⟨"LowAir$Route", "endFrom", "(I)I"⟩, 2) := ⟨⟨by decide +kernel, by decide +kernel⟩, List.mem_of_getElem? (i := 187) (by decide +kernel), List.mem_of_getElem? (i := 537) (by decide +kernel), List.mem_of_getElem? (i := 538) (by decide +kernel)⟩
theorem lw_p14 : lw_okq (⟨"LowAir$Sky", "flightsIn", "(I)I"⟩, 9) := ⟨⟨by decide +kernel, by decide +kernel⟩, List.mem_of_getElem? (i := 103) (by decide +kernel), List.mem_of_getElem? (i := 546) (by decide +kernel), List.mem_of_getElem? (i := 547) (by decide +kernel)⟩
theorem lw_p15 : lw_okq (⟨"LowAir$Sky", "allBreaches", "()I"⟩, 9) := ⟨⟨by decide +kernel, by decide +kernel⟩, List.mem_of_getElem? (i := 103) (by decide +kernel), List.mem_of_getElem? (i := 550) (by decide +kernel), List.mem_of_getElem? (i := 551) (by decide +kernel)⟩
def lw_privs_1 : List (MethodName × Nat) := [(⟨"java/lang/Throwable", "fillInStackTrace", "(I)Ljava/lang/Throwable;"⟩, 6), (⟨"LowAir$Ground", "addPad", "(I)I"⟩, 9), (⟨"LowAir$Ground", "addZone", "(IIII)I"⟩, 9), (⟨"LowAir", "checkCraft", "(I)V"⟩, 6), (⟨"LowAir$Sky", "isCraft", "(I)Z"⟩, 9), (⟨"LowAir", "checkFlight", "(I)V"⟩, 6), (⟨"LowAir$Judge", "plannedNoise", "(II)I"⟩, 3), (⟨"LowAir$Judge", "planDay", "(I)V"⟩, 3), (⟨"LowAir$Flight", "isPlannedOn", "(I)Z"⟩, 4), (⟨"LowAir$Flight", "isAhead", "()Z"⟩, 4), (⟨"LowAir$Judge", "plan", "(LLowAir$Craft;LLowAir$Route;)V"⟩, 3), (⟨"LowAir$Route", "at", "(I)I"⟩, 2), (⟨"LowAir$Sky", "flyingIn", "(I)I"⟩, 9), (⟨"LowAir$Route", "endFrom", "(I)I"⟩, 2), (⟨"LowAir$Sky", "flightsIn", "(I)I"⟩, 9), (⟨"LowAir$Sky", "allBreaches", "()I"⟩, 9)]
theorem lw_r1 : ∀ q ∈ lw_privs_1, lw_okq q := List.forall_mem_cons.mpr ⟨lw_p0, List.forall_mem_cons.mpr ⟨lw_p1, List.forall_mem_cons.mpr ⟨lw_p2, List.forall_mem_cons.mpr ⟨lw_p3, List.forall_mem_cons.mpr ⟨lw_p4, List.forall_mem_cons.mpr ⟨lw_p5, List.forall_mem_cons.mpr ⟨lw_p6, List.forall_mem_cons.mpr ⟨lw_p7, List.forall_mem_cons.mpr ⟨lw_p8, List.forall_mem_cons.mpr ⟨lw_p9, List.forall_mem_cons.mpr ⟨lw_p10, List.forall_mem_cons.mpr ⟨lw_p11, List.forall_mem_cons.mpr ⟨lw_p12, List.forall_mem_cons.mpr ⟨lw_p13, List.forall_mem_cons.mpr ⟨lw_p14, List.forall_mem_cons.mpr ⟨lw_p15, fun _ h => absurd h List.not_mem_nil⟩⟩⟩⟩⟩⟩⟩⟩⟩⟩⟩⟩⟩⟩⟩⟩
theorem lw_p16 : lw_okq (⟨"LowAir$Sky", "copyFrom", "(LLowAir$Sky;)V"⟩, 9) := ⟨⟨by decide +kernel, by decide +kernel⟩, List.mem_of_getElem? (i := 103) (by decide +kernel), List.mem_of_getElem? (i := 566) (by decide +kernel), List.mem_of_getElem? (i := 567) (by decide +kernel)⟩
theorem lw_p17 : lw_okq (⟨"LowAir$Craft", "copyFrom", "(LLowAir$Craft;)V"⟩, 12) := ⟨⟨by decide +kernel, by decide +kernel⟩, List.mem_of_getElem? (i := 112) (by decide +kernel), List.mem_of_getElem? (i := 570) (by decide +kernel), List.mem_of_getElem? (i := 571) (by decide +kernel)⟩
theorem lw_p18 : lw_okq (⟨"LowAir$Flight", "copyFrom", "(LLowAir$Flight;)V"⟩, 4) := ⟨⟨by decide +kernel, by decide +kernel⟩, List.mem_of_getElem? (i := 181) (by decide +kernel), List.mem_of_getElem? (i := 574) (by decide +kernel), List.mem_of_getElem? (i := 575) (by decide +kernel)⟩
theorem lw_p19 : lw_okq (⟨"LowAir$Route", "copyFrom", "(LLowAir$Route;)V"⟩, 2) := ⟨⟨by decide +kernel, by decide +kernel⟩, List.mem_of_getElem? (i := 187) (by decide +kernel), List.mem_of_getElem? (i := 578) (by decide +kernel), List.mem_of_getElem? (i := 579) (by decide +kernel)⟩
theorem lw_p20 : lw_okq (⟨"LowAir$Sky", "play", "(I)V"⟩, 9) := ⟨⟨by decide +kernel, by decide +kernel⟩, List.mem_of_getElem? (i := 103) (by decide +kernel), List.mem_of_getElem? (i := 586) (by decide +kernel), List.mem_of_getElem? (i := 587) (by decide +kernel)⟩
theorem lw_p21 : lw_okq (⟨"LowAir$Sky", "startOrMissIfDue", "(I)V"⟩, 9) := ⟨⟨by decide +kernel, by decide +kernel⟩, List.mem_of_getElem? (i := 103) (by decide +kernel), List.mem_of_getElem? (i := 591) (by decide +kernel), List.mem_of_getElem? (i := 592) (by decide +kernel)⟩
theorem lw_p22 : lw_okq (⟨"LowAir$Route", "first", "()I"⟩, 2) := ⟨⟨by decide +kernel, by decide +kernel⟩, List.mem_of_getElem? (i := 187) (by decide +kernel), List.mem_of_getElem? (i := 596) (by decide +kernel), List.mem_of_getElem? (i := 597) (by decide +kernel)⟩
theorem lw_p23 : lw_okq (⟨"LowAir$Sky", "comeIn", "(LLowAir$Craft;)V"⟩, 9) := ⟨⟨by decide +kernel, by decide +kernel⟩, List.mem_of_getElem? (i := 103) (by decide +kernel), List.mem_of_getElem? (i := 600) (by decide +kernel), List.mem_of_getElem? (i := 601) (by decide +kernel)⟩
theorem lw_p24 : lw_okq (⟨"LowAir$Ground", "isShut", "(III)Z"⟩, 9) := ⟨⟨by decide +kernel, by decide +kernel⟩, List.mem_of_getElem? (i := 28) (by decide +kernel), List.mem_of_getElem? (i := 605) (by decide +kernel), List.mem_of_getElem? (i := 606) (by decide +kernel)⟩
theorem lw_p25 : lw_okq (⟨"LowAir$Zone", "shuts", "(III)Z"⟩, 4) := ⟨⟨by decide +kernel, by decide +kernel⟩, List.mem_of_getElem? (i := 38) (by decide +kernel), List.mem_of_getElem? (i := 609) (by decide +kernel), List.mem_of_getElem? (i := 610) (by decide +kernel)⟩
theorem lw_p26 : lw_okq (⟨"LowAir$Sky", "isToMove", "(LLowAir$Craft;)Z"⟩, 9) := ⟨⟨by decide +kernel, by decide +kernel⟩, List.mem_of_getElem? (i := 103) (by decide +kernel), List.mem_of_getElem? (i := 613) (by decide +kernel), List.mem_of_getElem? (i := 614) (by decide +kernel)⟩
theorem lw_p27 : lw_okq (⟨"LowAir$Sky", "move", "(LLowAir$Craft;)V"⟩, 9) := ⟨⟨by decide +kernel, by decide +kernel⟩, List.mem_of_getElem? (i := 103) (by decide +kernel), List.mem_of_getElem? (i := 617) (by decide +kernel), List.mem_of_getElem? (i := 618) (by decide +kernel)⟩
theorem lw_p28 : lw_okq (⟨"LowAir$Craft", "nextCellHome", "()I"⟩, 12) := ⟨⟨by decide +kernel, by decide +kernel⟩, List.mem_of_getElem? (i := 112) (by decide +kernel), List.mem_of_getElem? (i := 621) (by decide +kernel), List.mem_of_getElem? (i := 622) (by decide +kernel)⟩
theorem lw_p29 : lw_okq (⟨"LowAir$Sky", "movesInto", "(LLowAir$Craft;LLowAir$Flight;I)Z"⟩, 9) := ⟨⟨by decide +kernel, by decide +kernel⟩, List.mem_of_getElem? (i := 103) (by decide +kernel), List.mem_of_getElem? (i := 626) (by decide +kernel), List.mem_of_getElem? (i := 627) (by decide +kernel)⟩
theorem lw_p30 : lw_okq (⟨"LowAir$Ground", "costOfMove", "(I)I"⟩, 9) := ⟨⟨by decide +kernel, by decide +kernel⟩, List.mem_of_getElem? (i := 28) (by decide +kernel), List.mem_of_getElem? (i := 637) (by decide +kernel), List.mem_of_getElem? (i := 638) (by decide +kernel)⟩
theorem lw_p31 : lw_okq (⟨"LowAir$Craft", "goDown", "()V"⟩, 12) := ⟨⟨by decide +kernel, by decide +kernel⟩, List.mem_of_getElem? (i := 112) (by decide +kernel), List.mem_of_getElem? (i := 644) (by decide +kernel), List.mem_of_getElem? (i := 645) (by decide +kernel)⟩
def lw_privs_2 : List (MethodName × Nat) := [(⟨"LowAir$Sky", "copyFrom", "(LLowAir$Sky;)V"⟩, 9), (⟨"LowAir$Craft", "copyFrom", "(LLowAir$Craft;)V"⟩, 12), (⟨"LowAir$Flight", "copyFrom", "(LLowAir$Flight;)V"⟩, 4), (⟨"LowAir$Route", "copyFrom", "(LLowAir$Route;)V"⟩, 2), (⟨"LowAir$Sky", "play", "(I)V"⟩, 9), (⟨"LowAir$Sky", "startOrMissIfDue", "(I)V"⟩, 9), (⟨"LowAir$Route", "first", "()I"⟩, 2), (⟨"LowAir$Sky", "comeIn", "(LLowAir$Craft;)V"⟩, 9), (⟨"LowAir$Ground", "isShut", "(III)Z"⟩, 9), (⟨"LowAir$Zone", "shuts", "(III)Z"⟩, 4), (⟨"LowAir$Sky", "isToMove", "(LLowAir$Craft;)Z"⟩, 9), (⟨"LowAir$Sky", "move", "(LLowAir$Craft;)V"⟩, 9), (⟨"LowAir$Craft", "nextCellHome", "()I"⟩, 12), (⟨"LowAir$Sky", "movesInto", "(LLowAir$Craft;LLowAir$Flight;I)Z"⟩, 9), (⟨"LowAir$Ground", "costOfMove", "(I)I"⟩, 9), (⟨"LowAir$Craft", "goDown", "()V"⟩, 12)]
theorem lw_r2 : ∀ q ∈ lw_privs_2, lw_okq q := List.forall_mem_cons.mpr ⟨lw_p16, List.forall_mem_cons.mpr ⟨lw_p17, List.forall_mem_cons.mpr ⟨lw_p18, List.forall_mem_cons.mpr ⟨lw_p19, List.forall_mem_cons.mpr ⟨lw_p20, List.forall_mem_cons.mpr ⟨lw_p21, List.forall_mem_cons.mpr ⟨lw_p22, List.forall_mem_cons.mpr ⟨lw_p23, List.forall_mem_cons.mpr ⟨lw_p24, List.forall_mem_cons.mpr ⟨lw_p25, List.forall_mem_cons.mpr ⟨lw_p26, List.forall_mem_cons.mpr ⟨lw_p27, List.forall_mem_cons.mpr ⟨lw_p28, List.forall_mem_cons.mpr ⟨lw_p29, List.forall_mem_cons.mpr ⟨lw_p30, List.forall_mem_cons.mpr ⟨lw_p31, fun _ h => absurd h List.not_mem_nil⟩⟩⟩⟩⟩⟩⟩⟩⟩⟩⟩⟩⟩⟩⟩⟩
theorem lw_p32 : lw_okq (⟨"LowAir$Craft", "landAt", "(I)V"⟩, 12) := ⟨⟨by decide +kernel, by decide +kernel⟩, List.mem_of_getElem? (i := 112) (by decide +kernel), List.mem_of_getElem? (i := 648) (by decide +kernel), List.mem_of_getElem? (i := 649) (by decide +kernel)⟩
theorem lw_p33 : lw_okq (⟨"LowAir$Sky", "pairsNear", "()I"⟩, 9) := ⟨⟨by decide +kernel, by decide +kernel⟩, List.mem_of_getElem? (i := 103) (by decide +kernel), List.mem_of_getElem? (i := 652) (by decide +kernel), List.mem_of_getElem? (i := 653) (by decide +kernel)⟩
theorem lw_p34 : lw_okq (⟨"LowAir$Sky", "chargeIfLying", "(LLowAir$Craft;)V"⟩, 9) := ⟨⟨by decide +kernel, by decide +kernel⟩, List.mem_of_getElem? (i := 103) (by decide +kernel), List.mem_of_getElem? (i := 656) (by decide +kernel), List.mem_of_getElem? (i := 657) (by decide +kernel)⟩
theorem lw_p35 : lw_okq (⟨"LowAir$Flight", "occupiesIn", "(II)Z"⟩, 4) := ⟨⟨by decide +kernel, by decide +kernel⟩, List.mem_of_getElem? (i := 181) (by decide +kernel), List.mem_of_getElem? (i := 679) (by decide +kernel), List.mem_of_getElem? (i := 680) (by decide +kernel)⟩
theorem lw_p36 : lw_okq (⟨"LowAir$Search", "fewestMoves", "(LLowAir$Craft;II)I"⟩, 3) := ⟨⟨by decide +kernel, by decide +kernel⟩, List.mem_of_getElem? (i := 286) (by decide +kernel), List.mem_of_getElem? (i := 689) (by decide +kernel), List.mem_of_getElem? (i := 690) (by decide +kernel)⟩
theorem lw_p37 : lw_okq (⟨"LowAir$Search", "least", "(LLowAir$Craft;IIZ)I"⟩, 3) := ⟨⟨by decide +kernel, by decide +kernel⟩, List.mem_of_getElem? (i := 286) (by decide +kernel), List.mem_of_getElem? (i := 693) (by decide +kernel), List.mem_of_getElem? (i := 694) (by decide +kernel)⟩
theorem lw_p38 : lw_okq (⟨"LowAir$Search", "spreadAll", "(Z)Z"⟩, 3) := ⟨⟨by decide +kernel, by decide +kernel⟩, List.mem_of_getElem? (i := 286) (by decide +kernel), List.mem_of_getElem? (i := 701) (by decide +kernel), List.mem_of_getElem? (i := 702) (by decide +kernel)⟩
theorem lw_p39 : lw_okq (⟨"LowAir$Search", "spread", "(IIZ)Z"⟩, 3) := ⟨⟨by decide +kernel, by decide +kernel⟩, List.mem_of_getElem? (i := 286) (by decide +kernel), List.mem_of_getElem? (i := 705) (by decide +kernel), List.mem_of_getElem? (i := 706) (by decide +kernel)⟩
theorem lw_p40 : lw_okq (⟨"LowAir$Search", "leastCharge", "(LLowAir$Craft;II)I"⟩, 3) := ⟨⟨by decide +kernel, by decide +kernel⟩, List.mem_of_getElem? (i := 286) (by decide +kernel), List.mem_of_getElem? (i := 715) (by decide +kernel), List.mem_of_getElem? (i := 716) (by decide +kernel)⟩
theorem lw_p41 : lw_okq (⟨"LowAir$Ground", "isWayFromPadToPad", "(LLowAir$Route;)Z"⟩, 9) := ⟨⟨by decide +kernel, by decide +kernel⟩, List.mem_of_getElem? (i := 28) (by decide +kernel), List.mem_of_getElem? (i := 725) (by decide +kernel), List.mem_of_getElem? (i := 726) (by decide +kernel)⟩
theorem lw_p42 : lw_okq (⟨"LowAir$Ground", "hasPad", "(I)Z"⟩, 9) := ⟨⟨by decide +kernel, by decide +kernel⟩, List.mem_of_getElem? (i := 28) (by decide +kernel), List.mem_of_getElem? (i := 730) (by decide +kernel), List.mem_of_getElem? (i := 731) (by decide +kernel)⟩
theorem lw_p43 : lw_okq (⟨"LowAir$Route", "last", "()I"⟩, 2) := ⟨⟨by decide +kernel, by decide +kernel⟩, List.mem_of_getElem? (i := 187) (by decide +kernel), List.mem_of_getElem? (i := 734) (by decide +kernel), List.mem_of_getElem? (i := 735) (by decide +kernel)⟩
theorem lw_p44 : lw_okq (⟨"LowAir$Judge", "reasonAgainst", "(ILLowAir$Route;I)I"⟩, 3) := ⟨⟨by decide +kernel, by decide +kernel⟩, List.mem_of_getElem? (i := 270) (by decide +kernel), List.mem_of_getElem? (i := 744) (by decide +kernel), List.mem_of_getElem? (i := 745) (by decide +kernel)⟩
theorem lw_p45 : lw_okq (⟨"LowAir$Judge", "meetsTower", "(LLowAir$Route;)Z"⟩, 3) := ⟨⟨by decide +kernel, by decide +kernel⟩, List.mem_of_getElem? (i := 270) (by decide +kernel), List.mem_of_getElem? (i := 748) (by decide +kernel), List.mem_of_getElem? (i := 749) (by decide +kernel)⟩
theorem lw_p46 : lw_okq (⟨"LowAir$Judge", "meetsZone", "(LLowAir$Craft;LLowAir$Route;I)Z"⟩, 3) := ⟨⟨by decide +kernel, by decide +kernel⟩, List.mem_of_getElem? (i := 270) (by decide +kernel), List.mem_of_getElem? (i := 752) (by decide +kernel), List.mem_of_getElem? (i := 753) (by decide +kernel)⟩
theorem lw_p47 : lw_okq (⟨"LowAir$Judge", "meetsOthers", "(ILLowAir$Route;I)Z"⟩, 3) := ⟨⟨by decide +kernel, by decide +kernel⟩, List.mem_of_getElem? (i := 270) (by decide +kernel), List.mem_of_getElem? (i := 757) (by decide +kernel), List.mem_of_getElem? (i := 758) (by decide +kernel)⟩
def lw_privs_3 : List (MethodName × Nat) := [(⟨"LowAir$Craft", "landAt", "(I)V"⟩, 12), (⟨"LowAir$Sky", "pairsNear", "()I"⟩, 9), (⟨"LowAir$Sky", "chargeIfLying", "(LLowAir$Craft;)V"⟩, 9), (⟨"LowAir$Flight", "occupiesIn", "(II)Z"⟩, 4), (⟨"LowAir$Search", "fewestMoves", "(LLowAir$Craft;II)I"⟩, 3), (⟨"LowAir$Search", "least", "(LLowAir$Craft;IIZ)I"⟩, 3), (⟨"LowAir$Search", "spreadAll", "(Z)Z"⟩, 3), (⟨"LowAir$Search", "spread", "(IIZ)Z"⟩, 3), (⟨"LowAir$Search", "leastCharge", "(LLowAir$Craft;II)I"⟩, 3), (⟨"LowAir$Ground", "isWayFromPadToPad", "(LLowAir$Route;)Z"⟩, 9), (⟨"LowAir$Ground", "hasPad", "(I)Z"⟩, 9), (⟨"LowAir$Route", "last", "()I"⟩, 2), (⟨"LowAir$Judge", "reasonAgainst", "(ILLowAir$Route;I)I"⟩, 3), (⟨"LowAir$Judge", "meetsTower", "(LLowAir$Route;)Z"⟩, 3), (⟨"LowAir$Judge", "meetsZone", "(LLowAir$Craft;LLowAir$Route;I)Z"⟩, 3), (⟨"LowAir$Judge", "meetsOthers", "(ILLowAir$Route;I)Z"⟩, 3)]
theorem lw_r3 : ∀ q ∈ lw_privs_3, lw_okq q := List.forall_mem_cons.mpr ⟨lw_p32, List.forall_mem_cons.mpr ⟨lw_p33, List.forall_mem_cons.mpr ⟨lw_p34, List.forall_mem_cons.mpr ⟨lw_p35, List.forall_mem_cons.mpr ⟨lw_p36, List.forall_mem_cons.mpr ⟨lw_p37, List.forall_mem_cons.mpr ⟨lw_p38, List.forall_mem_cons.mpr ⟨lw_p39, List.forall_mem_cons.mpr ⟨lw_p40, List.forall_mem_cons.mpr ⟨lw_p41, List.forall_mem_cons.mpr ⟨lw_p42, List.forall_mem_cons.mpr ⟨lw_p43, List.forall_mem_cons.mpr ⟨lw_p44, List.forall_mem_cons.mpr ⟨lw_p45, List.forall_mem_cons.mpr ⟨lw_p46, List.forall_mem_cons.mpr ⟨lw_p47, fun _ h => absurd h List.not_mem_nil⟩⟩⟩⟩⟩⟩⟩⟩⟩⟩⟩⟩⟩⟩⟩⟩
theorem lw_p48 : lw_okq (⟨"LowAir$Flight", "isCloseInTime", "(LLowAir$Route;I)Z"⟩, 4) := ⟨⟨by decide +kernel, by decide +kernel⟩, List.mem_of_getElem? (i := 181) (by decide +kernel), List.mem_of_getElem? (i := 762) (by decide +kernel), List.mem_of_getElem? (i := 763) (by decide +kernel)⟩
theorem lw_p49 : lw_okq (⟨"LowAir$Flight", "meets", "(LLowAir$Route;I)Z"⟩, 4) := ⟨⟨by decide +kernel, by decide +kernel⟩, List.mem_of_getElem? (i := 181) (by decide +kernel), List.mem_of_getElem? (i := 767) (by decide +kernel), List.mem_of_getElem? (i := 768) (by decide +kernel)⟩
theorem lw_p50 : lw_okq (⟨"LowAir$Judge", "meetsItself", "(ILLowAir$Route;I)Z"⟩, 3) := ⟨⟨by decide +kernel, by decide +kernel⟩, List.mem_of_getElem? (i := 270) (by decide +kernel), List.mem_of_getElem? (i := 771) (by decide +kernel), List.mem_of_getElem? (i := 772) (by decide +kernel)⟩
theorem lw_p51 : lw_okq (⟨"LowAir$Ground", "costOfRoute", "(LLowAir$Route;)I"⟩, 9) := ⟨⟨by decide +kernel, by decide +kernel⟩, List.mem_of_getElem? (i := 28) (by decide +kernel), List.mem_of_getElem? (i := 775) (by decide +kernel), List.mem_of_getElem? (i := 776) (by decide +kernel)⟩
theorem lw_p52 : lw_okq (⟨"LowAir$Judge", "isTooLoud", "(LLowAir$Craft;LLowAir$Route;I)Z"⟩, 3) := ⟨⟨by decide +kernel, by decide +kernel⟩, List.mem_of_getElem? (i := 270) (by decide +kernel), List.mem_of_getElem? (i := 780) (by decide +kernel), List.mem_of_getElem? (i := 781) (by decide +kernel)⟩
theorem lw_p53 : lw_okq (⟨"LowAir", "checkStart", "(I)V"⟩, 6) := ⟨⟨by decide +kernel, by decide +kernel⟩, List.mem_of_getElem? (i := 20) (by decide +kernel), List.mem_of_getElem? (i := 807) (by decide +kernel), List.mem_of_getElem? (i := 808) (by decide +kernel)⟩
def lw_privs_4 : List (MethodName × Nat) := [(⟨"LowAir$Flight", "isCloseInTime", "(LLowAir$Route;I)Z"⟩, 4), (⟨"LowAir$Flight", "meets", "(LLowAir$Route;I)Z"⟩, 4), (⟨"LowAir$Judge", "meetsItself", "(ILLowAir$Route;I)Z"⟩, 3), (⟨"LowAir$Ground", "costOfRoute", "(LLowAir$Route;)I"⟩, 9), (⟨"LowAir$Judge", "isTooLoud", "(LLowAir$Craft;LLowAir$Route;I)Z"⟩, 3), (⟨"LowAir", "checkStart", "(I)V"⟩, 6)]
theorem lw_r4 : ∀ q ∈ lw_privs_4, lw_okq q := List.forall_mem_cons.mpr ⟨lw_p48, List.forall_mem_cons.mpr ⟨lw_p49, List.forall_mem_cons.mpr ⟨lw_p50, List.forall_mem_cons.mpr ⟨lw_p51, List.forall_mem_cons.mpr ⟨lw_p52, List.forall_mem_cons.mpr ⟨lw_p53, fun _ h => absurd h List.not_mem_nil⟩⟩⟩⟩⟩⟩
def lw_privs : List (MethodName × Nat) := lw_privs_1 ++ (lw_privs_2 ++ (lw_privs_3 ++ (lw_privs_4)))
def lw_tbl : List Cond := k2_sels lw_privs ++ tables_1
theorem lw_privs_ok : ∀ q ∈ lw_privs, lw_okq q := by
  show ∀ q ∈ lw_privs_1 ++ (lw_privs_2 ++ (lw_privs_3 ++ (lw_privs_4))), lw_okq q
  exact List.forall_mem_append.mpr ⟨lw_r1, List.forall_mem_append.mpr ⟨lw_r2, List.forall_mem_append.mpr ⟨lw_r3, lw_r4⟩⟩⟩
/-- the streams that the claim lets the run draw from -/
abbrev lw_cs : List Choice := [Jvm.Choice.named "NaN.bits"]
theorem lw_bits : nanBits ∈ lw_cs := by first | decide | exact List.mem_cons_self | simp [lw_cs, nanBits]
end
section
def RX0 : String := "LowAir$Craft"
def TX0 : u_T := fun k => match k with
  | 0 => ("LowAir$Craft", "rank", "I", false)
  | 1 => ("LowAir$Craft", "homePad", "I", false)
  | 2 => ("LowAir$Craft", "homeCell", "I", false)
  | 3 => ("LowAir$Craft", "battery", "I", false)
  | 4 => ("LowAir$Craft", "charge", "I", false)
  | 5 => ("LowAir$Craft", "loudness", "I", false)
  | 6 => ("LowAir$Craft", "linked", "Z", false)
  | 7 => ("LowAir$Craft", "state", "I", false)
  | 8 => ("LowAir$Craft", "cell", "I", false)
  | 9 => ("LowAir$Craft", "flight", "I", false)
  | 10 => ("LowAir$Craft", "breaches", "I", false)
  | _ => ("LowAir$Craft", "landedAt", "I", false)
def tyX0 : Nat → FieldType := fun k => match k with
  | 0 => .int
  | 1 => .int
  | 2 => .int
  | 3 => .int
  | 4 => .int
  | 5 => .int
  | 6 => .boolean
  | 7 => .int
  | 8 => .int
  | 9 => .int
  | 10 => .int
  | _ => .int
abbrev wsX00 : List Cond := u_ws RX0 TX0 12
theorem nmX0 : ∀ a, a < 12 → ∀ b, b < 12 → a ≠ b → (TX0 a).2.1 ≠ (TX0 b).2.1 := by decide +kernel
theorem tyX0_ok : ∀ k, k < 12 → parseFieldDescriptor (TX0 k).2.2.1 = some (tyX0 k) := by decide +kernel
abbrev cX0_init : ByteArray := prog_2_method_1_code
def yX0_init : MethodName := ⟨RX0, "<init>", "()V"⟩
abbrev cX0_copyFrom : ByteArray := prog_2_method_2_code
def yX0_copyFrom : MethodName := ⟨RX0, "copyFrom", "(LLowAir$Craft;)V"⟩
abbrev cX0_landAt : ByteArray := prog_2_method_3_code
def yX0_landAt : MethodName := ⟨RX0, "landAt", "(I)V"⟩
abbrev cX0_goDown : ByteArray := prog_2_method_4_code
def yX0_goDown : MethodName := ⟨RX0, "goDown", "()V"⟩
abbrev cX0_nextCellHome : ByteArray := prog_2_method_5_code
def yX0_nextCellHome : MethodName := ⟨RX0, "nextCellHome", "()I"⟩
def RX1 : String := "LowAir$Flight"
def TX1 : u_T := fun k => match k with
  | 0 => ("LowAir$Flight", "craft", "I", false)
  | 1 => ("LowAir$Flight", "start", "I", false)
  | 2 => ("LowAir$Flight", "state", "I", false)
  | _ => ("LowAir$Flight", "route", "LLowAir$Route;", true)
def tyX1 : Nat → FieldType := fun k => match k with
  | 0 => .int
  | 1 => .int
  | 2 => .int
  | _ => .object "LowAir$Route"
abbrev wsX10 : List Cond := u_ws RX1 TX1 4
theorem nmX1 : ∀ a, a < 4 → ∀ b, b < 4 → a ≠ b → (TX1 a).2.1 ≠ (TX1 b).2.1 := by decide +kernel
theorem tyX1_ok : ∀ k, k < 4 → parseFieldDescriptor (TX1 k).2.2.1 = some (tyX1 k) := by decide +kernel
abbrev cX1_init : ByteArray := prog_3_method_1_code
def yX1_init : MethodName := ⟨RX1, "<init>", "()V"⟩
abbrev cX1_copyFrom : ByteArray := prog_3_method_2_code
def yX1_copyFrom : MethodName := ⟨RX1, "copyFrom", "(LLowAir$Flight;)V"⟩
abbrev cX1_isAhead : ByteArray := prog_3_method_3_code
def yX1_isAhead : MethodName := ⟨RX1, "isAhead", "()Z"⟩
abbrev cX1_isPlannedOn : ByteArray := prog_3_method_4_code
def yX1_isPlannedOn : MethodName := ⟨RX1, "isPlannedOn", "(I)Z"⟩
abbrev cX1_occupiesIn : ByteArray := prog_3_method_5_code
def yX1_occupiesIn : MethodName := ⟨RX1, "occupiesIn", "(II)Z"⟩
abbrev cX1_isCloseInTime : ByteArray := prog_3_method_6_code
def yX1_isCloseInTime : MethodName := ⟨RX1, "isCloseInTime", "(LLowAir$Route;I)Z"⟩
abbrev cX1_meets : ByteArray := prog_3_method_7_code
def yX1_meets : MethodName := ⟨RX1, "meets", "(LLowAir$Route;I)Z"⟩
def RX2 : String := "LowAir$Ground"
def TX2 : u_T := fun k => match k with
  | 0 => ("LowAir$Ground", "houses", "[I", true)
  | 1 => ("LowAir$Ground", "towers", "[Z", true)
  | 2 => ("LowAir$Ground", "padAt", "[I", true)
  | 3 => ("LowAir$Ground", "padCells", "[I", true)
  | 4 => ("LowAir$Ground", "padCount", "I", false)
  | 5 => ("LowAir$Ground", "zones", "[LLowAir$Zone;", true)
  | 6 => ("LowAir$Ground", "zoneCount", "I", false)
  | 7 => ("LowAir$Ground", "windDirection", "I", false)
  | _ => ("LowAir$Ground", "windForce", "I", false)
def tyX2 : Nat → FieldType := fun k => match k with
  | 0 => .array .int
  | 1 => .array .boolean
  | 2 => .array .int
  | 3 => .array .int
  | 4 => .int
  | 5 => .array (.object "LowAir$Zone")
  | 6 => .int
  | 7 => .int
  | _ => .int
abbrev wsX20 : List Cond := u_ws RX2 TX2 9
theorem nmX2 : ∀ a, a < 9 → ∀ b, b < 9 → a ≠ b → (TX2 a).2.1 ≠ (TX2 b).2.1 := by decide +kernel
theorem tyX2_ok : ∀ k, k < 9 → parseFieldDescriptor (TX2 k).2.2.1 = some (tyX2 k) := by decide +kernel
abbrev cX2_init : ByteArray := prog_4_method_1_code
def yX2_init : MethodName := ⟨RX2, "<init>", "()V"⟩
abbrev cX2_addPad : ByteArray := prog_4_method_2_code
def yX2_addPad : MethodName := ⟨RX2, "addPad", "(I)I"⟩
abbrev cX2_addZone : ByteArray := prog_4_method_3_code
def yX2_addZone : MethodName := ⟨RX2, "addZone", "(IIII)I"⟩
abbrev cX2_isShut : ByteArray := prog_4_method_4_code
def yX2_isShut : MethodName := ⟨RX2, "isShut", "(III)Z"⟩
abbrev cX2_hasPad : ByteArray := prog_4_method_5_code
def yX2_hasPad : MethodName := ⟨RX2, "hasPad", "(I)Z"⟩
abbrev cX2_isWayFromPadToPad : ByteArray := prog_4_method_6_code
def yX2_isWayFromPadToPad : MethodName := ⟨RX2, "isWayFromPadToPad", "(LLowAir$Route;)Z"⟩
abbrev cX2_neighbour : ByteArray := prog_4_method_7_code
def yX2_neighbour : MethodName := ⟨RX2, "neighbour", "(II)I"⟩
abbrev cX2_directionTo : ByteArray := prog_4_method_8_code
def yX2_directionTo : MethodName := ⟨RX2, "directionTo", "(II)I"⟩
abbrev cX2_costOfMove : ByteArray := prog_4_method_9_code
def yX2_costOfMove : MethodName := ⟨RX2, "costOfMove", "(I)I"⟩
abbrev cX2_costOfRoute : ByteArray := prog_4_method_10_code
def yX2_costOfRoute : MethodName := ⟨RX2, "costOfRoute", "(LLowAir$Route;)I"⟩
def RX3 : String := "LowAir$Judge"
def TX3 : u_T := fun k => match k with
  | 0 => ("LowAir$Judge", "ground", "LLowAir$Ground;", true)
  | 1 => ("LowAir$Judge", "sky", "LLowAir$Sky;", true)
  | _ => ("LowAir$Judge", "planned", "[I", true)
def tyX3 : Nat → FieldType := fun k => match k with
  | 0 => .object "LowAir$Ground"
  | 1 => .object "LowAir$Sky"
  | _ => .array .int
abbrev wsX30 : List Cond := u_ws RX3 TX3 3
theorem nmX3 : ∀ a, a < 3 → ∀ b, b < 3 → a ≠ b → (TX3 a).2.1 ≠ (TX3 b).2.1 := by decide +kernel
theorem tyX3_ok : ∀ k, k < 3 → parseFieldDescriptor (TX3 k).2.2.1 = some (tyX3 k) := by decide +kernel
abbrev cX3_init : ByteArray := prog_5_method_1_code
def yX3_init : MethodName := ⟨RX3, "<init>", "(LLowAir$Ground;LLowAir$Sky;)V"⟩
abbrev cX3_reasonAgainst : ByteArray := prog_5_method_2_code
def yX3_reasonAgainst : MethodName := ⟨RX3, "reasonAgainst", "(ILLowAir$Route;I)I"⟩
abbrev cX3_meetsTower : ByteArray := prog_5_method_3_code
def yX3_meetsTower : MethodName := ⟨RX3, "meetsTower", "(LLowAir$Route;)Z"⟩
abbrev cX3_meetsZone : ByteArray := prog_5_method_4_code
def yX3_meetsZone : MethodName := ⟨RX3, "meetsZone", "(LLowAir$Craft;LLowAir$Route;I)Z"⟩
abbrev cX3_meetsOthers : ByteArray := prog_5_method_5_code
def yX3_meetsOthers : MethodName := ⟨RX3, "meetsOthers", "(ILLowAir$Route;I)Z"⟩
abbrev cX3_meetsItself : ByteArray := prog_5_method_6_code
def yX3_meetsItself : MethodName := ⟨RX3, "meetsItself", "(ILLowAir$Route;I)Z"⟩
abbrev cX3_isTooLoud : ByteArray := prog_5_method_7_code
def yX3_isTooLoud : MethodName := ⟨RX3, "isTooLoud", "(LLowAir$Craft;LLowAir$Route;I)Z"⟩
abbrev cX3_plannedNoise : ByteArray := prog_5_method_8_code
def yX3_plannedNoise : MethodName := ⟨RX3, "plannedNoise", "(II)I"⟩
abbrev cX3_planDay : ByteArray := prog_5_method_9_code
def yX3_planDay : MethodName := ⟨RX3, "planDay", "(I)V"⟩
abbrev cX3_plan : ByteArray := prog_5_method_10_code
def yX3_plan : MethodName := ⟨RX3, "plan", "(LLowAir$Craft;LLowAir$Route;)V"⟩
def RX4 : String := "LowAir$Route"
def TX4 : u_T := fun k => match k with
  | 0 => ("LowAir$Route", "cells", "[I", true)
  | _ => ("LowAir$Route", "count", "I", false)
def tyX4 : Nat → FieldType := fun k => match k with
  | 0 => .array .int
  | _ => .int
abbrev wsX40 : List Cond := u_ws RX4 TX4 2
theorem nmX4 : ∀ a, a < 2 → ∀ b, b < 2 → a ≠ b → (TX4 a).2.1 ≠ (TX4 b).2.1 := by decide +kernel
theorem tyX4_ok : ∀ k, k < 2 → parseFieldDescriptor (TX4 k).2.2.1 = some (tyX4 k) := by decide +kernel
abbrev cX4_init : ByteArray := prog_6_method_1_code
def yX4_init : MethodName := ⟨RX4, "<init>", "()V"⟩
abbrev cX4_first : ByteArray := prog_6_method_2_code
def yX4_first : MethodName := ⟨RX4, "first", "()I"⟩
abbrev cX4_last : ByteArray := prog_6_method_3_code
def yX4_last : MethodName := ⟨RX4, "last", "()I"⟩
abbrev cX4_at : ByteArray := prog_6_method_4_code
def yX4_at : MethodName := ⟨RX4, "at", "(I)I"⟩
abbrev cX4_endFrom : ByteArray := prog_6_method_5_code
def yX4_endFrom : MethodName := ⟨RX4, "endFrom", "(I)I"⟩
abbrev cX4_copyFrom : ByteArray := prog_6_method_6_code
def yX4_copyFrom : MethodName := ⟨RX4, "copyFrom", "(LLowAir$Route;)V"⟩
def RX5 : String := "LowAir$Search"
def TX5 : u_T := fun k => match k with
  | 0 => ("LowAir$Search", "ground", "LLowAir$Ground;", true)
  | 1 => ("LowAir$Search", "open", "[Z", true)
  | _ => ("LowAir$Search", "reached", "[I", true)
def tyX5 : Nat → FieldType := fun k => match k with
  | 0 => .object "LowAir$Ground"
  | 1 => .array .boolean
  | _ => .array .int
abbrev wsX50 : List Cond := u_ws RX5 TX5 3
theorem nmX5 : ∀ a, a < 3 → ∀ b, b < 3 → a ≠ b → (TX5 a).2.1 ≠ (TX5 b).2.1 := by decide +kernel
theorem tyX5_ok : ∀ k, k < 3 → parseFieldDescriptor (TX5 k).2.2.1 = some (tyX5 k) := by decide +kernel
abbrev cX5_init : ByteArray := prog_7_method_1_code
def yX5_init : MethodName := ⟨RX5, "<init>", "(LLowAir$Ground;)V"⟩
abbrev cX5_fewestMoves : ByteArray := prog_7_method_2_code
def yX5_fewestMoves : MethodName := ⟨RX5, "fewestMoves", "(LLowAir$Craft;II)I"⟩
abbrev cX5_leastCharge : ByteArray := prog_7_method_3_code
def yX5_leastCharge : MethodName := ⟨RX5, "leastCharge", "(LLowAir$Craft;II)I"⟩
abbrev cX5_least : ByteArray := prog_7_method_4_code
def yX5_least : MethodName := ⟨RX5, "least", "(LLowAir$Craft;IIZ)I"⟩
abbrev cX5_spreadAll : ByteArray := prog_7_method_5_code
def yX5_spreadAll : MethodName := ⟨RX5, "spreadAll", "(Z)Z"⟩
abbrev cX5_spread : ByteArray := prog_7_method_6_code
def yX5_spread : MethodName := ⟨RX5, "spread", "(IIZ)Z"⟩
def RX6 : String := "LowAir$Sky"
def TX6 : u_T := fun k => match k with
  | 0 => ("LowAir$Sky", "ground", "LLowAir$Ground;", true)
  | 1 => ("LowAir$Sky", "crafts", "[LLowAir$Craft;", true)
  | 2 => ("LowAir$Sky", "craftCount", "I", false)
  | 3 => ("LowAir$Sky", "flights", "[LLowAir$Flight;", true)
  | 4 => ("LowAir$Sky", "flightCount", "I", false)
  | 5 => ("LowAir$Sky", "heard", "[I", true)
  | 6 => ("LowAir$Sky", "heardEver", "I", false)
  | 7 => ("LowAir$Sky", "nearCount", "I", false)
  | _ => ("LowAir$Sky", "now", "I", false)
def tyX6 : Nat → FieldType := fun k => match k with
  | 0 => .object "LowAir$Ground"
  | 1 => .array (.object "LowAir$Craft")
  | 2 => .int
  | 3 => .array (.object "LowAir$Flight")
  | 4 => .int
  | 5 => .array .int
  | 6 => .int
  | 7 => .int
  | _ => .int
abbrev wsX60 : List Cond := u_ws RX6 TX6 9
theorem nmX6 : ∀ a, a < 9 → ∀ b, b < 9 → a ≠ b → (TX6 a).2.1 ≠ (TX6 b).2.1 := by decide +kernel
theorem tyX6_ok : ∀ k, k < 9 → parseFieldDescriptor (TX6 k).2.2.1 = some (tyX6 k) := by decide +kernel
abbrev cX6_init : ByteArray := prog_8_method_1_code
def yX6_init : MethodName := ⟨RX6, "<init>", "(LLowAir$Ground;)V"⟩
abbrev cX6_copyFrom : ByteArray := prog_8_method_2_code
def yX6_copyFrom : MethodName := ⟨RX6, "copyFrom", "(LLowAir$Sky;)V"⟩
abbrev cX6_isCraft : ByteArray := prog_8_method_3_code
def yX6_isCraft : MethodName := ⟨RX6, "isCraft", "(I)Z"⟩
abbrev cX6_play : ByteArray := prog_8_method_4_code
def yX6_play : MethodName := ⟨RX6, "play", "(I)V"⟩
abbrev cX6_startOrMissIfDue : ByteArray := prog_8_method_5_code
def yX6_startOrMissIfDue : MethodName := ⟨RX6, "startOrMissIfDue", "(I)V"⟩
abbrev cX6_isToMove : ByteArray := prog_8_method_6_code
def yX6_isToMove : MethodName := ⟨RX6, "isToMove", "(LLowAir$Craft;)Z"⟩
abbrev cX6_move : ByteArray := prog_8_method_7_code
def yX6_move : MethodName := ⟨RX6, "move", "(LLowAir$Craft;)V"⟩
abbrev cX6_movesInto : ByteArray := prog_8_method_8_code
def yX6_movesInto : MethodName := ⟨RX6, "movesInto", "(LLowAir$Craft;LLowAir$Flight;I)Z"⟩
abbrev cX6_comeIn : ByteArray := prog_8_method_9_code
def yX6_comeIn : MethodName := ⟨RX6, "comeIn", "(LLowAir$Craft;)V"⟩
abbrev cX6_pairsNear : ByteArray := prog_8_method_10_code
def yX6_pairsNear : MethodName := ⟨RX6, "pairsNear", "()I"⟩
abbrev cX6_chargeIfLying : ByteArray := prog_8_method_11_code
def yX6_chargeIfLying : MethodName := ⟨RX6, "chargeIfLying", "(LLowAir$Craft;)V"⟩
abbrev cX6_flyingIn : ByteArray := prog_8_method_12_code
def yX6_flyingIn : MethodName := ⟨RX6, "flyingIn", "(I)I"⟩
abbrev cX6_flightsIn : ByteArray := prog_8_method_13_code
def yX6_flightsIn : MethodName := ⟨RX6, "flightsIn", "(I)I"⟩
abbrev cX6_allBreaches : ByteArray := prog_8_method_14_code
def yX6_allBreaches : MethodName := ⟨RX6, "allBreaches", "()I"⟩
def RX7 : String := "LowAir$Zone"
def TX7 : u_T := fun k => match k with
  | 0 => ("LowAir$Zone", "cell", "I", false)
  | 1 => ("LowAir$Zone", "from", "I", false)
  | 2 => ("LowAir$Zone", "to", "I", false)
  | _ => ("LowAir$Zone", "least", "I", false)
def tyX7 : Nat → FieldType := fun k => match k with
  | 0 => .int
  | 1 => .int
  | 2 => .int
  | _ => .int
abbrev wsX70 : List Cond := u_ws RX7 TX7 4
theorem nmX7 : ∀ a, a < 4 → ∀ b, b < 4 → a ≠ b → (TX7 a).2.1 ≠ (TX7 b).2.1 := by decide +kernel
theorem tyX7_ok : ∀ k, k < 4 → parseFieldDescriptor (TX7 k).2.2.1 = some (tyX7 k) := by decide +kernel
abbrev cX7_init : ByteArray := prog_9_method_1_code
def yX7_init : MethodName := ⟨RX7, "<init>", "()V"⟩
abbrev cX7_shuts : ByteArray := prog_9_method_2_code
def yX7_shuts : MethodName := ⟨RX7, "shuts", "(III)Z"⟩
def RX8 : String := "LowAir"
def TX8 : u_T := fun k => match k with
  | 0 => ("LowAir", "ground", "LLowAir$Ground;", true)
  | 1 => ("LowAir", "sky", "LLowAir$Sky;", true)
  | 2 => ("LowAir", "trial", "LLowAir$Sky;", true)
  | 3 => ("LowAir", "draft", "LLowAir$Route;", true)
  | 4 => ("LowAir", "judge", "LLowAir$Judge;", true)
  | _ => ("LowAir", "search", "LLowAir$Search;", true)
def tyX8 : Nat → FieldType := fun k => match k with
  | 0 => .object "LowAir$Ground"
  | 1 => .object "LowAir$Sky"
  | 2 => .object "LowAir$Sky"
  | 3 => .object "LowAir$Route"
  | 4 => .object "LowAir$Judge"
  | _ => .object "LowAir$Search"
abbrev wsX80 : List Cond := u_ws RX8 TX8 6
theorem nmX8 : ∀ a, a < 6 → ∀ b, b < 6 → a ≠ b → (TX8 a).2.1 ≠ (TX8 b).2.1 := by decide +kernel
theorem tyX8_ok : ∀ k, k < 6 → parseFieldDescriptor (TX8 k).2.2.1 = some (tyX8 k) := by decide +kernel
abbrev cX8_init : ByteArray := prog_1_method_1_code
def yX8_init : MethodName := ⟨RX8, "<init>", "()V"⟩
abbrev cX8_houses : ByteArray := prog_1_method_2_code
def yX8_houses : MethodName := ⟨RX8, "houses", "(II)I"⟩
abbrev cX8_tower : ByteArray := prog_1_method_3_code
def yX8_tower : MethodName := ⟨RX8, "tower", "(IZ)Z"⟩
abbrev cX8_pad : ByteArray := prog_1_method_4_code
def yX8_pad : MethodName := ⟨RX8, "pad", "(I)I"⟩
abbrev cX8_zone : ByteArray := prog_1_method_5_code
def yX8_zone : MethodName := ⟨RX8, "zone", "(IIII)I"⟩
abbrev cX8_wind : ByteArray := prog_1_method_6_code
def yX8_wind : MethodName := ⟨RX8, "wind", "(II)I"⟩
abbrev cX8_craft : ByteArray := prog_1_method_7_code
def yX8_craft : MethodName := ⟨RX8, "craft", "(IIII)I"⟩
abbrev cX8_link : ByteArray := prog_1_method_8_code
def yX8_link : MethodName := ⟨RX8, "link", "(IZ)Z"⟩
abbrev cX8_fetch : ByteArray := prog_1_method_9_code
def yX8_fetch : MethodName := ⟨RX8, "fetch", "(I)I"⟩
abbrev cX8_draft : ByteArray := prog_1_method_10_code
def yX8_draft : MethodName := ⟨RX8, "draft", "(I)I"⟩
abbrev cX8_clear : ByteArray := prog_1_method_11_code
def yX8_clear : MethodName := ⟨RX8, "clear", "()I"⟩
abbrev cX8_ask : ByteArray := prog_1_method_12_code
def yX8_ask : MethodName := ⟨RX8, "ask", "(II)I"⟩
abbrev cX8_withdraw : ByteArray := prog_1_method_13_code
def yX8_withdraw : MethodName := ⟨RX8, "withdraw", "(I)I"⟩
abbrev cX8_pass : ByteArray := prog_1_method_14_code
def yX8_pass : MethodName := ⟨RX8, "pass", "(I)I"⟩
abbrev cX8_ofCell : ByteArray := prog_1_method_15_code
def yX8_ofCell : MethodName := ⟨RX8, "ofCell", "(II)I"⟩
abbrev cX8_ofCraft : ByteArray := prog_1_method_16_code
def yX8_ofCraft : MethodName := ⟨RX8, "ofCraft", "(II)I"⟩
abbrev cX8_ofFlight : ByteArray := prog_1_method_17_code
def yX8_ofFlight : MethodName := ⟨RX8, "ofFlight", "(II)I"⟩
abbrev cX8_occupies : ByteArray := prog_1_method_18_code
def yX8_occupies : MethodName := ⟨RX8, "occupies", "(II)I"⟩
abbrev cX8_many : ByteArray := prog_1_method_19_code
def yX8_many : MethodName := ⟨RX8, "many", "(I)I"⟩
abbrev cX8_meanCharge : ByteArray := prog_1_method_20_code
def yX8_meanCharge : MethodName := ⟨RX8, "meanCharge", "()D"⟩
abbrev cX8_why : ByteArray := prog_1_method_21_code
def yX8_why : MethodName := ⟨RX8, "why", "(II)I"⟩
abbrev cX8_soonest : ByteArray := prog_1_method_22_code
def yX8_soonest : MethodName := ⟨RX8, "soonest", "(I)I"⟩
abbrev cX8_way : ByteArray := prog_1_method_23_code
def yX8_way : MethodName := ⟨RX8, "way", "(II)I"⟩
abbrev cX8_cost : ByteArray := prog_1_method_24_code
def yX8_cost : MethodName := ⟨RX8, "cost", "(II)I"⟩
abbrev cX8_wouldNear : ByteArray := prog_1_method_25_code
def yX8_wouldNear : MethodName := ⟨RX8, "wouldNear", "(I)I"⟩
abbrev cX8_wouldHave : ByteArray := prog_1_method_26_code
def yX8_wouldHave : MethodName := ⟨RX8, "wouldHave", "(II)I"⟩
abbrev cX8_digest : ByteArray := prog_1_method_27_code
def yX8_digest : MethodName := ⟨RX8, "digest", "()J"⟩
abbrev cX8_mixed : ByteArray := prog_1_method_28_code
def yX8_mixed : MethodName := ⟨RX8, "mixed", "(JI)J"⟩
abbrev cX8_checkIndex : ByteArray := prog_1_method_29_code
def yX8_checkIndex : MethodName := ⟨RX8, "checkIndex", "(Z)V"⟩
abbrev cX8_checkArgument : ByteArray := prog_1_method_30_code
def yX8_checkArgument : MethodName := ⟨RX8, "checkArgument", "(Z)V"⟩
abbrev cX8_checkState : ByteArray := prog_1_method_31_code
def yX8_checkState : MethodName := ⟨RX8, "checkState", "(Z)V"⟩
abbrev cX8_checkCell : ByteArray := prog_1_method_32_code
def yX8_checkCell : MethodName := ⟨RX8, "checkCell", "(I)V"⟩
abbrev cX8_checkCraft : ByteArray := prog_1_method_33_code
def yX8_checkCraft : MethodName := ⟨RX8, "checkCraft", "(I)V"⟩
abbrev cX8_checkFlight : ByteArray := prog_1_method_34_code
def yX8_checkFlight : MethodName := ⟨RX8, "checkFlight", "(I)V"⟩
abbrev cX8_checkStart : ByteArray := prog_1_method_35_code
def yX8_checkStart : MethodName := ⟨RX8, "checkStart", "(I)V"⟩
abbrev cX8_checkMinutes : ByteArray := prog_1_method_36_code
def yX8_checkMinutes : MethodName := ⟨RX8, "checkMinutes", "(I)V"⟩
abbrev cX8_isCell : ByteArray := prog_1_method_37_code
def yX8_isCell : MethodName := ⟨RX8, "isCell", "(I)Z"⟩
def RJ9 : String := "java/lang/Math"
def TJ9 : u_T := fun k => match k with
  | _ => ("", "", "", false)
def tyJ9 : Nat → FieldType := fun k => match k with
  | _ => .int
abbrev wsJ90 : List Cond := u_ws RJ9 TJ9 0
theorem nmJ9 : ∀ a, a < 0 → ∀ b, b < 0 → a ≠ b → (TJ9 a).2.1 ≠ (TJ9 b).2.1 := by decide +kernel
theorem tyJ9_ok : ∀ k, k < 0 → parseFieldDescriptor (TJ9 k).2.2.1 = some (tyJ9 k) := by decide +kernel
abbrev cJ9_abs_0f7a4 : ByteArray := prog_20_method_59_code
def yJ9_abs_0f7a4 : MethodName := ⟨RJ9, "abs", "(I)I"⟩
abbrev cJ9_max_7cf53 : ByteArray := prog_20_method_65_code
def yJ9_max_7cf53 : MethodName := ⟨RJ9, "max", "(II)I"⟩
abbrev cJ9_min_7cf53 : ByteArray := prog_20_method_69_code
def yJ9_min_7cf53 : MethodName := ⟨RJ9, "min", "(II)I"⟩
def RJ10 : String := "java/lang/System"
def TJ10 : u_T := fun k => match k with
  | _ => ("", "", "", false)
def tyJ10 : Nat → FieldType := fun k => match k with
  | _ => .int
abbrev wsJ100 : List Cond := u_ws RJ10 TJ10 0
theorem nmJ10 : ∀ a, a < 0 → ∀ b, b < 0 → a ≠ b → (TJ10 a).2.1 ≠ (TJ10 b).2.1 := by decide +kernel
theorem tyJ10_ok : ∀ k, k < 0 → parseFieldDescriptor (TJ10 k).2.2.1 = some (tyJ10 k) := by decide +kernel
def RJ7 : String := "java/util/Arrays"
def TJ7 : u_T := fun k => match k with
  | _ => ("", "", "", false)
def tyJ7 : Nat → FieldType := fun k => match k with
  | _ => .int
abbrev wsJ70 : List Cond := u_ws RJ7 TJ7 0
theorem nmJ7 : ∀ a, a < 0 → ∀ b, b < 0 → a ≠ b → (TJ7 a).2.1 ≠ (TJ7 b).2.1 := by decide +kernel
theorem tyJ7_ok : ∀ k, k < 0 → parseFieldDescriptor (TJ7 k).2.2.1 = some (tyJ7 k) := by decide +kernel
abbrev cJ7_fill_53178 : ByteArray := prog_25_method_103_code
def yJ7_fill_53178 : MethodName := ⟨RJ7, "fill", "([II)V"⟩
def RL : String := "LowAirLaw"
abbrev cL_below : ByteArray := method_2_code
def yL_below : MethodName := ⟨RL, "below", "(II)I"⟩
abbrev cL_cell : ByteArray := method_3_code
def yL_cell : MethodName := ⟨RL, "cell", "([II)I"⟩
abbrev cL_law : ByteArray := code
def yL_law : MethodName := ⟨RL, "law", "([I)Z"⟩
abbrev cL_isAsked : ByteArray := method_5_code
def yL_isAsked : MethodName := ⟨RL, "isAsked", "(LLowAir;[IIII)Z"⟩
abbrev cL_isPassed : ByteArray := method_6_code
def yL_isPassed : MethodName := ⟨RL, "isPassed", "(LLowAir;Z)Z"⟩
abbrev vwCl : List vw_C := [(RX0, TX0, 12), (RX1, TX1, 4), (RX2, TX2, 9), (RX3, TX3, 3), (RX4, TX4, 2), (RX5, TX5, 3), (RX6, TX6, 9), (RX7, TX7, 4), (RX8, TX8, 6)]
end
section
/-! ===== the machine over cells that are numbered from 1; cell 0 is the script ===== -/
abbrev qY : Type := MethodName × ByteArray × Nat × Option FieldType
abbrev qE : Type := (Nat × vp_A) ⊕ (Nat × List Value)
abbrev qZ : Type := Nat × (Nat → Int32)
abbrev qM : Type := Nat → qE
def qad (b B : Nat) (k : Nat) : Nat := match k with
  | 0 => b
  | j + 1 => B + j
def qv (f : Nat → Nat) (v : Value) : Value := match v with
  | .ref r => .ref (f r)
  | w => w
def qa (f : Nat → Nat) (x : vp_A) : vp_A := match x with
  | (n, .inr (.inr (.inr (.inr g)))) => (n, .inr (.inr (.inr (.inr (fun j => (g j).map f)))))
  | w => w
def qe (f : Nat → Nat) (cA : Nat → ClassId) (e : qE) : va_E := match e with
  | .inl a => .inl (cA a.1, qa f a.2)
  | .inr o => .inr (o.1, o.2.map (qv f))
def qw (f : Nat → Nat) (cA : Nat → ClassId) (M : qM) (n : Nat) : va_W := (List.range n).map (fun k => (f (k + 1), qe f cA (M (k + 1))))
def qset (M : qM) (r : Nat) (e : qE) : qM := fun k => if k = r then e else M k
theorem qw_len (f : Nat → Nat) (cA : Nat → ClassId) (M : qM) (n : Nat) : (qw f cA M n).length = n := by simp [qw]
theorem qw_at (f : Nat → Nat) (cA : Nat → ClassId) (M : qM) {n k : Nat} (h : k < n) : (qw f cA M n)[k]? = some (f (k + 1), qe f cA (M (k + 1))) := by
  simp [qw, h]
theorem qw_at' {f : Nat → Nat} {cA : Nat → ClassId} {M : qM} {n k : Nat} {q : Nat × va_E} (h : (qw f cA M n)[k]? = some q) : k < n ∧ q = (f (k + 1), qe f cA (M (k + 1))) := by
  have hl := (List.getElem?_eq_some_iff.mp h).1
  rw [qw_len] at hl
  rw [qw_at f cA M hl] at h
  exact ⟨hl, (Option.some.inj h).symm⟩
theorem qw_set (f : Nat → Nat) (cA : Nat → ClassId) (M : qM) {n k : Nat} (e : qE) (h : k < n) : (qw f cA M n).set k (f (k + 1), qe f cA e) = qw f cA (qset M (k + 1) e) n := by
  apply List.ext_getElem?
  intro i
  by_cases hi : i < n
  · rw [qw_at _ _ _ hi]
    by_cases hk : i = k
    · subst hk
      rw [List.getElem?_set_self (by rw [qw_len]; exact hi)]
      simp [qset]
    · rw [List.getElem?_set_ne (Ne.symm hk), qw_at _ _ _ hi]
      simp [qset, hk]
  · rw [List.getElem?_eq_none (by rw [List.length_set, qw_len]; omega), List.getElem?_eq_none (by rw [qw_len]; omega)]
theorem qw_push (f : Nat → Nat) (cA : Nat → ClassId) (M : qM) (n : Nat) (e : qE) : qw f cA M n ++ [(f (n + 1), qe f cA e)] = qw f cA (qset M (n + 1) e) (n + 1) := by
  unfold qw
  rw [List.range_succ, List.map_append]
  congr 1
  · apply List.map_congr_left
    intro k hk
    have h1 : k < n := List.mem_range.mp hk
    have h2 : ¬ k = n := by omega
    simp [qset, h2]
  · simp [qset]
theorem qad_inj (b B : Nat) (h : b < B) {i j : Nat} (e : qad b B (i + 1) = qad b B (j + 1)) : i = j := by
  have e' : B + i = B + j := e
  omega
theorem qw_D (b B : Nat) (h : b < B) (cA : Nat → ClassId) (M : qM) (n : Nat) : va_D (fun q => B ≤ q) (qw (qad b B) cA M n) := by
  refine ⟨fun i j p q hi hj he => ?_, fun k q hk => ?_⟩
  · obtain ⟨-, rfl⟩ := qw_at' hi
    obtain ⟨-, rfl⟩ := qw_at' hj
    exact qad_inj b B h he
  · obtain ⟨-, rfl⟩ := qw_at' hk
    exact Nat.le_add_right B k
/-! the tables' words that hold at every later start too -/
def qnest (w : Cond) : Bool := match w with
  | .fieldLinkNest .. => true
  | .methodLinkNest .. => true
  | _ => false
def qgood (w : Cond) : Bool := goodWord w || qnest w
def qTBL : List Cond := lw_tbl.filter qgood
theorem qpay {args : Array Value} {s : State} (h : ∀ w ∈ qTBL, w.before args s = true) : ∀ w ∈ qTBL, ∀ (a' : Array Value) (U : State), s.WarmedH U.vm → w.before a' U = true := by
  intro w hw a' U hW
  have hg : qgood w = true := (List.mem_filter.mp hw).2
  have hb := h w hw
  rcases (Bool.or_eq_true _ _).mp hg with h1 | h1
  · exact word_at hW (good_of_word h1) hb
  · unfold qnest at h1
    split at h1
    · exact va_Nw.use rfl (va_Nw.warmF hW (va_Nw.of rfl hb))
    · exact va_Nw.use rfl (va_Nw.warmM hW (va_Nw.of rfl hb))
    · cases h1
def qws (y : qY) : List Cond := .code y.1 y.2.1 y.2.2.1 y.2.2.2 :: qTBL
/-! what is known of classes and array classes -/
def qT (cA : Nat → ClassId) : List (ClassId × FieldType) := [(cA 0, .int), (cA 1, .boolean), (cA 2, .object "LowAir$Zone"), (cA 3, .object "LowAir$Craft"), (cA 4, .object "LowAir$Flight"), (cA 5, .array .int)]
def qAA (cA : Nat → ClassId) (U : State) : Prop := ∃ kA kC : Class, U.vm.classes[cA 5]? = some kA ∧ kA.kind = .array (cA 0) (.array .int) ∧ U.vm.classes[cA 0]? = some kC
def qK (D : va_G) (cA : Nat → ClassId) (U : State) : Prop := va_K D vwCl (qT cA) U ∧ qAA cA U
theorem qK.moved {D : va_G} {cA : Nat → ClassId} {u U : State} (hvm : u.vm.Alike U.vm) (h : qK D cA u) : qK D cA U := by
  refine ⟨h.1.moved hvm, ?_⟩
  obtain ⟨kA, kC, h1, h2, h3⟩ := h.2
  obtain ⟨k', hk', he⟩ := hvm.2.2 _ _ h1
  obtain ⟨k2, hk2, -⟩ := hvm.2.2 _ _ h3
  exact ⟨k', k2, hk', by rw [he]; exact h2, hk2⟩
def qR (D : va_G) (cA : Nat → ClassId) (b B : Nat) (M : qM) (n : Nat) (H : Heap) : Prop := va_P D vwCl (qw (qad b B) cA M n) H ∧ H.size = B + n
def qrm (k mc ms : Nat) : Room := { frames := k, cells := mc, slots := ms, locals := 40 * k }
def qPre (z : qZ) (D : va_G) (cA : Nat → ClassId) (b B : Nat) (M : qM) (n : Nat) (U : State) : Prop := (b < B ∧ B ≤ U.heap.size) ∧ qR D cA b B M n U.heap ∧ qK D cA U ∧ va_X b z.1 z.2 U U.heap
abbrev qQ : Type := Option Value → qM → Nat → Prop
def qPost (D : va_G) (cA : Nat → ClassId) (b B : Nat) (Q : qQ) : Array Value → State → Outcome → State → Prop := fun _ st oc t =>
  (∃ (v : Option Value) (M' : qM) (n' : Nat), oc = .returned (v.map (qv (qad b B))) ∧ Q v M' n' ∧ qR D cA b B M' n' t.heap) ∧ va_F (fun q => B ≤ q) st t
/-- the contract of a method at these arguments, over this memory -/
def CT (z : qZ) (k : Nat) (y : qY) (as : List Value) (M : qM) (n mc ms : Nat) (Q : qQ) : Prop :=
  ∀ (l : Launch) (D : va_G) (cA : Nat → ClassId) (b B : Nat), Met l y.1 (qws y) (qrm k mc ms) (va_Pc (as.map (qv (qad b B))) (qPre z D cA b B M n)) (qPost D cA b B Q) mc ms (fun q => B ≤ q)
def qret (y : qY) (v : Option Value) (pc : Nat) : Prop := match v with
  | none => y.2.2.2 = none ∧ decode y.2.1 pc = .ok (.return_, 1)
  | some (.int x) => (∃ ty, y.2.2.2 = some ty ∧ narrow ty (.int x) = .int x) ∧ decode y.2.1 pc = .ok (.ireturn, 1)
  | some (.long _) => y.2.2.2 = some .long ∧ decode y.2.1 pc = .ok (.lreturn, 1)
  | some (.double _) => y.2.2.2 = some .double ∧ decode y.2.1 pc = .ok (.dreturn, 1)
  | _ => False
def qC (z : qZ) (k : Nat) (y : qY) (Q : qQ) (p : Program) (l : Launch) (e : Env) (R : Room) (s : State) (m : MethodId) (args : Array Value) (below : List Frame) (meth : Method) (c : Code) (D : va_G) (cA : Nat → ClassId) (b B tc ts : Nat) (Qf : State → Prop) : Prop :=
  p.tables.exec = Jvm.exec ∧ c.code = y.2.1 ∧ c.maxLocals = y.2.2.1 ∧ s.vm.findClass y.1.cls = some m.cls ∧ meth.name = y.1.name ∧ (∀ w ∈ qTBL, w.before args s = true) ∧ qK D cA s ∧ va_X b z.1 z.2 s s.heap ∧ (b < B ∧ B ≤ s.heap.size) ∧
  (k ≤ R.frames ∧ 40 * k ≤ R.locals ∧ tc ≤ R.cells ∧ ts ≤ R.slots) ∧
  (∀ (v : Option Value) (M' : qM) (n' : Nat) (H' : Heap) (locs' : List Loc) (ls' : Array Slot) (pc' : Nat), Q v M' n' → qR D cA b B M' n' H' → va_S (fun q => B ≤ q) s.heap H' locs' → qret y v pc' → W p l e R s m args below meth c H' locs' tc ts Qf (F0 m pc' ls' ((v.map (qv (qad b B))).toList)))
def qll (f : Nat → Nat) : Nat → List Value → List (Nat × Value)
  | _, [] => []
  | i, .null :: t => qll f (i + 1) t
  | i, v :: t => (i, qv f v) :: qll f (i + 1) t
/-- from this point, with these locals, this stack, this memory of n cells, with room for bc cells and bs slots more, the method comes to its end with Q -/
def EV (z : qZ) (k : Nat) (y : qY) (pc : Nat) (Lc st : List Value) (M : qM) (n bc bs : Nat) (Q : qQ) : Prop :=
  ∀ (p : Program) (l : Launch) (e : Env) (R : Room) (s : State) (m : MethodId) (args : Array Value) (below : List Frame) (meth : Method) (c : Code) (D : va_G) (cA : Nat → ClassId) (b B tc ts : Nat) (Qf : State → Prop), qC z k y Q p l e R s m args below meth c D cA b B tc ts Qf →
  ∀ (H : Heap) (locs : List Loc) (cells slots : Nat) (ls : Array Slot), cells + bc = tc → slots + bs = ts → qR D cA b B M n H → va_S (fun q => B ≤ q) s.heap H locs → lv_has ls y.2.2.1 (qll (qad b B) 0 Lc) →
  W p l e R s m args below meth c H locs cells slots Qf (F0 m pc ls (st.map (qv (qad b B))))
/-! ===== locals ===== -/
theorem qll_cons (f : Nat → Nat) (i : Nat) (v : Value) (t : List Value) (h : v ≠ .null) : qll f i (v :: t) = (i, qv f v) :: qll f (i + 1) t := by
  cases v <;> first | rfl | exact absurd rfl h
theorem qll_mem (f : Nat → Nat) : ∀ (L : List Value) (j i : Nat) (v : Value), L[i]? = some v → v ≠ .null → (j + i, qv f v) ∈ qll f j L
  | [], j, i, v, h, _ => by simp at h
  | w :: t, j, 0, v, h, hn => by
    simp only [List.getElem?_cons_zero, Option.some.injEq] at h
    subst h
    rw [qll_cons f j w t hn]
    exact List.mem_cons_self
  | w :: t, j, i + 1, v, h, hn => by
    simp only [List.getElem?_cons_succ] at h
    have h1 := qll_mem f t (j + 1) i v h hn
    rw [show j + 1 + i = j + (i + 1) by omega] at h1
    by_cases hw : w = .null
    · subst hw; exact h1
    · rw [qll_cons f j w t hw]
      exact List.mem_cons_of_mem _ h1
theorem qll_of (f : Nat → Nat) : ∀ (L : List Value) (j : Nat) (q : Nat × Value), q ∈ qll f j L → ∃ (i : Nat) (v : Value), q = (j + i, qv f v) ∧ L[i]? = some v ∧ v ≠ .null
  | [], j, q, h => by simp [qll] at h
  | w :: t, j, q, h => by
    have rec' : q ∈ qll f (j + 1) t → ∃ (i : Nat) (v : Value), q = (j + i, qv f v) ∧ (w :: t)[i]? = some v ∧ v ≠ .null := fun h1 => by
      obtain ⟨i, v, e1, e2, e3⟩ := qll_of f t (j + 1) q h1
      exact ⟨i + 1, v, by rw [e1, show j + 1 + i = j + (i + 1) by omega], by simpa using e2, e3⟩
    by_cases hw : w = .null
    · subst hw; exact rec' h
    · rw [qll_cons f j w t hw] at h
      rcases List.mem_cons.mp h with h1 | h1
      · exact ⟨0, w, h1, rfl, hw⟩
      · exact rec' h1
theorem qls_at {f : Nat → Nat} {ls : Array Slot} {nL : Nat} {L : List Value} (h : lv_has ls nL (qll f 0 L)) {i : Nat} {v : Value} (hL : L[i]? = some v) (hn : v ≠ .null) : ls[i]? = some (.val (qv f v)) := by
  have h1 := qll_mem f L 0 i v hL hn
  rw [Nat.zero_add] at h1
  exact h.2.2 _ h1
/-- the place before i holds nothing of two words -/
def qok1 (L : List Value) (i : Nat) : Bool := match i with
  | 0 => true
  | j + 1 => match L[j]? with
    | some v => v.category != 2
    | none => true
theorem qcat (f : Nat → Nat) (v : Value) : (qv f v).category = v.category := by cases v <;> rfl
theorem qll_put {f : Nat → Nat} {ls : Array Slot} {nL i : Nat} {L L' : List Value} {w : Value} {lv : List (Nat × Value)} (ho : qok1 L i = true)
    (hL' : ∀ (j : Nat) (v : Value), L'[j]? = some v → v ≠ .null → (j = i ∧ v = w) ∨ (j ≠ i ∧ L[j]? = some v))
    (hlv : ∀ q : Nat × Value, q = (i, qv f w) ∨ (q ∈ qll f 0 L ∧ q.1 ≠ i ∧ ¬ (q.1 + 1 = i ∧ q.2.category = 2)) → q ∈ lv)
    (h : lv_has ls nL lv) : lv_has ls nL (qll f 0 L') := by
  refine ⟨h.1, h.2.1, fun q hq => h.2.2 q (hlv q ?_)⟩
  obtain ⟨j, v, rfl, h1, h2⟩ := qll_of f L' 0 q hq
  rcases hL' j v h1 h2 with ⟨e1, e2⟩ | ⟨e1, e2⟩
  · left; rw [Nat.zero_add, e1, e2]
  · right
    refine ⟨qll_mem f L 0 j v e2 h2, by rw [Nat.zero_add]; exact e1, fun hx => ?_⟩
    rw [Nat.zero_add] at hx
    obtain ⟨h3, h4⟩ := hx
    subst h3
    simp only [qok1, e2] at ho
    rw [qcat] at h4
    simp [h4] at ho
theorem qset_of {L : List Value} {i : Nat} {w : Value} (hi : i < L.length) (j : Nat) (v : Value) (h : (L.set i w)[j]? = some v) (_ : v ≠ .null) : (j = i ∧ v = w) ∨ (j ≠ i ∧ L[j]? = some v) := by
  by_cases hj : j = i
  · subst hj
    rw [List.getElem?_set_self hi] at h
    exact Or.inl ⟨rfl, (Option.some.inj h).symm⟩
  · rw [List.getElem?_set_ne (Ne.symm hj)] at h
    exact Or.inr ⟨hj, h⟩
theorem qset2_of {L : List Value} {i : Nat} {w : Value} (hi : i < L.length) (j : Nat) (v : Value) (h : ((L.set i w).set (i + 1) .null)[j]? = some v) (hv : v ≠ .null) : (j = i ∧ v = w) ∨ (j ≠ i ∧ j ≠ i + 1 ∧ L[j]? = some v) := by
  by_cases hj : j = i + 1
  · subst hj
    by_cases hl : i + 1 < L.length
    · rw [List.getElem?_set_self (by rw [List.length_set]; exact hl)] at h
      exact absurd (Option.some.inj h).symm hv
    · rw [List.getElem?_eq_none (by rw [List.length_set, List.length_set]; omega)] at h
      cases h
  · rw [List.getElem?_set_ne (Ne.symm hj)] at h
    rcases qset_of hi j v h hv with h1 | h1
    · exact Or.inl h1
    · exact Or.inr ⟨h1.1, hj, h1.2⟩

theorem qll_put2 {f : Nat → Nat} {ls : Array Slot} {nL i : Nat} {L : List Value} {w : Value} {lv : List (Nat × Value)} (ho : qok1 L i = true) (hi : i < L.length)
    (hlv : ∀ q : Nat × Value, q = (i, qv f w) ∨ (q ∈ qll f 0 L ∧ q.1 ≠ i ∧ q.1 ≠ i + 1 ∧ ¬ (q.1 + 1 = i ∧ q.2.category = 2)) → q ∈ lv)
    (h : lv_has ls nL lv) : lv_has ls nL (qll f 0 ((L.set i w).set (i + 1) .null)) := by
  refine ⟨h.1, h.2.1, fun q hq => h.2.2 q (hlv q ?_)⟩
  obtain ⟨j, v, rfl, h1, h2⟩ := qll_of f _ 0 q hq
  rcases qset2_of hi j v h1 h2 with ⟨e1, e2⟩ | ⟨e1, e3, e2⟩
  · left; rw [Nat.zero_add, e1, e2]
  · right
    refine ⟨qll_mem f L 0 j v e2 h2, by rw [Nat.zero_add]; exact e1, by rw [Nat.zero_add]; exact e3, fun hx => ?_⟩
    rw [Nat.zero_add] at hx
    obtain ⟨h3, h4⟩ := hx
    subst h3
    simp only [qok1, e2] at ho
    rw [qcat] at h4
    simp [h4] at ho
section QRows
variable {z : qZ} {k : Nat} {y : qY} {pc : Nat} {Lc st : List Value} {M : qM} {n bc bs : Nat} {Q : qQ}
theorem EV_iadd {x x0 : Int32} (hd : decode y.2.1 pc = .ok (.iadd, 1))  (kk : EV z k y (pc + 1) Lc (.int (x + x0) :: st) M n bc bs Q) : EV z k y pc Lc (.int x0 :: .int x :: st) M n bc bs Q := by
  intro p l e R s m args below meth c D cA b B tc ts Qf C H locs cells slots ls h1 h2 hR hS hl
  exact lv_iadd C.1 C.2.1 hd (kk p l e R s m args below meth c D cA b B tc ts Qf C H locs cells slots ls h1 h2 hR hS hl)
theorem EV_isub {x x0 : Int32} (hd : decode y.2.1 pc = .ok (.isub, 1))  (kk : EV z k y (pc + 1) Lc (.int (x - x0) :: st) M n bc bs Q) : EV z k y pc Lc (.int x0 :: .int x :: st) M n bc bs Q := by
  intro p l e R s m args below meth c D cA b B tc ts Qf C H locs cells slots ls h1 h2 hR hS hl
  exact lv_isub C.1 C.2.1 hd (kk p l e R s m args below meth c D cA b B tc ts Qf C H locs cells slots ls h1 h2 hR hS hl)
theorem EV_imul {x x0 : Int32} (hd : decode y.2.1 pc = .ok (.imul, 1))  (kk : EV z k y (pc + 1) Lc (.int (x * x0) :: st) M n bc bs Q) : EV z k y pc Lc (.int x0 :: .int x :: st) M n bc bs Q := by
  intro p l e R s m args below meth c D cA b B tc ts Qf C H locs cells slots ls h1 h2 hR hS hl
  exact lv_imul C.1 C.2.1 hd (kk p l e R s m args below meth c D cA b B tc ts Qf C H locs cells slots ls h1 h2 hR hS hl)
theorem EV_idiv {x x0 : Int32} (hd : decode y.2.1 pc = .ok (.idiv, 1)) (hne : ¬ x0 = 0) (kk : EV z k y (pc + 1) Lc (.int (x / x0) :: st) M n bc bs Q) : EV z k y pc Lc (.int x0 :: .int x :: st) M n bc bs Q := by
  intro p l e R s m args below meth c D cA b B tc ts Qf C H locs cells slots ls h1 h2 hR hS hl
  exact lv_idiv C.1 C.2.1 hd hne (kk p l e R s m args below meth c D cA b B tc ts Qf C H locs cells slots ls h1 h2 hR hS hl)
theorem EV_irem {x x0 : Int32} (hd : decode y.2.1 pc = .ok (.irem, 1)) (hne : ¬ x0 = 0) (kk : EV z k y (pc + 1) Lc (.int (x - x / x0 * x0) :: st) M n bc bs Q) : EV z k y pc Lc (.int x0 :: .int x :: st) M n bc bs Q := by
  intro p l e R s m args below meth c D cA b B tc ts Qf C H locs cells slots ls h1 h2 hR hS hl
  exact lv_irem C.1 C.2.1 hd hne (kk p l e R s m args below meth c D cA b B tc ts Qf C H locs cells slots ls h1 h2 hR hS hl)
theorem EV_iand {x x0 : Int32} (hd : decode y.2.1 pc = .ok (.iand, 1))  (kk : EV z k y (pc + 1) Lc (.int (x &&& x0) :: st) M n bc bs Q) : EV z k y pc Lc (.int x0 :: .int x :: st) M n bc bs Q := by
  intro p l e R s m args below meth c D cA b B tc ts Qf C H locs cells slots ls h1 h2 hR hS hl
  exact lv_iand C.1 C.2.1 hd (kk p l e R s m args below meth c D cA b B tc ts Qf C H locs cells slots ls h1 h2 hR hS hl)
theorem EV_ishr {x x0 : Int32} (hd : decode y.2.1 pc = .ok (.ishr, 1))  (kk : EV z k y (pc + 1) Lc (.int (x >>> (x0 &&& 31)) :: st) M n bc bs Q) : EV z k y pc Lc (.int x0 :: .int x :: st) M n bc bs Q := by
  intro p l e R s m args below meth c D cA b B tc ts Qf C H locs cells slots ls h1 h2 hR hS hl
  exact lv_ishr C.1 C.2.1 hd (kk p l e R s m args below meth c D cA b B tc ts Qf C H locs cells slots ls h1 h2 hR hS hl)
theorem EV_ladd {x x0 : Int64} (hd : decode y.2.1 pc = .ok (.ladd, 1))  (kk : EV z k y (pc + 1) Lc (.long (x + x0) :: st) M n bc bs Q) : EV z k y pc Lc (.long x0 :: .long x :: st) M n bc bs Q := by
  intro p l e R s m args below meth c D cA b B tc ts Qf C H locs cells slots ls h1 h2 hR hS hl
  exact lv_ladd C.1 C.2.1 hd (kk p l e R s m args below meth c D cA b B tc ts Qf C H locs cells slots ls h1 h2 hR hS hl)
theorem EV_lmul {x x0 : Int64} (hd : decode y.2.1 pc = .ok (.lmul, 1))  (kk : EV z k y (pc + 1) Lc (.long (x * x0) :: st) M n bc bs Q) : EV z k y pc Lc (.long x0 :: .long x :: st) M n bc bs Q := by
  intro p l e R s m args below meth c D cA b B tc ts Qf C H locs cells slots ls h1 h2 hR hS hl
  exact lv_lmul C.1 C.2.1 hd (kk p l e R s m args below meth c D cA b B tc ts Qf C H locs cells slots ls h1 h2 hR hS hl)
theorem EV_dadd {x x0 : UInt64} (hd : decode y.2.1 pc = .ok (.dadd, 1)) (hne : vf_n64 (FP.dadd x x0)) (kk : EV z k y (pc + 1) Lc (.double (FP.dadd x x0) :: st) M n bc bs Q) : EV z k y pc Lc (.double x0 :: .double x :: st) M n bc bs Q := by
  intro p l e R s m args below meth c D cA b B tc ts Qf C H locs cells slots ls h1 h2 hR hS hl
  exact lv_dadd C.1 C.2.1 hd hne (kk p l e R s m args below meth c D cA b B tc ts Qf C H locs cells slots ls h1 h2 hR hS hl)
theorem EV_ddiv {x x0 : UInt64} (hd : decode y.2.1 pc = .ok (.ddiv, 1)) (hne : vf_n64 (FP.ddiv x x0)) (kk : EV z k y (pc + 1) Lc (.double (FP.ddiv x x0) :: st) M n bc bs Q) : EV z k y pc Lc (.double x0 :: .double x :: st) M n bc bs Q := by
  intro p l e R s m args below meth c D cA b B tc ts Qf C H locs cells slots ls h1 h2 hR hS hl
  exact lv_ddiv C.1 C.2.1 hd hne (kk p l e R s m args below meth c D cA b B tc ts Qf C H locs cells slots ls h1 h2 hR hS hl)
theorem EV_ineg {x : Int32} (hd : decode y.2.1 pc = .ok (.ineg, 1))  (kk : EV z k y (pc + 1) Lc (.int (-x) :: st) M n bc bs Q) : EV z k y pc Lc (.int x :: st) M n bc bs Q := by
  intro p l e R s m args below meth c D cA b B tc ts Qf C H locs cells slots ls h1 h2 hR hS hl
  exact lv_ineg C.1 C.2.1 hd (kk p l e R s m args below meth c D cA b B tc ts Qf C H locs cells slots ls h1 h2 hR hS hl)
theorem EV_i2l {x : Int32} (hd : decode y.2.1 pc = .ok (.i2l, 1))  (kk : EV z k y (pc + 1) Lc (.long x.toInt64 :: st) M n bc bs Q) : EV z k y pc Lc (.int x :: st) M n bc bs Q := by
  intro p l e R s m args below meth c D cA b B tc ts Qf C H locs cells slots ls h1 h2 hR hS hl
  exact lv_i2l C.1 C.2.1 hd rfl (kk p l e R s m args below meth c D cA b B tc ts Qf C H locs cells slots ls h1 h2 hR hS hl)
theorem EV_i2d {x : Int32} (hd : decode y.2.1 pc = .ok (.i2d, 1))  (kk : EV z k y (pc + 1) Lc (.double (FP.i2d x) :: st) M n bc bs Q) : EV z k y pc Lc (.int x :: st) M n bc bs Q := by
  intro p l e R s m args below meth c D cA b B tc ts Qf C H locs cells slots ls h1 h2 hR hS hl
  exact lv_i2d C.1 C.2.1 hd (kk p l e R s m args below meth c D cA b B tc ts Qf C H locs cells slots ls h1 h2 hR hS hl)
theorem EV_dcmp {x x0 : UInt64} {op : CmpOp} (hd : decode y.2.1 pc = .ok (.dcmp op, 1))  (kk : EV z k y (pc + 1) Lc (.int (Op.cmpValue (FP.dcmp x x0) op) :: st) M n bc bs Q) : EV z k y pc Lc (.double x0 :: .double x :: st) M n bc bs Q := by
  intro p l e R s m args below meth c D cA b B tc ts Qf C H locs cells slots ls h1 h2 hR hS hl
  exact lv_dcmp C.1 C.2.1 hd (kk p l e R s m args below meth c D cA b B tc ts Qf C H locs cells slots ls h1 h2 hR hS hl)
theorem EV_lcmp {x x0 : Int64} (hd : decode y.2.1 pc = .ok (.lcmp, 1))  (kk : EV z k y (pc + 1) Lc (.int (lg_cmp x x0) :: st) M n bc bs Q) : EV z k y pc Lc (.long x0 :: .long x :: st) M n bc bs Q := by
  intro p l e R s m args below meth c D cA b B tc ts Qf C H locs cells slots ls h1 h2 hR hS hl
  exact W.lcmp C.1 C.2.1 hd (kk p l e R s m args below meth c D cA b B tc ts Qf C H locs cells slots ls h1 h2 hR hS hl)
theorem EV_iconst {i : Int} {v : Int32} (hd : decode y.2.1 pc = .ok (.iconst i, 1)) (hv : Int32.ofInt i = v) (kk : EV z k y (pc + 1) Lc (.int v :: st) M n bc bs Q) : EV z k y pc Lc st M n bc bs Q := by
  intro p l e R s m args below meth c D cA b B tc ts Qf C H locs cells slots ls h1 h2 hR hS hl
  exact lv_iconst C.1 C.2.1 hd hv (kk p l e R s m args below meth c D cA b B tc ts Qf C H locs cells slots ls h1 h2 hR hS hl)
theorem EV_bipush {i : Int} {v : Int32} (hd : decode y.2.1 pc = .ok (.bipush i, 2)) (hv : (Int8.ofInt i).toInt32 = v) (kk : EV z k y (pc + 2) Lc (.int v :: st) M n bc bs Q) : EV z k y pc Lc st M n bc bs Q := by
  intro p l e R s m args below meth c D cA b B tc ts Qf C H locs cells slots ls h1 h2 hR hS hl
  exact lv_bipush C.1 C.2.1 hd hv (kk p l e R s m args below meth c D cA b B tc ts Qf C H locs cells slots ls h1 h2 hR hS hl)
theorem EV_sipush {i : Int} {v : Int32} (hd : decode y.2.1 pc = .ok (.sipush i, 3)) (hv : (Int16.ofInt i).toInt32 = v) (kk : EV z k y (pc + 3) Lc (.int v :: st) M n bc bs Q) : EV z k y pc Lc st M n bc bs Q := by
  intro p l e R s m args below meth c D cA b B tc ts Qf C H locs cells slots ls h1 h2 hR hS hl
  exact lv_sipush C.1 C.2.1 hd hv (kk p l e R s m args below meth c D cA b B tc ts Qf C H locs cells slots ls h1 h2 hR hS hl)
theorem EV_dconst0  (hd : decode y.2.1 pc = .ok (.dconst 0, 1))  (kk : EV z k y (pc + 1) Lc (.double FP.dconst0 :: st) M n bc bs Q) : EV z k y pc Lc st M n bc bs Q := by
  intro p l e R s m args below meth c D cA b B tc ts Qf C H locs cells slots ls h1 h2 hR hS hl
  exact lv_dconst0 C.1 C.2.1 hd (kk p l e R s m args below meth c D cA b B tc ts Qf C H locs cells slots ls h1 h2 hR hS hl)
theorem EV_dconst1  (hd : decode y.2.1 pc = .ok (.dconst 1, 1))  (kk : EV z k y (pc + 1) Lc (.double FP.dconst1 :: st) M n bc bs Q) : EV z k y pc Lc st M n bc bs Q := by
  intro p l e R s m args below meth c D cA b B tc ts Qf C H locs cells slots ls h1 h2 hR hS hl
  exact lv_dconst1 C.1 C.2.1 hd (kk p l e R s m args below meth c D cA b B tc ts Qf C H locs cells slots ls h1 h2 hR hS hl)
theorem EV_ldc {i : Nat} {v : Int32} (hd : decode y.2.1 pc = .ok (.ldc i, 2)) (hw : Cond.constant y.1.cls i v ∈ qTBL) (kk : EV z k y (pc + 2) Lc (.int v :: st) M n bc bs Q) : EV z k y pc Lc st M n bc bs Q := by
  intro p l e R s m args below meth c D cA b B tc ts Qf C H locs cells slots ls h1 h2 hR hS hl
  exact lv_ldc C.1 C.2.1 C.2.2.2.1 (C.2.2.2.2.2.1 _ hw) hd (kk p l e R s m args below meth c D cA b B tc ts Qf C H locs cells slots ls h1 h2 hR hS hl)
theorem EV_ldcw {i : Nat} {v : Int32} (hd : decode y.2.1 pc = .ok (.ldc_w i, 3)) (hw : Cond.constant y.1.cls i v ∈ qTBL) (kk : EV z k y (pc + 3) Lc (.int v :: st) M n bc bs Q) : EV z k y pc Lc st M n bc bs Q := by
  intro p l e R s m args below meth c D cA b B tc ts Qf C H locs cells slots ls h1 h2 hR hS hl
  exact lv_ldcw C.1 C.2.1 C.2.2.2.1 (C.2.2.2.2.2.1 _ hw) hd (kk p l e R s m args below meth c D cA b B tc ts Qf C H locs cells slots ls h1 h2 hR hS hl)
theorem EV_ldc2 {i : Nat} {v : Int64} (hd : decode y.2.1 pc = .ok (.ldc2_w i, 3)) (hw : Cond.constantLong y.1.cls i v ∈ qTBL) (kk : EV z k y (pc + 3) Lc (.long v :: st) M n bc bs Q) : EV z k y pc Lc st M n bc bs Q := by
  intro p l e R s m args below meth c D cA b B tc ts Qf C H locs cells slots ls h1 h2 hR hS hl
  exact lv_ldc2 C.1 C.2.1 C.2.2.2.1 (C.2.2.2.2.2.1 _ hw) hd (kk p l e R s m args below meth c D cA b B tc ts Qf C H locs cells slots ls h1 h2 hR hS hl)
theorem EV_iload_n {i : Fin 4} {x : Int32} (hd : decode y.2.1 pc = .ok (.iload_n i, 1)) (hL : Lc[(i : Nat)]? = some (.int x)) (kk : EV z k y (pc + 1) Lc (.int x :: st) M n bc bs Q) : EV z k y pc Lc st M n bc bs Q := by
  intro p l e R s m args below meth c D cA b B tc ts Qf C H locs cells slots ls h1 h2 hR hS hl
  exact lv_iload_n C.1 C.2.1 hd rfl (qls_at hl hL (by intro h; cases h)) (kk p l e R s m args below meth c D cA b B tc ts Qf C H locs cells slots ls h1 h2 hR hS hl)
theorem EV_iload {i : Nat} {x : Int32} (hd : decode y.2.1 pc = .ok (.iload i, 2)) (hL : Lc[i]? = some (.int x)) (kk : EV z k y (pc + 2) Lc (.int x :: st) M n bc bs Q) : EV z k y pc Lc st M n bc bs Q := by
  intro p l e R s m args below meth c D cA b B tc ts Qf C H locs cells slots ls h1 h2 hR hS hl
  exact lv_iload C.1 C.2.1 hd (qls_at hl hL (by intro h; cases h)) (kk p l e R s m args below meth c D cA b B tc ts Qf C H locs cells slots ls h1 h2 hR hS hl)
theorem EV_lload_n {i : Fin 4} {x : Int64} (hd : decode y.2.1 pc = .ok (.lload_n i, 1)) (hL : Lc[(i : Nat)]? = some (.long x)) (kk : EV z k y (pc + 1) Lc (.long x :: st) M n bc bs Q) : EV z k y pc Lc st M n bc bs Q := by
  intro p l e R s m args below meth c D cA b B tc ts Qf C H locs cells slots ls h1 h2 hR hS hl
  exact lv_lload_n C.1 C.2.1 hd rfl (qls_at hl hL (by intro h; cases h)) (kk p l e R s m args below meth c D cA b B tc ts Qf C H locs cells slots ls h1 h2 hR hS hl)
theorem EV_lload {i : Nat} {x : Int64} (hd : decode y.2.1 pc = .ok (.lload i, 2)) (hL : Lc[i]? = some (.long x)) (kk : EV z k y (pc + 2) Lc (.long x :: st) M n bc bs Q) : EV z k y pc Lc st M n bc bs Q := by
  intro p l e R s m args below meth c D cA b B tc ts Qf C H locs cells slots ls h1 h2 hR hS hl
  exact lv_lload C.1 C.2.1 hd (qls_at hl hL (by intro h; cases h)) (kk p l e R s m args below meth c D cA b B tc ts Qf C H locs cells slots ls h1 h2 hR hS hl)
theorem EV_aload_n {i : Fin 4} {x : Nat} (hd : decode y.2.1 pc = .ok (.aload_n i, 1)) (hL : Lc[(i : Nat)]? = some (.ref x)) (kk : EV z k y (pc + 1) Lc (.ref x :: st) M n bc bs Q) : EV z k y pc Lc st M n bc bs Q := by
  intro p l e R s m args below meth c D cA b B tc ts Qf C H locs cells slots ls h1 h2 hR hS hl
  exact lv_aload_n C.1 C.2.1 hd rfl (qls_at hl hL (by intro h; cases h)) (kk p l e R s m args below meth c D cA b B tc ts Qf C H locs cells slots ls h1 h2 hR hS hl)
theorem EV_aload {i : Nat} {x : Nat} (hd : decode y.2.1 pc = .ok (.aload i, 2)) (hL : Lc[i]? = some (.ref x)) (kk : EV z k y (pc + 2) Lc (.ref x :: st) M n bc bs Q) : EV z k y pc Lc st M n bc bs Q := by
  intro p l e R s m args below meth c D cA b B tc ts Qf C H locs cells slots ls h1 h2 hR hS hl
  exact lv_aload C.1 C.2.1 hd (qls_at hl hL (by intro h; cases h)) (kk p l e R s m args below meth c D cA b B tc ts Qf C H locs cells slots ls h1 h2 hR hS hl)
theorem EV_dload_n {i : Fin 4} {x : UInt64} (hd : decode y.2.1 pc = .ok (.dload_n i, 1)) (hL : Lc[(i : Nat)]? = some (.double x)) (kk : EV z k y (pc + 1) Lc (.double x :: st) M n bc bs Q) : EV z k y pc Lc st M n bc bs Q := by
  intro p l e R s m args below meth c D cA b B tc ts Qf C H locs cells slots ls h1 h2 hR hS hl
  exact lv_dload_n C.1 C.2.1 hd rfl (qls_at hl hL (by intro h; cases h)) (kk p l e R s m args below meth c D cA b B tc ts Qf C H locs cells slots ls h1 h2 hR hS hl)
theorem EV_dload {i : Nat} {x : UInt64} (hd : decode y.2.1 pc = .ok (.dload i, 2)) (hL : Lc[i]? = some (.double x)) (kk : EV z k y (pc + 2) Lc (.double x :: st) M n bc bs Q) : EV z k y pc Lc st M n bc bs Q := by
  intro p l e R s m args below meth c D cA b B tc ts Qf C H locs cells slots ls h1 h2 hR hS hl
  exact lv_dload C.1 C.2.1 hd (qls_at hl hL (by intro h; cases h)) (kk p l e R s m args below meth c D cA b B tc ts Qf C H locs cells slots ls h1 h2 hR hS hl)
theorem EV_dup {v : Value} (hd : decode y.2.1 pc = .ok (.dup, 1)) (hv : v.category = 1) (kk : EV z k y (pc + 1) Lc (v :: v :: st) M n bc bs Q) : EV z k y pc Lc (v :: st) M n bc bs Q := by
  intro p l e R s m args below meth c D cA b B tc ts Qf C H locs cells slots ls h1 h2 hR hS hl
  exact lv_dup C.1 C.2.1 hd ((qcat _ v).trans hv) (kk p l e R s m args below meth c D cA b B tc ts Qf C H locs cells slots ls h1 h2 hR hS hl)
theorem EV_pop {v : Value} (hd : decode y.2.1 pc = .ok (.pop, 1)) (hv : v.category = 1) (kk : EV z k y (pc + 1) Lc st M n bc bs Q) : EV z k y pc Lc (v :: st) M n bc bs Q := by
  intro p l e R s m args below meth c D cA b B tc ts Qf C H locs cells slots ls h1 h2 hR hS hl
  exact lv_pop C.1 C.2.1 hd ((qcat _ v).trans hv) (kk p l e R s m args below meth c D cA b B tc ts Qf C H locs cells slots ls h1 h2 hR hS hl)
theorem EV_dup_x1 {v v0 : Value} (hd : decode y.2.1 pc = .ok (.dup_x1, 1)) (hv : v.category = 1) (hv0 : v0.category = 1) (kk : EV z k y (pc + 1) Lc (v :: v0 :: v :: st) M n bc bs Q) : EV z k y pc Lc (v :: v0 :: st) M n bc bs Q := by
  intro p l e R s m args below meth c D cA b B tc ts Qf C H locs cells slots ls h1 h2 hR hS hl
  exact lv_dup_x1 C.1 C.2.1 hd ((qcat _ v).trans hv) ((qcat _ v0).trans hv0) (kk p l e R s m args below meth c D cA b B tc ts Qf C H locs cells slots ls h1 h2 hR hS hl)
theorem EV_dup2 {v v0 : Value} (hd : decode y.2.1 pc = .ok (.dup2, 1)) (hv : v.category = 1) (hv0 : v0.category = 1) (kk : EV z k y (pc + 1) Lc (v :: v0 :: v :: v0 :: st) M n bc bs Q) : EV z k y pc Lc (v :: v0 :: st) M n bc bs Q := by
  intro p l e R s m args below meth c D cA b B tc ts Qf C H locs cells slots ls h1 h2 hR hS hl
  exact lv_dup2_11 C.1 C.2.1 hd ((qcat _ v).trans hv) ((qcat _ v0).trans hv0) (kk p l e R s m args below meth c D cA b B tc ts Qf C H locs cells slots ls h1 h2 hR hS hl)
theorem EV_istore_n {i : Fin 4} {x : Int32} (hd : decode y.2.1 pc = .ok (.istore_n i, 1)) (hi : (i : Nat) < Lc.length) (hn : (i : Nat) < y.2.2.1) (ho : qok1 Lc (i : Nat) = true) (kk : EV z k y (pc + 1) (Lc.set (i : Nat) (.int x)) st M n bc bs Q) : EV z k y pc Lc (.int x :: st) M n bc bs Q := by
  intro p l e R s m args below meth c D cA b B tc ts Qf C H locs cells slots ls h1 h2 hR hS hl
  refine lv_istore_n C.1 C.2.1 hd rfl hl hn rfl (fun ls9 hl9 => ?_)
  exact kk p l e R s m args below meth c D cA b B tc ts Qf C H locs cells slots ls9 h1 h2 hR hS (qll_put (w := .int x) ho (qset_of hi) (fun q hq => by
    rcases hq with rfl | ⟨g1, g2, g3⟩
    · exact List.mem_cons_self
    · refine List.mem_cons_of_mem _ (List.mem_filter.mpr ⟨g1, ?_⟩)
      simp only [Bool.and_eq_true, Bool.not_eq_true', beq_eq_false_iff_ne, Bool.and_eq_false_iff]
      refine ⟨g2, ?_⟩
      by_cases h7 : q.1 + 1 = (i : Nat)
      · right
        intro h8
        exact g3 ⟨h7, h8⟩
      · left
        exact h7) hl9)
theorem EV_istore {i : Nat} {x : Int32} (hd : decode y.2.1 pc = .ok (.istore i, 2)) (hi : i < Lc.length) (hn : i < y.2.2.1) (ho : qok1 Lc i = true) (kk : EV z k y (pc + 2) (Lc.set i (.int x)) st M n bc bs Q) : EV z k y pc Lc (.int x :: st) M n bc bs Q := by
  intro p l e R s m args below meth c D cA b B tc ts Qf C H locs cells slots ls h1 h2 hR hS hl
  refine lv_istore C.1 C.2.1 hd hl hn rfl (fun ls9 hl9 => ?_)
  exact kk p l e R s m args below meth c D cA b B tc ts Qf C H locs cells slots ls9 h1 h2 hR hS (qll_put (w := .int x) ho (qset_of hi) (fun q hq => by
    rcases hq with rfl | ⟨g1, g2, g3⟩
    · exact List.mem_cons_self
    · refine List.mem_cons_of_mem _ (List.mem_filter.mpr ⟨g1, ?_⟩)
      simp only [Bool.and_eq_true, Bool.not_eq_true', beq_eq_false_iff_ne, Bool.and_eq_false_iff]
      refine ⟨g2, ?_⟩
      by_cases h7 : q.1 + 1 = i
      · right
        intro h8
        exact g3 ⟨h7, h8⟩
      · left
        exact h7) hl9)
theorem EV_astore_n {i : Fin 4} {x : Nat} (hd : decode y.2.1 pc = .ok (.astore_n i, 1)) (hi : (i : Nat) < Lc.length) (hn : (i : Nat) < y.2.2.1) (ho : qok1 Lc (i : Nat) = true) (kk : EV z k y (pc + 1) (Lc.set (i : Nat) (.ref x)) st M n bc bs Q) : EV z k y pc Lc (.ref x :: st) M n bc bs Q := by
  intro p l e R s m args below meth c D cA b B tc ts Qf C H locs cells slots ls h1 h2 hR hS hl
  refine lv_astore_n C.1 C.2.1 hd rfl hl hn rfl (fun ls9 hl9 => ?_)
  exact kk p l e R s m args below meth c D cA b B tc ts Qf C H locs cells slots ls9 h1 h2 hR hS (qll_put (w := .ref x) ho (qset_of hi) (fun q hq => by
    rcases hq with rfl | ⟨g1, g2, g3⟩
    · exact List.mem_cons_self
    · refine List.mem_cons_of_mem _ (List.mem_filter.mpr ⟨g1, ?_⟩)
      simp only [Bool.and_eq_true, Bool.not_eq_true', beq_eq_false_iff_ne, Bool.and_eq_false_iff]
      refine ⟨g2, ?_⟩
      by_cases h7 : q.1 + 1 = (i : Nat)
      · right
        intro h8
        exact g3 ⟨h7, h8⟩
      · left
        exact h7) hl9)
theorem EV_astore {i : Nat} {x : Nat} (hd : decode y.2.1 pc = .ok (.astore i, 2)) (hi : i < Lc.length) (hn : i < y.2.2.1) (ho : qok1 Lc i = true) (kk : EV z k y (pc + 2) (Lc.set i (.ref x)) st M n bc bs Q) : EV z k y pc Lc (.ref x :: st) M n bc bs Q := by
  intro p l e R s m args below meth c D cA b B tc ts Qf C H locs cells slots ls h1 h2 hR hS hl
  refine lv_astore C.1 C.2.1 hd hl hn rfl (fun ls9 hl9 => ?_)
  exact kk p l e R s m args below meth c D cA b B tc ts Qf C H locs cells slots ls9 h1 h2 hR hS (qll_put (w := .ref x) ho (qset_of hi) (fun q hq => by
    rcases hq with rfl | ⟨g1, g2, g3⟩
    · exact List.mem_cons_self
    · refine List.mem_cons_of_mem _ (List.mem_filter.mpr ⟨g1, ?_⟩)
      simp only [Bool.and_eq_true, Bool.not_eq_true', beq_eq_false_iff_ne, Bool.and_eq_false_iff]
      refine ⟨g2, ?_⟩
      by_cases h7 : q.1 + 1 = i
      · right
        intro h8
        exact g3 ⟨h7, h8⟩
      · left
        exact h7) hl9)
theorem EV_lstore_n {i : Fin 4} {x : Int64} (hd : decode y.2.1 pc = .ok (.lstore_n i, 1)) (hi : (i : Nat) < Lc.length) (hn : (i : Nat) + 1 < y.2.2.1) (ho : qok1 Lc (i : Nat) = true) (kk : EV z k y (pc + 1) ((Lc.set (i : Nat) (.long x)).set ((i : Nat) + 1) .null) st M n bc bs Q) : EV z k y pc Lc (.long x :: st) M n bc bs Q := by
  intro p l e R s m args below meth c D cA b B tc ts Qf C H locs cells slots ls h1 h2 hR hS hl
  refine lv_lstore_n C.1 C.2.1 hd rfl hl hn rfl (fun ls9 hl9 => ?_)
  exact kk p l e R s m args below meth c D cA b B tc ts Qf C H locs cells slots ls9 h1 h2 hR hS (qll_put2 (w := .long x) ho hi (fun q hq => by
    rcases hq with rfl | ⟨g1, g2, g4, g3⟩
    · exact List.mem_cons_self
    · refine List.mem_cons_of_mem _ (List.mem_filter.mpr ⟨g1, ?_⟩)
      simp only [Bool.and_eq_true, Bool.not_eq_true', beq_eq_false_iff_ne, Bool.and_eq_false_iff]
      refine ⟨g2, g4, ?_⟩
      by_cases h7 : q.1 + 1 = (i : Nat)
      · right
        intro h8
        exact g3 ⟨h7, h8⟩
      · left
        exact h7) hl9)
theorem EV_lstore {i : Nat} {x : Int64} (hd : decode y.2.1 pc = .ok (.lstore i, 2)) (hi : i < Lc.length) (hn : i + 1 < y.2.2.1) (ho : qok1 Lc i = true) (kk : EV z k y (pc + 2) ((Lc.set i (.long x)).set (i + 1) .null) st M n bc bs Q) : EV z k y pc Lc (.long x :: st) M n bc bs Q := by
  intro p l e R s m args below meth c D cA b B tc ts Qf C H locs cells slots ls h1 h2 hR hS hl
  refine lv_lstore C.1 C.2.1 hd hl hn rfl (fun ls9 hl9 => ?_)
  exact kk p l e R s m args below meth c D cA b B tc ts Qf C H locs cells slots ls9 h1 h2 hR hS (qll_put2 (w := .long x) ho hi (fun q hq => by
    rcases hq with rfl | ⟨g1, g2, g4, g3⟩
    · exact List.mem_cons_self
    · refine List.mem_cons_of_mem _ (List.mem_filter.mpr ⟨g1, ?_⟩)
      simp only [Bool.and_eq_true, Bool.not_eq_true', beq_eq_false_iff_ne, Bool.and_eq_false_iff]
      refine ⟨g2, g4, ?_⟩
      by_cases h7 : q.1 + 1 = i
      · right
        intro h8
        exact g3 ⟨h7, h8⟩
      · left
        exact h7) hl9)
theorem EV_dstore_n {i : Fin 4} {x : UInt64} (hd : decode y.2.1 pc = .ok (.dstore_n i, 1)) (hi : (i : Nat) < Lc.length) (hn : (i : Nat) + 1 < y.2.2.1) (ho : qok1 Lc (i : Nat) = true) (kk : EV z k y (pc + 1) ((Lc.set (i : Nat) (.double x)).set ((i : Nat) + 1) .null) st M n bc bs Q) : EV z k y pc Lc (.double x :: st) M n bc bs Q := by
  intro p l e R s m args below meth c D cA b B tc ts Qf C H locs cells slots ls h1 h2 hR hS hl
  refine lv_dstore_n C.1 C.2.1 hd rfl hl hn rfl (fun ls9 hl9 => ?_)
  exact kk p l e R s m args below meth c D cA b B tc ts Qf C H locs cells slots ls9 h1 h2 hR hS (qll_put2 (w := .double x) ho hi (fun q hq => by
    rcases hq with rfl | ⟨g1, g2, g4, g3⟩
    · exact List.mem_cons_self
    · refine List.mem_cons_of_mem _ (List.mem_filter.mpr ⟨g1, ?_⟩)
      simp only [Bool.and_eq_true, Bool.not_eq_true', beq_eq_false_iff_ne, Bool.and_eq_false_iff]
      refine ⟨g2, g4, ?_⟩
      by_cases h7 : q.1 + 1 = (i : Nat)
      · right
        intro h8
        exact g3 ⟨h7, h8⟩
      · left
        exact h7) hl9)
theorem EV_dstore {i : Nat} {x : UInt64} (hd : decode y.2.1 pc = .ok (.dstore i, 2)) (hi : i < Lc.length) (hn : i + 1 < y.2.2.1) (ho : qok1 Lc i = true) (kk : EV z k y (pc + 2) ((Lc.set i (.double x)).set (i + 1) .null) st M n bc bs Q) : EV z k y pc Lc (.double x :: st) M n bc bs Q := by
  intro p l e R s m args below meth c D cA b B tc ts Qf C H locs cells slots ls h1 h2 hR hS hl
  refine lv_dstore C.1 C.2.1 hd hl hn rfl (fun ls9 hl9 => ?_)
  exact kk p l e R s m args below meth c D cA b B tc ts Qf C H locs cells slots ls9 h1 h2 hR hS (qll_put2 (w := .double x) ho hi (fun q hq => by
    rcases hq with rfl | ⟨g1, g2, g4, g3⟩
    · exact List.mem_cons_self
    · refine List.mem_cons_of_mem _ (List.mem_filter.mpr ⟨g1, ?_⟩)
      simp only [Bool.and_eq_true, Bool.not_eq_true', beq_eq_false_iff_ne, Bool.and_eq_false_iff]
      refine ⟨g2, g4, ?_⟩
      by_cases h7 : q.1 + 1 = i
      · right
        intro h8
        exact g3 ⟨h7, h8⟩
      · left
        exact h7) hl9)
theorem EV_iinc {i : Nat} {j : Int} {x : Int32} (hd : decode y.2.1 pc = .ok (.iinc i j, 3)) (hL : Lc[i]? = some (.int x)) (hn : i < y.2.2.1) (ho : qok1 Lc i = true) (kk : EV z k y (pc + 3) (Lc.set i (.int (x + Int32.ofInt j))) st M n bc bs Q) : EV z k y pc Lc st M n bc bs Q := by
  intro p l e R s m args below meth c D cA b B tc ts Qf C H locs cells slots ls h1 h2 hR hS hl
  have hi : i < Lc.length := (List.getElem?_eq_some_iff.mp hL).1
  have hm := qll_mem (qad b B) Lc 0 i (.int x) hL (by intro h; cases h)
  rw [Nat.zero_add] at hm
  obtain ⟨k9, hk9⟩ := List.getElem?_of_mem hm
  refine lv_iinc C.1 C.2.1 hd hl hk9 rfl hn rfl (fun ls9 hl9 => ?_)
  exact kk p l e R s m args below meth c D cA b B tc ts Qf C H locs cells slots ls9 h1 h2 hR hS (qll_put (w := .int (x + Int32.ofInt j)) ho (qset_of hi) (fun q hq => by
    rcases hq with rfl | ⟨g1, g2, g3⟩
    · exact List.mem_cons_self
    · refine List.mem_cons_of_mem _ (List.mem_filter.mpr ⟨g1, ?_⟩)
      simp only [Bool.and_eq_true, Bool.not_eq_true', beq_eq_false_iff_ne, Bool.and_eq_false_iff]
      refine ⟨g2, ?_⟩
      by_cases h7 : q.1 + 1 = i
      · right
        intro h8
        exact g3 ⟨h7, h8⟩
      · left
        exact h7) hl9)
theorem EV_goto {off : Int} (tgt : Nat) (hd : decode y.2.1 pc = .ok (.goto off, 3)) (ht : (pc : Int) + off = (tgt : Int)) (kk : EV z k y tgt Lc st M n bc bs Q) : EV z k y pc Lc st M n bc bs Q := by
  intro p l e R s m args below meth c D cA b B tc ts Qf C H locs cells slots ls h1 h2 hR hS hl
  exact lv_goto C.1 C.2.1 hd ht (kk p l e R s m args below meth c D cA b B tc ts Qf C H locs cells slots ls h1 h2 hR hS hl)
theorem EV_if_eq {x : Int32} {off : Int} (tgt : Nat) (hd : decode y.2.1 pc = .ok (.ifCond .eq off, 3)) (ht : (pc : Int) + off = (tgt : Int)) (kt : x = 0 → EV z k y tgt Lc st M n bc bs Q) (kf : ¬ x = 0 → EV z k y (pc + 3) Lc st M n bc bs Q) : EV z k y pc Lc (.int x :: st) M n bc bs Q := by
  intro p l e R s m args below meth c D cA b B tc ts Qf C H locs cells slots ls h1 h2 hR hS hl
  exact lv_if_eq C.1 C.2.1 hd ht (fun h9 => (kt h9 p l e R s m args below meth c D cA b B tc ts Qf C H locs cells slots ls h1 h2 hR hS hl)) (fun h9 => (kf h9 p l e R s m args below meth c D cA b B tc ts Qf C H locs cells slots ls h1 h2 hR hS hl))
theorem EV_icmp_eq {x x0 : Int32} {off : Int} (tgt : Nat) (hd : decode y.2.1 pc = .ok (.if_icmp .eq off, 3)) (ht : (pc : Int) + off = (tgt : Int)) (kt : x = x0 → EV z k y tgt Lc st M n bc bs Q) (kf : ¬ x = x0 → EV z k y (pc + 3) Lc st M n bc bs Q) : EV z k y pc Lc (.int x0 :: .int x :: st) M n bc bs Q := by
  intro p l e R s m args below meth c D cA b B tc ts Qf C H locs cells slots ls h1 h2 hR hS hl
  exact lv_icmp_eq C.1 C.2.1 hd ht (fun h9 => (kt h9 p l e R s m args below meth c D cA b B tc ts Qf C H locs cells slots ls h1 h2 hR hS hl)) (fun h9 => (kf h9 p l e R s m args below meth c D cA b B tc ts Qf C H locs cells slots ls h1 h2 hR hS hl))
theorem EV_if_ne {x : Int32} {off : Int} (tgt : Nat) (hd : decode y.2.1 pc = .ok (.ifCond .ne off, 3)) (ht : (pc : Int) + off = (tgt : Int)) (kt : ¬ x = 0 → EV z k y tgt Lc st M n bc bs Q) (kf : x = 0 → EV z k y (pc + 3) Lc st M n bc bs Q) : EV z k y pc Lc (.int x :: st) M n bc bs Q := by
  intro p l e R s m args below meth c D cA b B tc ts Qf C H locs cells slots ls h1 h2 hR hS hl
  exact lv_if_ne C.1 C.2.1 hd ht (fun h9 => (kt h9 p l e R s m args below meth c D cA b B tc ts Qf C H locs cells slots ls h1 h2 hR hS hl)) (fun h9 => (kf h9 p l e R s m args below meth c D cA b B tc ts Qf C H locs cells slots ls h1 h2 hR hS hl))
theorem EV_icmp_ne {x x0 : Int32} {off : Int} (tgt : Nat) (hd : decode y.2.1 pc = .ok (.if_icmp .ne off, 3)) (ht : (pc : Int) + off = (tgt : Int)) (kt : ¬ x = x0 → EV z k y tgt Lc st M n bc bs Q) (kf : x = x0 → EV z k y (pc + 3) Lc st M n bc bs Q) : EV z k y pc Lc (.int x0 :: .int x :: st) M n bc bs Q := by
  intro p l e R s m args below meth c D cA b B tc ts Qf C H locs cells slots ls h1 h2 hR hS hl
  exact lv_icmp_ne C.1 C.2.1 hd ht (fun h9 => (kt h9 p l e R s m args below meth c D cA b B tc ts Qf C H locs cells slots ls h1 h2 hR hS hl)) (fun h9 => (kf h9 p l e R s m args below meth c D cA b B tc ts Qf C H locs cells slots ls h1 h2 hR hS hl))
theorem EV_if_lt {x : Int32} {off : Int} (tgt : Nat) (hd : decode y.2.1 pc = .ok (.ifCond .lt off, 3)) (ht : (pc : Int) + off = (tgt : Int)) (kt : x < 0 → EV z k y tgt Lc st M n bc bs Q) (kf : ¬ x < 0 → EV z k y (pc + 3) Lc st M n bc bs Q) : EV z k y pc Lc (.int x :: st) M n bc bs Q := by
  intro p l e R s m args below meth c D cA b B tc ts Qf C H locs cells slots ls h1 h2 hR hS hl
  exact lv_if_lt C.1 C.2.1 hd ht (fun h9 => (kt h9 p l e R s m args below meth c D cA b B tc ts Qf C H locs cells slots ls h1 h2 hR hS hl)) (fun h9 => (kf h9 p l e R s m args below meth c D cA b B tc ts Qf C H locs cells slots ls h1 h2 hR hS hl))
theorem EV_icmp_lt {x x0 : Int32} {off : Int} (tgt : Nat) (hd : decode y.2.1 pc = .ok (.if_icmp .lt off, 3)) (ht : (pc : Int) + off = (tgt : Int)) (kt : x < x0 → EV z k y tgt Lc st M n bc bs Q) (kf : ¬ x < x0 → EV z k y (pc + 3) Lc st M n bc bs Q) : EV z k y pc Lc (.int x0 :: .int x :: st) M n bc bs Q := by
  intro p l e R s m args below meth c D cA b B tc ts Qf C H locs cells slots ls h1 h2 hR hS hl
  exact lv_icmp_lt C.1 C.2.1 hd ht (fun h9 => (kt h9 p l e R s m args below meth c D cA b B tc ts Qf C H locs cells slots ls h1 h2 hR hS hl)) (fun h9 => (kf h9 p l e R s m args below meth c D cA b B tc ts Qf C H locs cells slots ls h1 h2 hR hS hl))
theorem EV_if_ge {x : Int32} {off : Int} (tgt : Nat) (hd : decode y.2.1 pc = .ok (.ifCond .ge off, 3)) (ht : (pc : Int) + off = (tgt : Int)) (kt : 0 ≤ x → EV z k y tgt Lc st M n bc bs Q) (kf : ¬ 0 ≤ x → EV z k y (pc + 3) Lc st M n bc bs Q) : EV z k y pc Lc (.int x :: st) M n bc bs Q := by
  intro p l e R s m args below meth c D cA b B tc ts Qf C H locs cells slots ls h1 h2 hR hS hl
  exact lv_if_ge C.1 C.2.1 hd ht (fun h9 => (kt h9 p l e R s m args below meth c D cA b B tc ts Qf C H locs cells slots ls h1 h2 hR hS hl)) (fun h9 => (kf h9 p l e R s m args below meth c D cA b B tc ts Qf C H locs cells slots ls h1 h2 hR hS hl))
theorem EV_icmp_ge {x x0 : Int32} {off : Int} (tgt : Nat) (hd : decode y.2.1 pc = .ok (.if_icmp .ge off, 3)) (ht : (pc : Int) + off = (tgt : Int)) (kt : x0 ≤ x → EV z k y tgt Lc st M n bc bs Q) (kf : ¬ x0 ≤ x → EV z k y (pc + 3) Lc st M n bc bs Q) : EV z k y pc Lc (.int x0 :: .int x :: st) M n bc bs Q := by
  intro p l e R s m args below meth c D cA b B tc ts Qf C H locs cells slots ls h1 h2 hR hS hl
  exact lv_icmp_ge C.1 C.2.1 hd ht (fun h9 => (kt h9 p l e R s m args below meth c D cA b B tc ts Qf C H locs cells slots ls h1 h2 hR hS hl)) (fun h9 => (kf h9 p l e R s m args below meth c D cA b B tc ts Qf C H locs cells slots ls h1 h2 hR hS hl))
theorem EV_if_gt {x : Int32} {off : Int} (tgt : Nat) (hd : decode y.2.1 pc = .ok (.ifCond .gt off, 3)) (ht : (pc : Int) + off = (tgt : Int)) (kt : 0 < x → EV z k y tgt Lc st M n bc bs Q) (kf : ¬ 0 < x → EV z k y (pc + 3) Lc st M n bc bs Q) : EV z k y pc Lc (.int x :: st) M n bc bs Q := by
  intro p l e R s m args below meth c D cA b B tc ts Qf C H locs cells slots ls h1 h2 hR hS hl
  exact lv_if_gt C.1 C.2.1 hd ht (fun h9 => (kt h9 p l e R s m args below meth c D cA b B tc ts Qf C H locs cells slots ls h1 h2 hR hS hl)) (fun h9 => (kf h9 p l e R s m args below meth c D cA b B tc ts Qf C H locs cells slots ls h1 h2 hR hS hl))
theorem EV_icmp_gt {x x0 : Int32} {off : Int} (tgt : Nat) (hd : decode y.2.1 pc = .ok (.if_icmp .gt off, 3)) (ht : (pc : Int) + off = (tgt : Int)) (kt : x0 < x → EV z k y tgt Lc st M n bc bs Q) (kf : ¬ x0 < x → EV z k y (pc + 3) Lc st M n bc bs Q) : EV z k y pc Lc (.int x0 :: .int x :: st) M n bc bs Q := by
  intro p l e R s m args below meth c D cA b B tc ts Qf C H locs cells slots ls h1 h2 hR hS hl
  exact lv_icmp_gt C.1 C.2.1 hd ht (fun h9 => (kt h9 p l e R s m args below meth c D cA b B tc ts Qf C H locs cells slots ls h1 h2 hR hS hl)) (fun h9 => (kf h9 p l e R s m args below meth c D cA b B tc ts Qf C H locs cells slots ls h1 h2 hR hS hl))
theorem EV_if_le {x : Int32} {off : Int} (tgt : Nat) (hd : decode y.2.1 pc = .ok (.ifCond .le off, 3)) (ht : (pc : Int) + off = (tgt : Int)) (kt : x ≤ 0 → EV z k y tgt Lc st M n bc bs Q) (kf : ¬ x ≤ 0 → EV z k y (pc + 3) Lc st M n bc bs Q) : EV z k y pc Lc (.int x :: st) M n bc bs Q := by
  intro p l e R s m args below meth c D cA b B tc ts Qf C H locs cells slots ls h1 h2 hR hS hl
  exact lv_if_le C.1 C.2.1 hd ht (fun h9 => (kt h9 p l e R s m args below meth c D cA b B tc ts Qf C H locs cells slots ls h1 h2 hR hS hl)) (fun h9 => (kf h9 p l e R s m args below meth c D cA b B tc ts Qf C H locs cells slots ls h1 h2 hR hS hl))
theorem EV_icmp_le {x x0 : Int32} {off : Int} (tgt : Nat) (hd : decode y.2.1 pc = .ok (.if_icmp .le off, 3)) (ht : (pc : Int) + off = (tgt : Int)) (kt : x ≤ x0 → EV z k y tgt Lc st M n bc bs Q) (kf : ¬ x ≤ x0 → EV z k y (pc + 3) Lc st M n bc bs Q) : EV z k y pc Lc (.int x0 :: .int x :: st) M n bc bs Q := by
  intro p l e R s m args below meth c D cA b B tc ts Qf C H locs cells slots ls h1 h2 hR hS hl
  exact lv_icmp_le C.1 C.2.1 hd ht (fun h9 => (kt h9 p l e R s m args below meth c D cA b B tc ts Qf C H locs cells slots ls h1 h2 hR hS hl)) (fun h9 => (kf h9 p l e R s m args below meth c D cA b B tc ts Qf C H locs cells slots ls h1 h2 hR hS hl))
theorem EV_tableOut {dflt lo hi : Int} {offs : Array Int} {len : Nat} {x : Int32} (tgt : Nat) (hd : decode y.2.1 pc = .ok (.tableswitch dflt lo hi offs, len)) (h9 : x.toInt < lo ∨ hi < x.toInt) (ht : (pc : Int) + dflt = (tgt : Int)) (kk : EV z k y tgt Lc st M n bc bs Q) : EV z k y pc Lc (.int x :: st) M n bc bs Q := by
  intro p l e R s m args below meth c D cA b B tc ts Qf C H locs cells slots ls h1 h2 hR hS hl
  exact lv_tableOut C.1 C.2.1 hd h9 ht (kk p l e R s m args below meth c D cA b B tc ts Qf C H locs cells slots ls h1 h2 hR hS hl)
theorem EV_tableIn {dflt lo hi off : Int} {offs : Array Int} {len : Nat} {x : Int32} (tgt : Nat) (hd : decode y.2.1 pc = .ok (.tableswitch dflt lo hi offs, len)) (h8 : ¬ x.toInt < lo) (h9 : ¬ hi < x.toInt) (ho : offs[(x.toInt - lo).toNat]? = some off) (ht : (pc : Int) + off = (tgt : Int)) (kk : EV z k y tgt Lc st M n bc bs Q) : EV z k y pc Lc (.int x :: st) M n bc bs Q := by
  intro p l e R s m args below meth c D cA b B tc ts Qf C H locs cells slots ls h1 h2 hR hS hl
  exact lv_tableIn C.1 C.2.1 hd h8 h9 ho ht (kk p l e R s m args below meth c D cA b B tc ts Qf C H locs cells slots ls h1 h2 hR hS hl)
theorem EV_iret {x : Int32} {ty : FieldType} (hd : decode y.2.1 pc = .ok (.ireturn, 1)) (hr : y.2.2.2 = some ty) (hn : narrow ty (.int x) = .int x) (hq : Q (some (.int x)) M n) : EV z k y pc Lc [.int x] M n bc bs Q := by
  intro p l e R s m args below meth c D cA b B tc ts Qf C H locs cells slots ls h1 h2 hR hS hl
  exact W.widen (by omega) (by omega) (C.2.2.2.2.2.2.2.2.2.2 (some (.int x)) M n H locs ls pc hq hR hS ⟨⟨ty, hr, hn⟩, hd⟩)
theorem EV_lret {x : Int64} (hd : decode y.2.1 pc = .ok (.lreturn, 1)) (hr : y.2.2.2 = some .long) (hq : Q (some (.long x)) M n) : EV z k y pc Lc [.long x] M n bc bs Q := by
  intro p l e R s m args below meth c D cA b B tc ts Qf C H locs cells slots ls h1 h2 hR hS hl
  exact W.widen (by omega) (by omega) (C.2.2.2.2.2.2.2.2.2.2 (some (.long x)) M n H locs ls pc hq hR hS ⟨hr, hd⟩)
theorem EV_dret {x : UInt64} (hd : decode y.2.1 pc = .ok (.dreturn, 1)) (hr : y.2.2.2 = some .double) (hq : Q (some (.double x)) M n) : EV z k y pc Lc [.double x] M n bc bs Q := by
  intro p l e R s m args below meth c D cA b B tc ts Qf C H locs cells slots ls h1 h2 hR hS hl
  exact W.widen (by omega) (by omega) (C.2.2.2.2.2.2.2.2.2.2 (some (.double x)) M n H locs ls pc hq hR hS ⟨hr, hd⟩)
theorem EV_vret  (hd : decode y.2.1 pc = .ok (.return_, 1)) (hr : y.2.2.2 = none) (hq : Q none M n) : EV z k y pc Lc [] M n bc bs Q := by
  intro p l e R s m args below meth c D cA b B tc ts Qf C H locs cells slots ls h1 h2 hR hS hl
  exact W.widen (by omega) (by omega) (C.2.2.2.2.2.2.2.2.2.2 none M n H locs ls pc hq hR hS ⟨hr, hd⟩)
end QRows
end
section
section QMem
variable {z : qZ} {k : Nat} {y : qY} {pc : Nat} {Lc st : List Value} {M : qM} {n bc bs : Nat} {Q : qQ}
/-- a class of the worlds: its words are in the tables, its fields' types, its names apart -/
def qcok (ci : Nat) : Prop := ∀ (C : String) (T : u_T) (N : Nat), vwCl[ci]? = some (C, T, N) →
  (∀ w ∈ u_ws C T N, w ∈ qTBL) ∧ (∃ ty0 : Nat → FieldType, ∀ j, j < N → parseFieldDescriptor (T j).2.2.1 = some (ty0 j)) ∧ (∀ a, a < N → ∀ b, b < N → a ≠ b → (T a).2.1 ≠ (T b).2.1)
/-- a field as the code of a class names it: class, place, type, final or not -/
def qLK (own : String) (idx ci j : Nat) (ty : FieldType) (fin : Bool) : Prop := ∃ (C : String) (T : u_T) (N : Nat), vwCl[ci]? = some (C, T, N) ∧ j < N ∧ parseFieldDescriptor (T j).2.2.1 = some ty ∧ (T j).2.2.2 = fin ∧ qcok ci ∧
  (Cond.fieldLink own idx (T j).1 (T j).2.1 (T j).2.2.1 ∈ qTBL ∨ ∃ host, Cond.fieldLinkNest own idx (T j).1 (T j).2.1 (T j).2.2.1 host ∈ qTBL)
theorem qw_here (f : Nat → Nat) (cA : Nat → ClassId) {r : Nat} (hr : 0 < r ∧ r ≤ n) {e : qE} (hM : M r = e) : (qw f cA M n)[r - 1]? = some (f r, qe f cA e) := by
  rw [qw_at f cA M (show r - 1 < n by omega), show r - 1 + 1 = r by omega, hM]
theorem qw_put (f : Nat → Nat) (cA : Nat → ClassId) {r : Nat} (hr : 0 < r ∧ r ≤ n) (e : qE) : (qw f cA M n).set (r - 1) (f r, qe f cA e) = qw f cA (qset M r e) n := by
  have h := qw_set f cA M e (show r - 1 < n by omega)
  rw [show r - 1 + 1 = r by omega] at h
  exact h
/-- a heap behind a store is as large as before -/
theorem qR.of {D : va_G} {cA : Nat → ClassId} {b B : Nat} {M M' : qM} {n : Nat} {H : Heap} (h : va_P D vwCl (qw (qad b B) cA M' n) H) (hz : H.size = B + n) : qR D cA b B M' n H := ⟨h, hz⟩
theorem EV_getf {idx ci j r : Nat} {ty : FieldType} {fin : Bool} {fs : List Value} {v : Value} (hd : decode y.2.1 pc = .ok (.getfield idx, 3)) (hl : qLK y.1.cls idx ci j ty fin) (hr : 0 < r ∧ r ≤ n) (hM : M r = .inr (ci, fs)) (hv : fs[j]? = some v)
    (kk : EV z k y (pc + 3) Lc (v :: st) M n bc bs Q) : EV z k y pc Lc (.ref r :: st) M n bc bs Q := by
  intro p l e R s m args below meth c D cA b B tc ts Qf C H locs cells slots ls h1 h2 hR hS hl9
  obtain ⟨Cn, T, N, hc, hj, hty, hfin, hco, hlk⟩ := hl
  have he := qw_here (qad b B) cA hr hM
  have hv' : (fs.map (qv (qad b B)))[j]? = some (qv (qad b B) v) := by rw [List.getElem?_map, hv]; rfl
  have K := kk p l e R s m args below meth c D cA b B tc ts Qf C H locs cells slots ls h1 h2 hR hS hl9
  rcases hlk with hw | ⟨host, hw⟩
  · exact va_get (D := D) (cl := vwCl) (ci := ci) C.1 C.2.1 C.2.2.2.2.2.1 ((hco Cn T N hc).1) C.2.2.2.1 C.2.2.2.2.2.2.1.1 hR.1 (r - 1) he hc j hj (C.2.2.2.2.2.1 _ hw) (fun _ h => h) hv' hd K
  · exact va_getN (D := D) (cl := vwCl) (ci := ci) C.1 C.2.1 C.2.2.2.2.2.1 ((hco Cn T N hc).1) C.2.2.2.1 C.2.2.2.2.2.2.1.1 hR.1 (r - 1) he hc j hj (C.2.2.2.2.2.1 _ hw) (fun _ h => h) hv' hd K
theorem EV_putf {idx ci j r : Nat} {ty : FieldType} {fs : List Value} {v : Value} (hd : decode y.2.1 pc = .ok (.putfield idx, 3)) (hl : qLK y.1.cls idx ci j ty false) (hr : 0 < r ∧ r ≤ n) (hM : M r = .inr (ci, fs)) (hj2 : j < fs.length)
    (hn : ∀ f : Nat → Nat, narrow ty (qv f v) = qv f v) (hf : ∀ f : Nat → Nat, fits ty (qv f v) = true)
    (kk : EV z k y (pc + 3) Lc st (qset M r (.inr (ci, fs.set j v))) n bc bs Q) : EV z k y pc Lc (v :: .ref r :: st) M n bc bs Q := by
  intro p l e R s m args below meth c D cA b B tc ts Qf C H locs cells slots ls h1 h2 hR hS hl9
  obtain ⟨Cn, T, N, hc, hj, hty, hfin, hco, hlk⟩ := hl
  obtain ⟨hin, ⟨ty0, hty0⟩, hnm⟩ := hco Cn T N hc
  have he := qw_here (qad b B) cA hr hM
  have hD := qw_D b B C.2.2.2.2.2.2.2.2.1.1 cA M n
  have hset : (qw (qad b B) cA M n).set (r - 1) (qad b B r, .inr (ci, (fs.map (qv (qad b B))).set j (qv (qad b B) v))) = qw (qad b B) cA (qset M r (.inr (ci, fs.set j v))) n := by
    rw [← qw_put (qad b B) cA hr, ← List.map_set]; rfl
  have K : ∀ (H1 : Heap) (locs1 : List Loc), H1.size = H.size → va_P D vwCl ((qw (qad b B) cA M n).set (r - 1) (qad b B r, .inr (ci, (fs.map (qv (qad b B))).set j (qv (qad b B) v)))) H1 → va_S (fun q => B ≤ q) s.heap H1 locs1 → W p l e R s m args below meth c H1 locs1 cells slots Qf (F0 m (pc + 3) ls (st.map (qv (qad b B)))) := by
    intro H1 locs1 hz hP hS1
    rw [hset] at hP
    exact kk p l e R s m args below meth c D cA b B tc ts Qf C H1 locs1 cells slots ls h1 h2 ⟨hP, hz.trans hR.2⟩ hS1 hl9
  have hap := va_apart (own := y.1.cls) C.2.2.2.2.2.1 hin ty0 hty0 hnm C.2.2.2.2.2.2.1.1 hc
  obtain ⟨r', g1, cell, q1, q2, q3, q4⟩ := hR.1 (r - 1) _ he
  have hr' : r' = (Cn, T, N) := Option.some.inj (g1.symm.trans hc)
  subst hr'
  obtain ⟨hSl, hfc, kC, hkC, hkind⟩ := C.2.2.2.2.2.2.1.1.1 ci _ hc
  obtain ⟨cf, kf, fi, f, hi, hsl⟩ := hSl j hj
  have hlay := C.2.2.2.2.2.1 _ (hin _ (u_in_lay hj))
  unfold u_lay at hlay
  rw [if_neg (by rw [hfin]; decide)] at hlay
  have hst := (u_facts hfc hkC (u_lays C.2.2.2.2.2.1 hin hj) hi).1
  have h6 := u_store hfc hkC hkind hlay hi hty (hn (qad b B)) (hf (qad b B))
  have fin : ∀ H' : Heap, H'[qad b B r]? = some (cell.setSlot f.slot (qv (qad b B) v)) → H'.size = H.size → (∀ q, q ≠ qad b B r → H'[q]? = H[q]?) → W p l e R s m args below meth c H' (locs ++ [⟨qad b B r, f.slot⟩]) cells slots Qf (F0 m (pc + 3) ls (st.map (qv (qad b B)))) := by
    intro H' e1 e2 e3
    rw [hsl] at e1 ⊢
    exact K H' _ e2 (hR.1.set hD he ⟨_, hc, t_OB.to (V := updV (vp_V (fs.map (qv (qad b B)))) j (qv (qad b B) v)) ⟨_, e1, q2, q3, t_set q4 hap hj _⟩ (fun i _ => vp_updV_set (by rw [List.length_map]; exact hj2) _ i)⟩ e3) (hS.put e2 e3 (hD.2 (r - 1) _ he))
  rcases hlk with hw | ⟨host, hw⟩
  · exact W.putK C.1 C.2.1 (f := f) ⟨C.2.2.2.1, C.2.2.2.2.2.1 _ hw, ⟨_, _, _, hi⟩, hst⟩ (by rw [q2]; exact h6) q1 q3 (by rw [hsl]; exact k2_hasslot (q4 j hj)) rfl rfl hd fin
  · exact va_WputK C.1 C.2.1 (f := f) C.2.2.2.1 (C.2.2.2.2.2.1 _ hw) hi hst (by rw [q2]; exact h6) q1 q3 (by rw [hsl]; exact k2_hasslot (q4 j hj)) rfl rfl hd fin
theorem EV_putfin {idx ci j r : Nat} {ty : FieldType} {fs : List Value} {v : Value} (hd : decode y.2.1 pc = .ok (.putfield idx, 3)) (hl : qLK y.1.cls idx ci j ty true) (hin2 : y.1.name = "<init>") (hdecl : ∀ (C : String) (T : u_T) (N : Nat), vwCl[ci]? = some (C, T, N) → (T j).1 = y.1.cls ∧ Cond.fieldLink y.1.cls idx (T j).1 (T j).2.1 (T j).2.2.1 ∈ qTBL) (hr : 0 < r ∧ r ≤ n) (hM : M r = .inr (ci, fs)) (hj2 : j < fs.length)
    (hn : ∀ f : Nat → Nat, narrow ty (qv f v) = qv f v) (hf : ∀ f : Nat → Nat, fits ty (qv f v) = true)
    (kk : EV z k y (pc + 3) Lc st (qset M r (.inr (ci, fs.set j v))) n bc bs Q) : EV z k y pc Lc (v :: .ref r :: st) M n bc bs Q := by
  intro p l e R s m args below meth c D cA b B tc ts Qf C H locs cells slots ls h1 h2 hR hS hl9
  obtain ⟨Cn, T, N, hc, hj, hty, hfin, hco, -⟩ := hl
  obtain ⟨hdec, hw⟩ := hdecl Cn T N hc
  obtain ⟨hin, ⟨ty0, hty0⟩, hnm⟩ := hco Cn T N hc
  have he := qw_here (qad b B) cA hr hM
  have hD := qw_D b B C.2.2.2.2.2.2.2.2.1.1 cA M n
  have hset : (qw (qad b B) cA M n).set (r - 1) (qad b B r, .inr (ci, (fs.map (qv (qad b B))).set j (qv (qad b B) v))) = qw (qad b B) cA (qset M r (.inr (ci, fs.set j v))) n := by
    rw [← qw_put (qad b B) cA hr, ← List.map_set]; rfl
  have hap := va_apart (own := y.1.cls) C.2.2.2.2.2.1 hin ty0 hty0 hnm C.2.2.2.2.2.2.1.1 hc
  obtain ⟨r', g1, cell, q1, q2, q3, q4⟩ := hR.1 (r - 1) _ he
  have hr' : r' = (Cn, T, N) := Option.some.inj (g1.symm.trans hc)
  subst hr'
  obtain ⟨hSl, hfc, kC, hkC, hkind⟩ := C.2.2.2.2.2.2.1.1.1 ci _ hc
  obtain ⟨cf, kf, fi, f, hi, hsl⟩ := hSl j hj
  have hlay := C.2.2.2.2.2.1 _ (hin _ (u_in_lay hj))
  unfold u_lay at hlay
  rw [if_pos hfin] at hlay
  have hst := (u_facts hfc hkC (u_lays C.2.2.2.2.2.1 hin hj) hi).1
  have hcf : m.cls = cf := by
    obtain ⟨_, _, c', _, _, _, -, -, hf', -, -, -, hown2, -⟩ := Cond.laysFinal_spec hlay
    have e1 : c' = cf := by have := hi.symm.trans hf'; simp at this; exact this.1.symm
    rw [hdec] at hown2
    rw [← e1]; exact Option.some.inj (C.2.2.2.1.symm.trans hown2)
  have h6 := u_fits hfc hkC hkind (Or.inr hlay) hi hty (hn (qad b B)) (hf (qad b B))
  refine W.putFinK C.1 C.2.1 C.2.2.2.1 (C.2.2.2.2.2.1 _ hw) hi hst hcf (C.2.2.2.2.1.trans hin2) (by rw [q2]; exact h6) q1 q3 (by rw [hsl]; exact k2_hasslot (q4 j hj)) rfl rfl hd fun H' e1 e2 e3 => ?_
  rw [hsl] at e1 ⊢
  have hP := hR.1.set (e := .inr (ci, (fs.map (qv (qad b B))).set j (qv (qad b B) v))) hD he (H1 := H') ⟨_, hc, t_OB.to (V := updV (vp_V (fs.map (qv (qad b B)))) j (qv (qad b B) v)) ⟨_, e1, q2, q3, t_set q4 hap hj _⟩ (fun i _ => vp_updV_set (by rw [List.length_map]; exact hj2) _ i)⟩ e3
  rw [hset] at hP
  exact kk p l e R s m args below meth c D cA b B tc ts Qf C H' _ cells slots ls h1 h2 ⟨hP, e2.trans hR.2⟩ (hS.put e2 e3 (hD.2 (r - 1) _ he)) hl9
/-! arrays -/
theorem EV_iald {r len : Nat} {f : Nat → Int32} {i : Int32} (hd : decode y.2.1 pc = .ok (.iaload, 1)) (hr : 0 < r ∧ r ≤ n) (hM : M r = .inl (0, len, .inl f)) (hin : vp_in i len)
    (kk : EV z k y (pc + 1) Lc (.int (f i.toNatClampNeg) :: st) M n bc bs Q) : EV z k y pc Lc (.int i :: .ref r :: st) M n bc bs Q := by
  intro p l e R s m args below meth c D cA b B tc ts Qf C H locs cells slots ls h1 h2 hR hS hl9
  exact va_iald (D := D) (cl := vwCl) C.1 C.2.1 C.2.2.2.2.2.2.1.1 hR.1 (r - 1) 0 (qw_here (qad b B) cA hr hM) rfl hin hd (kk p l e R s m args below meth c D cA b B tc ts Qf C H locs cells slots ls h1 h2 hR hS hl9)
theorem EV_zald {r len : Nat} {f : Nat → Int32} {i : Int32} (hd : decode y.2.1 pc = .ok (.baload, 1)) (hr : 0 < r ∧ r ≤ n) (hM : M r = .inl (1, len, .inl f)) (hin : vp_in i len)
    (kk : EV z k y (pc + 1) Lc (.int (f i.toNatClampNeg) :: st) M n bc bs Q) : EV z k y pc Lc (.int i :: .ref r :: st) M n bc bs Q := by
  intro p l e R s m args below meth c D cA b B tc ts Qf C H locs cells slots ls h1 h2 hR hS hl9
  exact va_zald (D := D) (cl := vwCl) C.1 C.2.1 C.2.2.2.2.2.2.1.1 hR.1 (r - 1) 1 (qw_here (qad b B) cA hr hM) rfl hin hd (kk p l e R s m args below meth c D cA b B tc ts Qf C H locs cells slots ls h1 h2 hR hS hl9)
theorem EV_aald {r r' len t : Nat} {g : Nat → Option Nat} {i : Int32} {ty : FieldType} (hd : decode y.2.1 pc = .ok (.aaload, 1)) (hr : 0 < r ∧ r ≤ n) (hM : M r = .inl (t, len, .inr (.inr (.inr (.inr g))))) (ht : ∀ cA : Nat → ClassId, (qT cA)[t]? = some (cA t, ty)) (hty : ty.isReference = true) (hin : vp_in i len) (hg : g i.toNatClampNeg = some r')
    (kk : EV z k y (pc + 1) Lc (.ref r' :: st) M n bc bs Q) : EV z k y pc Lc (.int i :: .ref r :: st) M n bc bs Q := by
  intro p l e R s m args below meth c D cA b B tc ts Qf C H locs cells slots ls h1 h2 hR hS hl9
  have he := qw_here (qad b B) cA hr hM
  have hlt : i.toNatClampNeg < len := Nat.not_le.mp fun q => hin (Or.inr q)
  have K := kk p l e R s m args below meth c D cA b B tc ts Qf C H locs cells slots ls h1 h2 hR hS hl9
  refine W.aald (v := .ref (qad b B r')) (ty := ty) C.1 C.2.1 (hR.1 (r - 1) _ he) ((C.2.2.2.2.2.2.1.1.2 t _ (ht cA)).1 len (fun j => va_rf ((g j).map (qad b B)))) hty (fun q => by cases q) (by show ¬ (i < 0 ∨ (arrV _ _ _).slots.size ≤ _); rw [arrV_size]; exact hin) ?_ rfl rfl hd K
  exact (arrV_read _ (fun j => va_rf ((g j).map (qad b B))) hlt).trans (by rw [hg]; rfl)
theorem EV_iast {r len : Nat} {f : Nat → Int32} {i x : Int32} (hd : decode y.2.1 pc = .ok (.iastore, 1)) (hr : 0 < r ∧ r ≤ n) (hM : M r = .inl (0, len, .inl f)) (hin : vp_in i len)
    (kk : EV z k y (pc + 1) Lc st (qset M r (.inl (0, len, .inl (upd f i.toNatClampNeg x)))) n bc bs Q) : EV z k y pc Lc (.int x :: .int i :: .ref r :: st) M n bc bs Q := by
  intro p l e R s m args below meth c D cA b B tc ts Qf C H locs cells slots ls h1 h2 hR hS hl9
  have hD := qw_D b B C.2.2.2.2.2.2.2.2.1.1 cA M n
  have he := qw_here (qad b B) cA hr hM
  refine W.iast C.1 C.2.1 (hR.1 (r - 1) _ he) ((C.2.2.2.2.2.2.1.1.2 0 _ rfl).1 len (fun j => .int (f j))) (fun q => by cases q) (by show ¬ (i < 0 ∨ (arrV _ _ _).slots.size ≤ _); rw [arrV_size]; exact hin) rfl rfl hd fun H1 e1 z1 oq => ?_
  have hP := hR.1.set (e := qe (qad b B) cA (.inl (0, len, .inl (upd f i.toNatClampNeg x)))) hD he (H1 := H1) ?_ oq
  · rw [qw_put (qad b B) cA hr] at hP
    exact kk p l e R s m args below meth c D cA b B tc ts Qf C H1 _ cells slots ls h1 h2 ⟨hP, z1.trans hR.2⟩ (hS.put z1 oq (hD.2 (r - 1) _ he)) hl9
  · show H1[qad b B r]? = some (vp_cell _ _)
    rw [e1]
    show some ((arrV (cA 0) len (fun j => Value.int (f j))).setSlot _ _) = some (arrV (cA 0) len (fun j => Value.int (upd f i.toNatClampNeg x j)))
    rw [arrV_store]
    congr 2
    funext q
    by_cases hq : q = i.toNatClampNeg
    · subst hq; simp [updV, upd]
    · simp [updV, upd, hq]
theorem EV_zast {r len : Nat} {f : Nat → Int32} {i x : Int32} (hd : decode y.2.1 pc = .ok (.bastore, 1)) (hr : 0 < r ∧ r ≤ n) (hM : M r = .inl (1, len, .inl f)) (hin : vp_in i len) (hx : vp_nar .boolean x = x)
    (kk : EV z k y (pc + 1) Lc st (qset M r (.inl (1, len, .inl (upd f i.toNatClampNeg x)))) n bc bs Q) : EV z k y pc Lc (.int x :: .int i :: .ref r :: st) M n bc bs Q := by
  intro p l e R s m args below meth c D cA b B tc ts Qf C H locs cells slots ls h1 h2 hR hS hl9
  have hD := qw_D b B C.2.2.2.2.2.2.2.2.1.1 cA M n
  have he := qw_here (qad b B) cA hr hM
  refine W.zast C.1 C.2.1 (hR.1 (r - 1) _ he) ((C.2.2.2.2.2.2.1.1.2 1 _ rfl).1 len (fun j => .int (f j))) (fun q => by cases q) (by show ¬ (i < 0 ∨ (arrV _ _ _).slots.size ≤ _); rw [arrV_size]; exact hin) rfl rfl hd fun H1 e1 z1 oq => ?_
  have hP := hR.1.set (e := qe (qad b B) cA (.inl (1, len, .inl (upd f i.toNatClampNeg (vp_nar .boolean x))))) hD he (H1 := H1) ?_ oq
  · rw [qw_put (qad b B) cA hr, hx] at hP
    exact kk p l e R s m args below meth c D cA b B tc ts Qf C H1 _ cells slots ls h1 h2 ⟨hP, z1.trans hR.2⟩ (hS.put z1 oq (hD.2 (r - 1) _ he)) hl9
  · show H1[qad b B r]? = some (vp_cell _ _)
    rw [e1]
    show some ((arrV (cA 1) len (fun j => Value.int (f j))).setSlot _ _) = some (arrV (cA 1) len (fun j => Value.int (upd f i.toNatClampNeg (vp_nar .boolean x) j)))
    rw [arrV_store]
    congr 2
    funext q
    by_cases hq : q = i.toNatClampNeg
    · subst hq
      simp [updV, upd, vp_nar]
      try rfl
    · simp [updV, upd, hq]
theorem EV_alen {r len t : Nat} {x : (Nat → Int32) ⊕ (Nat → Int64) ⊕ (Nat → UInt32) ⊕ (Nat → UInt64) ⊕ (Nat → Option Nat)} {ty : FieldType} (hd : decode y.2.1 pc = .ok (.arraylength, 1)) (hr : 0 < r ∧ r ≤ n) (hM : M r = .inl (t, len, x)) (ht : ∀ cA : Nat → ClassId, (qT cA)[t]? = some (cA t, ty))
    (kk : EV z k y (pc + 1) Lc (.int (Int32.ofNat len) :: st) M n bc bs Q) : EV z k y pc Lc (.ref r :: st) M n bc bs Q := by
  intro p l e R s m args below meth c D cA b B tc ts Qf C H locs cells slots ls h1 h2 hR hS hl9
  have he := qw_here (qad b B) cA hr hM
  refine va_alen (D := D) (cl := vwCl) C.1 C.2.1 C.2.2.2.2.2.2.1.1 hR.1 (r - 1) t he (ht cA) ?_ hd (kk p l e R s m args below meth c D cA b B tc ts Qf C H locs cells slots ls h1 h2 hR hS hl9)
  rcases x with x | x | x | x | x <;> rfl
/-- the script -/
theorem EV_sld {i : Int32} (hd : decode y.2.1 pc = .ok (.iaload, 1)) (hin : vp_in i z.1)
    (kk : EV z k y (pc + 1) Lc (.int (z.2 i.toNatClampNeg) :: st) M n bc bs Q) : EV z k y pc Lc (.int i :: .ref 0 :: st) M n bc bs Q := by
  intro p l e R s m args below meth c D cA b B tc ts Qf C H locs cells slots ls h1 h2 hR hS hl9
  exact va_sld C.1 C.2.1 C.2.2.2.2.2.2.2.1 (Nat.lt_of_lt_of_le C.2.2.2.2.2.2.2.2.1.1 C.2.2.2.2.2.2.2.2.1.2) (Nat.not_le.mpr C.2.2.2.2.2.2.2.2.1.1) hS hin hd (kk p l e R s m args below meth c D cA b B tc ts Qf C H locs cells slots ls h1 h2 hR hS hl9)
theorem EV_slen (hd : decode y.2.1 pc = .ok (.arraylength, 1))
    (kk : EV z k y (pc + 1) Lc (.int (Int32.ofNat z.1) :: st) M n bc bs Q) : EV z k y pc Lc (.ref 0 :: st) M n bc bs Q := by
  intro p l e R s m args below meth c D cA b B tc ts Qf C H locs cells slots ls h1 h2 hR hS hl9
  exact va_slen C.1 C.2.1 C.2.2.2.2.2.2.2.1 (Nat.lt_of_lt_of_le C.2.2.2.2.2.2.2.2.1.1 C.2.2.2.2.2.2.2.2.1.2) (Nat.not_le.mpr C.2.2.2.2.2.2.2.2.1.1) hS hd (kk p l e R s m args below meth c D cA b B tc ts Qf C H locs cells slots ls h1 h2 hR hS hl9)
end QMem
end
section
theorem q_self (vm : Vm) (c : ClassId) : vm.assignable c c = true := by
  show Vm.assignableAux vm (255 + 1) c c = true
  rw [Vm.assignableAux]
  simp only [beq_self_eq_true, Bool.true_or]
section QNew
variable {z : qZ} {k : Nat} {y : qY} {pc : Nat} {Lc st : List Value} {M : qM} {n bc bs : Nat} {Q : qQ}
theorem qR_push {D : va_G} {cA : Nat → ClassId} {b B : Nat} {H H1 : Heap} {e : qE} (hR : qR D cA b B M n H) (z1 : H1.size = H.size + 1) (o1 : ∀ q, q < H.size → H1[q]? = H[q]?) (he : va_at D vwCl (qad b B (n + 1), qe (qad b B) cA e) H1) : qR D cA b B (qset M (n + 1) e) (n + 1) H1 := by
  refine ⟨?_, by rw [z1, hR.2]; omega⟩
  rw [← qw_push]
  refine (hR.1.kept (fun k x hx => o1 x.1 (hR.1 k x hx).lt)).app (fun k x hx => ?_)
  have hz : k < 1 := (List.getElem?_eq_some_iff.mp hx).1
  rw [show k = 0 by omega] at hx
  cases hx
  exact he
theorem qS_push {A : Nat → Prop} {H0 H H1 : Heap} {locs : List Loc} (hS : va_S A H0 H locs) (z1 : H1.size = H.size + 1) (o1 : ∀ q, q < H.size → H1[q]? = H[q]?) : va_S A H0 H1 locs :=
  ⟨Nat.le_trans hS.1 (by omega), fun x h1 h2 => (o1 x (Nat.lt_of_lt_of_le h1 hS.1)).trans (hS.2.1 x h1 h2), hS.2.2⟩
theorem EV_new {idx ci N : Nat} {Cn : String} {T : u_T} {fs : List Value} (hd : decode y.2.1 pc = .ok (.new idx, 3)) (hc : vwCl[ci]? = some (Cn, T, N)) (hco : qcok ci) (hlk : Cond.classLink y.1.cls idx Cn ∈ qTBL) (hin : Cond.instantiable Cn N ∈ qTBL) (hini : Cond.initialized Cn ∈ qTBL)
    (hfs : ∀ j, j < N → ∀ ty, parseFieldDescriptor (T j).2.2.1 = some ty → ∀ f : Nat → Nat, defaultValue ty = vp_V (fs.map (qv f)) j)
    (kk : EV z k y (pc + 3) Lc (.ref (n + 1) :: st) (qset M (n + 1) (.inr (ci, fs))) (n + 1) bc bs Q) : EV z k y pc Lc st M n (bc + 1) (bs + N) Q := by
  intro p l e R s m args below meth c D cA b B tc ts Qf C H locs cells slots ls h1 h2 hR hS hl9
  obtain ⟨hin1, ⟨ty0, hty0⟩, hnm⟩ := hco Cn T N hc
  have hKn := C.2.2.2.2.2.2.1.1.1 ci _ hc
  have hb1 := C.2.2.2.2.2.2.2.2.2.1
  refine W.newcK C.1 C.2.1 C.2.2.2.1 (C.2.2.2.2.2.1 _ hlk) (C.2.2.2.2.2.1 _ hin) (C.2.2.2.2.2.1 _ hini) rfl hd (by omega) (by omega) hKn.2.1 rfl fun H1 kC hkC e1 z1 o1 => ?_
  have hsz : H.size = qad b B (n + 1) := hR.2
  rw [hsz]
  refine kk p l e R s m args below meth c D cA b B tc ts Qf C H1 locs (cells + 1) (slots + N) ls (by omega) (by omega) (qR_push hR z1 o1 ?_) (qS_push hS z1 o1) hl9
  rw [hsz] at e1
  exact ⟨_, hc, (u_born ty0 C.2.2.2.2.2.1 hin1 hKn hkC e1 hty0).to (fun j hj => hfs j hj (ty0 j) (hty0 j hj) (qad b B))⟩
theorem EV_newarr {atype : ArrayType} {t : Nat} {ty : FieldType} {a0 : vp_A} {cnt : Int32} {len : Nat} (hd : decode y.2.1 pc = .ok (.newarray atype, 2)) (hty : newarray.typeOf atype = ty) (hw : Cond.arrayClass ty ∈ qTBL) (ht : ∀ cA : Nat → ClassId, (qT cA)[t]? = some (cA t, ty)) (hra : ∀ (U : State) (c : ClassId), va_RA U c ty → U.vm.findClass ("[" ++ ty.toString) = some c) (ha : ∀ (f : Nat → Nat) (cA : ClassId), vp_cell cA (qa f a0) = arrV cA len (fun _ => defaultValue ty)) (hn : ¬ cnt < 0) (hN : cnt.toNatClampNeg = len) (hbytes : len * componentBytes ty ≤ 536870912)
    (kk : EV z k y (pc + 2) Lc (.ref (n + 1) :: st) (qset M (n + 1) (.inl (t, a0))) (n + 1) bc bs Q) : EV z k y pc Lc (.int cnt :: st) M n (bc + 1) (bs + len) Q := by
  intro p l e R s m args below meth c D cA b B tc ts Qf C H locs cells slots ls h1 h2 hR hS hl9
  subst hty
  have hb1 := C.2.2.2.2.2.2.2.2.2.1
  refine va_newaK C.1 C.2.1 (C.2.2.2.2.2.1 _ hw) rfl hd rfl hn hN hbytes (by omega) (by omega) rfl fun H1 cA' e1 z1 o1 hAr hNm => ?_
  have hcA : cA' = cA t := Option.some.inj (hNm.symm.trans (hra s _ (C.2.2.2.2.2.2.1.1.2 t _ (ht cA)).2))
  subst hcA
  have hsz : H.size = qad b B (n + 1) := hR.2
  rw [hsz]
  refine kk p l e R s m args below meth c D cA b B tc ts Qf C H1 locs (cells + 1) (slots + len) ls (by omega) (by omega) (qR_push hR z1 o1 ?_) (qS_push hS z1 o1) hl9
  rw [hsz] at e1
  show H1[_]? = some (vp_cell _ _)
  rw [ha]
  exact e1
theorem q_rep (cA : ClassId) (len : Nat) (f : Nat → Nat) : vp_cell cA (qa f (len, .inr (.inr (.inr (.inr (fun _ => none)))))) = { cls := cA, slots := Array.replicate len .null, vm := .none } := by
  have h : (arrV cA len (fun _ => Value.null)) = { cls := cA, slots := Array.replicate len .null, vm := .none } := by first | exact (arrV_new cA len .null).symm | exact arrV_new cA len .null | rw [arrV_new] | rw [← arrV_new]
  rw [← h]
  rfl
theorem EV_anew {idx t : Nat} {Cn : String} {cnt : Int32} {len : Nat} (hd : decode y.2.1 pc = .ok (.anewarray idx, 3)) (hlk : Cond.classLink y.1.cls idx Cn ∈ qTBL) (how : ∀ (A : Array Value) (U : State), (∀ w ∈ qTBL, w.before A U = true) → (Cond.arrayOver (.object Cn)).before A U = true) (ht : ∀ cA : Nat → ClassId, (qT cA)[t]? = some (cA t, .object Cn)) (hn : ¬ cnt < 0) (hN : cnt.toNatClampNeg = len) (hbytes : len * 4 ≤ 536870912)
    (kk : EV z k y (pc + 3) Lc (.ref (n + 1) :: st) (qset M (n + 1) (.inl (t, len, .inr (.inr (.inr (.inr (fun _ => none))))))) (n + 1) bc bs Q) : EV z k y pc Lc (.int cnt :: st) M n (bc + 1) (bs + len) Q := by
  intro p l e R s m args below meth c D cA b B tc ts Qf C H locs cells slots ls h1 h2 hR hS hl9
  have hb1 := C.2.2.2.2.2.2.2.2.2.1
  subst hN
  refine W.anew C.1 C.2.1 C.2.2.2.1 (C.2.2.2.2.2.1 _ hlk) (how args s C.2.2.2.2.2.1) rfl hd rfl hn hbytes (by omega) (by omega) fun cA' kA comp f1 f2 f3 f4 => ?_
  obtain ⟨kA2, comp2, g1, g2, g3, g4⟩ := (C.2.2.2.2.2.2.1.1.2 t _ (ht cA)).2
  have hcA : cA' = cA t := Option.some.inj (f1.symm.trans g4)
  subst hcA
  have hsz : H.size = qad b B (n + 1) := hR.2
  generalize hH1 : H.push ({ cls := cA t, slots := Array.replicate cnt.toNatClampNeg .null, vm := .none } : Cell) = H1
  have z1 : H1.size = H.size + 1 := by rw [← hH1, Array.size_push]
  have o1 : ∀ q, q < H.size → H1[q]? = H[q]? := fun q hq => by rw [← hH1, Array.getElem?_push, if_neg (Nat.ne_of_lt hq)]
  rw [hsz]
  refine kk p l e R s m args below meth c D cA b B tc ts Qf C H1 locs (cells + 1) (slots + cnt.toNatClampNeg) ls (by omega) (by omega) (qR_push hR z1 o1 ?_) (qS_push hS z1 o1) hl9
  show H1[qad b B (n + 1)]? = some (vp_cell _ _)
  rw [← hsz, ← hH1, Array.getElem?_push_size, q_rep]
theorem EV_anewA {idx : Nat} {cnt : Int32} {len : Nat} (hd : decode y.2.1 pc = .ok (.anewarray idx, 3)) (hlk : Cond.classLink y.1.cls idx (FieldType.array .int).toString ∈ qTBL) (how : ∀ (A : Array Value) (U : State), (∀ w ∈ qTBL, w.before A U = true) → (Cond.arrayOver (.array .int)).before A U = true) (hn : ¬ cnt < 0) (hN : cnt.toNatClampNeg = len) (hbytes : len * 4 ≤ 536870912)
    (kk : EV z k y (pc + 3) Lc (.ref (n + 1) :: st) (qset M (n + 1) (.inl (5, len, .inr (.inr (.inr (.inr (fun _ => none))))))) (n + 1) bc bs Q) : EV z k y pc Lc (.int cnt :: st) M n (bc + 1) (bs + len) Q := by
  intro p l e R s m args below meth c D cA b B tc ts Qf C H locs cells slots ls h1 h2 hR hS hl9
  have hb1 := C.2.2.2.2.2.2.2.2.2.1
  subst hN
  refine W.anewA C.1 C.2.1 C.2.2.2.1 (C.2.2.2.2.2.1 _ hlk) (how args s C.2.2.2.2.2.1) rfl hd rfl hn hbytes (by omega) (by omega) fun cA' kA comp f1 f2 f3 f4 => ?_
  have g4 : s.vm.findClass ("[" ++ (FieldType.array .int).toString) = some (cA 5) := (C.2.2.2.2.2.2.1.1.2 5 _ rfl).2
  have hcA : cA' = cA 5 := Option.some.inj (f1.symm.trans g4)
  subst hcA
  have hsz : H.size = qad b B (n + 1) := hR.2
  generalize hH1 : H.push ({ cls := cA 5, slots := Array.replicate cnt.toNatClampNeg .null, vm := .none } : Cell) = H1
  have z1 : H1.size = H.size + 1 := by rw [← hH1, Array.size_push]
  have o1 : ∀ q, q < H.size → H1[q]? = H[q]? := fun q hq => by rw [← hH1, Array.getElem?_push, if_neg (Nat.ne_of_lt hq)]
  rw [hsz]
  refine kk p l e R s m args below meth c D cA b B tc ts Qf C H1 locs (cells + 1) (slots + cnt.toNatClampNeg) ls (by omega) (by omega) (qR_push hR z1 o1 ?_) (qS_push hS z1 o1) hl9
  show H1[qad b B (n + 1)]? = some (vp_cell _ _)
  rw [← hsz, ← hH1, Array.getElem?_push_size, q_rep]
theorem EV_aast {r rv len t ci : Nat} {q : vw_C} {vs : List Value} {g : Nat → Option Nat} {i : Int32} (hd : decode y.2.1 pc = .ok (.aastore, 1)) (hr : 0 < r ∧ r ≤ n) (hrv : 0 < rv ∧ rv ≤ n) (hM : M r = .inl (t, len, .inr (.inr (.inr (.inr g))))) (hMv : M rv = .inr (ci, vs)) (hc : vwCl[ci]? = some q) (ht : ∀ cA : Nat → ClassId, (qT cA)[t]? = some (cA t, .object q.1)) (hin : vp_in i len)
    (kk : EV z k y (pc + 1) Lc st (qset M r (.inl (t, len, .inr (.inr (.inr (.inr (va_up g i.toNatClampNeg (some rv)))))))) n bc bs Q) : EV z k y pc Lc (.ref rv :: .int i :: .ref r :: st) M n bc bs Q := by
  intro p l e R s m args below meth c D cA b B tc ts Qf C H locs cells slots ls h1 h2 hR hS hl9
  have hD := qw_D b B C.2.2.2.2.2.2.2.2.1.1 cA M n
  have he := qw_here (qad b B) cA hr hM
  have hev := qw_here (qad b B) cA hrv hMv
  have hlt : i.toNatClampNeg < len := Nat.not_le.mp fun q => hin (Or.inr q)
  have h0 : ¬ i < 0 := fun q => hin (Or.inl q)
  obtain ⟨r', hr', cellV, g1, g2, g3, -⟩ := hR.1 (rv - 1) _ hev
  have hcls := (C.2.2.2.2.2.2.1.1.1 ci q hc).2
  obtain ⟨kA, comp, k1, k2, k3, -⟩ := (C.2.2.2.2.2.2.1.1.2 t _ (ht cA)).2
  have hcomp : comp = D.1 ci := Option.some.inj (k3.symm.trans hcls.1)
  subst hcomp
  obtain ⟨kC, hkC, -⟩ := hcls.2
  refine W.aast C.1 C.2.1 (hR.1 (r - 1) _ he) (fun q h => by cases h) (fun h => by cases h) k1 k2 rfl hkC ⟨h0, by show _ < (arrV _ _ _).slots.size; rw [arrV_size]; exact hlt⟩ g1 (fun q h => by rw [g3] at h; cases h) (by rw [g2]; exact hkC) (by rw [g2]; exact va_assign hcls) rfl rfl hd fun H1 e1 z1 oq => ?_
  have hP := hR.1.set (e := qe (qad b B) cA (.inl (t, len, .inr (.inr (.inr (.inr (va_up g i.toNatClampNeg (some rv)))))))) hD he (H1 := H1) ?_ oq
  · rw [qw_put (qad b B) cA hr] at hP
    exact kk p l e R s m args below meth c D cA b B tc ts Qf C H1 _ cells slots ls h1 h2 ⟨hP, z1.trans hR.2⟩ (hS.put z1 oq (hD.2 (r - 1) _ he)) hl9
  · show H1[qad b B r]? = some (vp_cell _ _)
    rw [e1]
    show some ((arrV _ _ (fun j => va_rf ((g j).map (qad b B)))).setSlot _ _) = some (arrV _ _ (fun j => va_rf ((va_up g i.toNatClampNeg (some rv) j).map (qad b B))))
    rw [arrV_store]
    congr 2
    funext j
    by_cases hq : j = i.toNatClampNeg
    · subst hq; simp [updV, va_up, va_rf]
    · simp [updV, va_up, hq]
/-- a row of ints into a row of such rows -/
theorem EV_aastA {r rv len lv : Nat} {fv : Nat → Int32} {g : Nat → Option Nat} {i : Int32} (hd : decode y.2.1 pc = .ok (.aastore, 1)) (hr : 0 < r ∧ r ≤ n) (hrv : 0 < rv ∧ rv ≤ n) (hM : M r = .inl (5, len, .inr (.inr (.inr (.inr g))))) (hMv : M rv = .inl (0, lv, .inl fv)) (hin : vp_in i len)
    (kk : EV z k y (pc + 1) Lc st (qset M r (.inl (5, len, .inr (.inr (.inr (.inr (va_up g i.toNatClampNeg (some rv)))))))) n bc bs Q) : EV z k y pc Lc (.ref rv :: .int i :: .ref r :: st) M n bc bs Q := by
  intro p l e R s m args below meth c D cA b B tc ts Qf C H locs cells slots ls h1 h2 hR hS hl9
  have hD := qw_D b B C.2.2.2.2.2.2.2.2.1.1 cA M n
  have he := qw_here (qad b B) cA hr hM
  have hev := hR.1 (rv - 1) _ (qw_here (qad b B) cA hrv hMv)
  have hlt : i.toNatClampNeg < len := Nat.not_le.mp fun q => hin (Or.inr q)
  have h0 : ¬ i < 0 := fun q => hin (Or.inl q)
  obtain ⟨kA, kC, k1, k2, k3⟩ := C.2.2.2.2.2.2.1.2
  refine W.aast C.1 C.2.1 (hR.1 (r - 1) _ he) (fun q h => by cases h) (fun h => by cases h) k1 k2 rfl k3 ⟨h0, by show _ < (arrV _ _ _).slots.size; rw [arrV_size]; exact hlt⟩ hev (fun q h => by cases h) k3 (q_self _ _) rfl rfl hd fun H1 e1 z1 oq => ?_
  have hP := hR.1.set (e := qe (qad b B) cA (.inl (5, len, .inr (.inr (.inr (.inr (va_up g i.toNatClampNeg (some rv)))))))) hD he (H1 := H1) ?_ oq
  · rw [qw_put (qad b B) cA hr] at hP
    exact kk p l e R s m args below meth c D cA b B tc ts Qf C H1 _ cells slots ls h1 h2 ⟨hP, z1.trans hR.2⟩ (hS.put z1 oq (hD.2 (r - 1) _ he)) hl9
  · show H1[qad b B r]? = some (vp_cell _ _)
    rw [e1]
    show some ((arrV _ _ (fun j => va_rf ((g j).map (qad b B)))).setSlot _ _) = some (arrV _ _ (fun j => va_rf ((va_up g i.toNatClampNeg (some rv) j).map (qad b B))))
    rw [arrV_store]
    congr 2
    funext j
    by_cases hq : j = i.toNatClampNeg
    · subst hq; simp [updV, va_up, va_rf]
    · simp [updV, va_up, hq]
end QNew
end
section
/-! ===== calls ===== -/
def qent : List Value → List Value
  | [] => []
  | v :: t => if v.category = 2 then v :: .null :: qent t else v :: qent t
theorem qent_mem (f : Nat → Nat) (m0 : Nat) : ∀ (as : List Value) (j : Nat) (q : Nat × Value), q ∈ qll f j (qent as ++ List.replicate m0 .null) → q ∈ lv_args j (as.map (qv f))
  | [], j, q, h => by
    exfalso
    simp only [qent, List.nil_append] at h
    induction m0 generalizing j with
    | zero => simp [qll] at h
    | succ m ih => exact ih (j + 1) h
  | v :: t, j, q, h => by
    by_cases hc : v.category = 2
    · have hn : v ≠ .null := fun e => by rw [e] at hc; cases hc
      simp only [qent, hc, if_true, List.cons_append] at h
      rw [qll_cons f j v _ hn] at h
      show q ∈ (j, qv f v) :: lv_args (if (qv f v).category = 2 then j + 2 else j + 1) (t.map (qv f))
      rw [qcat, if_pos hc]
      rcases List.mem_cons.mp h with h1 | h1
      · rw [h1]; exact List.mem_cons_self
      · exact List.mem_cons_of_mem _ (qent_mem f m0 t (j + 2) q h1)
    · simp only [qent, hc, if_false, List.cons_append] at h
      show q ∈ (j, qv f v) :: lv_args (if (qv f v).category = 2 then j + 2 else j + 1) (t.map (qv f))
      rw [qcat, if_neg hc]
      by_cases hn : v = .null
      · subst hn
        exact List.mem_cons_of_mem _ (qent_mem f m0 t (j + 1) q h)
      · rw [qll_cons f j v _ hn] at h
        rcases List.mem_cons.mp h with h1 | h1
        · rw [h1]; exact List.mem_cons_self
        · exact List.mem_cons_of_mem _ (qent_mem f m0 t (j + 1) q h1)
theorem qlen (f : Nat → Nat) (as : List Value) : (lg_sl (as.map (qv f))).length = (lg_sl as).length := by
  induction as with
  | nil => rfl
  | cons v t ih =>
    simp only [lg_sl, List.map_cons, List.flatMap_cons, List.length_append] at ih ⊢
    rw [ih, qcat]
    by_cases hc : v.category = 2 <;> simp [hc]
theorem CT_of {z : qZ} {k : Nat} {w : qY} {as : List Value} {M : qM} {n mc ms : Nat} {Q : qQ} (m0 : Nat) (hpl : plainName w.1.cls = true) (hlen : (lg_sl as).length ≤ w.2.2.1) (h : EV z k w 0 (qent as ++ List.replicate m0 .null) [] M n mc ms Q) : CT z k w as M n mc ms Q := by
  intro l D cA b B
  refine Met.ofW (cc := w.2.1) (maxL := w.2.2.1) (ret := w.2.2.2) (ws' := qTBL) hpl rfl ?_
  intro p e s m args below meth c s₁ Bd hml hv
  obtain ⟨rfl, hbB, hR, hK, hX⟩ := hv
  have hts := atoms_spec (ws := qws w) Bd.pre
  have hown : s.vm.findClass w.1.cls = some m.cls := findClass_of_methodNamed Bd.named
  have hl := lv_entry (as.map (qv (qad b B))) (n := w.2.2.1) (by rw [qlen]; exact hlen)
  rw [lg_entry_eq]
  generalize (lg_sl (as.map (qv (qad b B))) ++ List.replicate (w.2.2.1 - (lg_sl (as.map (qv (qad b B)))).length) Slot.unset).toArray = ls at hl ⊢
  refine h p l e (qrm k mc ms) s m _ below meth c D cA b B mc ms _ ⟨Bd.exec, Bd.bytes, hml, hown, (name_of_methodNamed Bd.named Bd.method).1, fun x hx => hts x (List.mem_cons_of_mem _ hx), hK, hX, hbB, ⟨Nat.le_refl _, Nat.le_refl _, Nat.le_refl _, Nat.le_refl _⟩, ?_⟩ s.heap [] 0 0 ls (Nat.zero_add _) (Nat.zero_add _) hR va_S.rf ?_
  · intro v M' n' H' locs' ls' pc' hQ hR' hS' hret
    have F : ∀ t : State, t.heap = H' → s.WarmedH t.vm → qPost D cA b B Q (as.map (qv (qad b B))).toArray s (.returned (v.map (qv (qad b B)))) t := fun t ht _ => ⟨⟨v, M', n', rfl, hQ, by rw [ht]; exact hR'⟩, hS'.F ht⟩
    cases v with
    | none => exact W.vret Bd.exec Bd.bytes (Bd.returns.trans hret.1) F hS'.2.2 hret.2 Bd.notSynchronized
    | some v =>
      cases v with
      | int x =>
        obtain ⟨⟨ty, g1, g2⟩, g3⟩ := hret
        exact W.zret Bd.exec Bd.bytes (Bd.returns.trans g1) g2 F hS'.2.2 g3 Bd.notSynchronized
      | long x => exact W.lret Bd.exec Bd.bytes (Bd.returns.trans hret.1) F hS'.2.2 hret.2 Bd.notSynchronized
      | double x => exact W.dret Bd.exec Bd.bytes (Bd.returns.trans hret.1) F hS'.2.2 hret.2 Bd.notSynchronized
      | _ => exact hret.elim
  · exact ⟨hl.1, hl.2.1, fun q hq => hl.2.2 q (qent_mem _ m0 as 0 q hq)⟩
theorem q_blind {z : qZ} {D : va_G} {cA : Nat → ClassId} {b B : Nat} {M : qM} {n : Nat} (av : List Value) : FrameBlind (va_Pc av (qPre z D cA b B M n)) := by
  intro a U g mk q
  obtain ⟨q0, q1, q2, q3, q4⟩ := q
  exact ⟨q0, q1, q2, qK.moved (u := U) (U := U.calling g mk a) (Vm.Alike.refl U.vm) q3, va_X.moved (u := U) (U := U.calling g mk a) (Vm.Alike.refl U.vm) q4⟩
theorem q_pre {z : qZ} {D : va_G} {cA : Nat → ClassId} {b B : Nat} {M : qM} {n : Nat} {s : State} {H : Heap} {locs : List Loc} (hbB : b < B ∧ B ≤ s.heap.size) (hK : qK D cA s) (hX : va_X b z.1 z.2 s s.heap) (hR : qR D cA b B M n H) (hS : va_S (fun q => B ≤ q) s.heap H locs) (U : State) (hU : U.heap = H) (hW : s.WarmedH U.vm) : qPre z D cA b B M n U := by
  refine ⟨⟨hbB.1, by rw [hU]; exact Nat.le_trans hbB.2 hS.1⟩, by rw [hU]; exact hR, hK.moved hW.alike, ?_⟩
  rw [hU]
  exact (hX.kept (hS.2.1 b (Nat.lt_of_lt_of_le hbB.1 hbB.2) (Nat.not_le.mpr hbB.1))).moved hW.alike
section QCall
variable {p : Program} {l : Launch} {e : Env} {R : Room} {s : State} {m : MethodId} {args : Array Value} {below : List Frame} {meth : Method} {c : Code} {H : Heap} {locs : List Loc} {cells slots : Nat} {Qf : State → Prop}
theorem q_call {pc : Nat} {ls : Array Slot} {rest st0 : List Value} {a : Array Value} {D : va_G} {cA : Nat → ClassId} {b B mc ms : Nat} {Q : qQ} (hr : va_Run p l e R s m args below meth c H locs cells slots mc ms (F0 m pc ls st0) rest (qPost D cA b B Q a) (fun q => B ≤ q)) (hS : va_S (fun q => B ≤ q) s.heap H locs)
    (kk : ∀ (v : Option Value) (M' : qM) (n' : Nat) (H1 : Heap) (locs1 : List Loc), Q v M' n' → qR D cA b B M' n' H1 → va_S (fun q => B ≤ q) s.heap H1 locs1 → W p l e R s m args below meth c H1 locs1 (cells + mc) (slots + ms) Qf (F0 m (pc + 3) ls ((v.map (qv (qad b B))).toList ++ rest))) : W p l e R s m args below meth c H locs cells slots Qf (F0 m pc ls st0) := by
  intro T hT X
  obtain ⟨v, st₀, t, T', L, h0, X', hL, e1, e2, ⟨⟨v', M', n', hv, hq, hR⟩, hz, hk⟩, st⟩ := hr T hT X
  cases hv
  rw [h0] at hz hk
  obtain ⟨t2, a1, b1⟩ := kk v' M' n' T'.heap (locs ++ L) hq (by rw [e1]; exact hR)
    ⟨Nat.le_trans hS.1 (by rw [e1]; exact hz), fun q h1 h2 => by rw [e1, hk q (Nat.lt_of_lt_of_le h1 hS.1) h2]; exact hS.2.1 q h1 h2, fun q hq => by
      rcases List.mem_append.mp hq with h | h
      · exact hS.2.2 q h
      · exact hL q h⟩ T' rfl X'
  exact ⟨t2, st t2 a1, b1⟩
end QCall
def qLM (own : String) (idx : Nat) (w : qY) : Prop := Cond.methodLink own idx w.1 ∈ qTBL ∨ ∃ host, Cond.methodLinkNest own idx w.1 host ∈ qTBL
def qMf (w : qY) (na : Nat) : Prop := Cond.code w.1 w.2.1 w.2.2.1 w.2.2.2 ∈ qTBL ∧ Cond.initialized w.1.cls ∈ qTBL ∧ (w.1.cls ≠ "java/lang/invoke/MethodHandle" ∧ w.1.cls ≠ "java/lang/invoke/VarHandle") ∧ (parseMethodDescriptor w.1.desc).map (fun d => d.parameters.length) = some na ∧ w.2.2.1 ≤ 21
def qMv (w : qY) : Prop := Cond.instanceMethod w.1 ∈ qTBL ∧ Cond.selects w.1.cls w.1 w.1 ∈ qTBL
def qMi (w : qY) : Prop := Cond.instanceMethod w.1 ∈ qTBL ∧ w.1.name = "<init>" ∧ w.2.2.2 = none
theorem q_cats (f : Nat → Nat) (l : List Value) : ((l.map (qv f)).map fun v => v.category).sum = (l.map fun v => v.category).sum := by
  rw [List.map_map]
  congr 1
  exact List.map_congr_left fun v _ => qcat f v
section QCalls
variable {z : qZ} {k : Nat} {y w : qY} {pc : Nat} {Lc st st0 : List Value} {M : qM} {n bc bs mc ms : Nat} {Q Q' : qQ}
theorem EV_callV {idx na r ci : Nat} {T : u_T} {N : Nat} {fs As : List Value} (hd : decode y.2.1 pc = .ok (.invokevirtual idx, 3)) (hl : qLM y.1.cls idx w) (hf : qMf w na) (hv : qMv w) (hr : 0 < r ∧ r ≤ n) (hM : M r = .inr (ci, fs)) (hc : vwCl[ci]? = some (w.1.cls, T, N)) (hct : CT z k w (.ref r :: As) M n mc ms Q') (hst : st0 = As.reverse ++ .ref r :: st) (hn : As.length = na) (hcat : (st.map fun v => v.category).sum ≤ 8)
    (kk : ∀ (v : Option Value) (M' : qM) (n' : Nat), Q' v M' n' → EV z (k + 1) y (pc + 3) Lc (v.toList ++ st) M' n' bc bs Q) : EV z (k + 1) y pc Lc st0 M n (bc + mc) (bs + ms) Q := by
  intro p l e R s m args below meth c D cA b B tc ts Qf C H locs cells slots ls h1 h2 hR hS hl9
  have hb1 := C.2.2.2.2.2.2.2.2.2.1
  obtain ⟨f1, f2, f3, f4, f5⟩ := hf
  have hts := C.2.2.2.2.2.1
  have hpay := qpay hts
  have hbb : ∀ x ∈ qws w, ∀ (a' : Array Value) (U : State), s.WarmedH U.vm → x.before a' U = true := fun x hx => by
    rcases List.mem_cons.mp hx with h | h
    · rw [h]; exact hpay _ f1
    · exact hpay x h
  have hpre : PreV s H w.1.cls (qad b B r) (va_Pc ((Value.ref r :: As).map (qv (qad b B))) (qPre z D cA b B M n)) (As.map (qv (qad b B))) := ⟨q_blind _, va_recv C.2.2.2.2.2.2.1.1 hR.1 hc (qw_here (qad b B) cA hr hM), fun U hU hW => ⟨rfl, q_pre C.2.2.2.2.2.2.2.2.1 C.2.2.2.2.2.2.1 C.2.2.2.2.2.2.2.1 hR hS U hU hW⟩⟩
  have hlen : ∀ sig, parseMethodDescriptor w.1.desc = some sig → na = sig.parameters.length := fun sig h => by rw [h] at f4; exact (Option.some.inj f4).symm
  have hstk : (F0 m pc ls (st0.map (qv (qad b B)))).stack = (As.map (qv (qad b B))).reverse ++ .ref (qad b B r) :: st.map (qv (qad b B)) := by
    rw [hst]
    show List.map _ _ = _
    rw [List.map_append, List.map_reverse]; rfl
  have hroom : 2 * (F0 m pc ls (st0.map (qv (qad b B)))).monitorRoom + ((st.map (qv (qad b B))).map fun v => v.category).sum ≤ 8 := lv_room (by rw [q_cats]; exact hcat)
  refine q_call (rest := st.map (qv (qad b B))) (mc := mc) (ms := ms) (a := (Value.ref (qad b B r) :: As.map (qv (qad b B))).toArray) (D := D) (cA := cA) (b := b) (Q := Q') ?_ hS (fun v M' n' H1 locs1 hq hR1 hS1 => ?_)
  · rcases hl with hl | ⟨host, hl⟩
    · exact va_runV (Ts := qTBL) (own := y.1.cls) ⟨C.1, C.2.1, C.2.2.1, C.2.2.2.1, hts⟩ (hct l D cA b B) ⟨⟨rfl, rfl, by show k + 1 ≤ _; omega, by show 8 + (w.2.2.1 + 11) + 40 * k ≤ _; omega, hbb, List.mem_cons_self, hts _ f1, hts _ f2, f3, hlen, hts _ hl⟩, hts _ hv.1, hts _ hv.2⟩ hpre rfl (by rw [List.length_map]; exact hn) hl9.1 hstk hroom hd ⟨by omega, by omega⟩
    · exact va_runVN (Ts := qTBL) (own := y.1.cls) ⟨C.1, C.2.1, C.2.2.1, C.2.2.2.1, hts⟩ (hct l D cA b B) ⟨⟨⟨rfl, rfl, by show k + 1 ≤ _; omega, by show 8 + (w.2.2.1 + 11) + 40 * k ≤ _; omega, hbb, List.mem_cons_self⟩, hts _ f1, hts _ f2, f3, hlen, hts _ hl⟩, hts _ hv.1, hts _ hv.2⟩ hpre rfl (by rw [List.length_map]; exact hn) hl9.1 hstk hroom hd ⟨by omega, by omega⟩
  · have K := kk v M' n' hq p l e R s m args below meth c D cA b B tc ts Qf C H1 locs1 (cells + mc) (slots + ms) ls (by omega) (by omega) hR1 hS1 hl9
    rw [List.map_append] at K
    cases v <;> exact K
theorem EV_callS {idx na : Nat} {As : List Value} (hd : decode y.2.1 pc = .ok (.invokestatic idx, 3)) (hl : qLM y.1.cls idx w) (hf : qMf w na) (hv : Cond.static w.1 ∈ qTBL) (hct : CT z k w As M n mc ms Q') (hst : st0 = As.reverse ++ st) (hn : As.length = na) (hcat : (st.map fun v => v.category).sum ≤ 8)
    (kk : ∀ (v : Option Value) (M' : qM) (n' : Nat), Q' v M' n' → EV z (k + 1) y (pc + 3) Lc (v.toList ++ st) M' n' bc bs Q) : EV z (k + 1) y pc Lc st0 M n (bc + mc) (bs + ms) Q := by
  intro p l e R s m args below meth c D cA b B tc ts Qf C H locs cells slots ls h1 h2 hR hS hl9
  have hb1 := C.2.2.2.2.2.2.2.2.2.1
  obtain ⟨f1, f2, f3, f4, f5⟩ := hf
  have hts := C.2.2.2.2.2.1
  have hpay := qpay hts
  have hbb : ∀ x ∈ qws w, ∀ (a' : Array Value) (U : State), s.WarmedH U.vm → x.before a' U = true := fun x hx => by
    rcases List.mem_cons.mp hx with h | h
    · rw [h]; exact hpay _ f1
    · exact hpay x h
  have hpre : PreS s H (va_Pc (As.map (qv (qad b B))) (qPre z D cA b B M n)) (As.map (qv (qad b B))) := ⟨q_blind _, fun U hU hW => ⟨rfl, q_pre C.2.2.2.2.2.2.2.2.1 C.2.2.2.2.2.2.1 C.2.2.2.2.2.2.2.1 hR hS U hU hW⟩⟩
  have hlen : ∀ sig, parseMethodDescriptor w.1.desc = some sig → na = sig.parameters.length := fun sig h => by rw [h] at f4; exact (Option.some.inj f4).symm
  have hstk : (F0 m pc ls (st0.map (qv (qad b B)))).stack = (As.map (qv (qad b B))).reverse ++ st.map (qv (qad b B)) := by
    rw [hst]
    show List.map _ _ = _
    rw [List.map_append, List.map_reverse]
  have hroom : 2 * (F0 m pc ls (st0.map (qv (qad b B)))).monitorRoom + ((st.map (qv (qad b B))).map fun v => v.category).sum ≤ 8 := lv_room (by rw [q_cats]; exact hcat)
  refine q_call (rest := st.map (qv (qad b B))) (mc := mc) (ms := ms) (a := (As.map (qv (qad b B))).toArray) (D := D) (cA := cA) (b := b) (Q := Q') ?_ hS (fun v M' n' H1 locs1 hq hR1 hS1 => ?_)
  · rcases hl with hl | ⟨host, hl⟩
    · exact va_runS (Ts := qTBL) (own := y.1.cls) ⟨C.1, C.2.1, C.2.2.1, C.2.2.2.1, hts⟩ (hct l D cA b B) ⟨⟨rfl, rfl, by show k + 1 ≤ _; omega, by show 8 + (w.2.2.1 + 11) + 40 * k ≤ _; omega, hbb, List.mem_cons_self, hts _ f1, hts _ f2, f3, hlen, hts _ hl⟩, hts _ hv⟩ hpre rfl (by rw [List.length_map]; exact hn) hl9.1 hstk hroom hd ⟨by omega, by omega⟩
    · exact va_runSN (Ts := qTBL) (own := y.1.cls) ⟨C.1, C.2.1, C.2.2.1, C.2.2.2.1, hts⟩ (hct l D cA b B) ⟨⟨⟨rfl, rfl, by show k + 1 ≤ _; omega, by show 8 + (w.2.2.1 + 11) + 40 * k ≤ _; omega, hbb, List.mem_cons_self⟩, hts _ f1, hts _ f2, f3, hlen, hts _ hl⟩, hts _ hv, trivial⟩ hpre rfl (by rw [List.length_map]; exact hn) hl9.1 hstk hroom hd ⟨by omega, by omega⟩
  · have K := kk v M' n' hq p l e R s m args below meth c D cA b B tc ts Qf C H1 locs1 (cells + mc) (slots + ms) ls (by omega) (by omega) hR1 hS1 hl9
    rw [List.map_append] at K
    cases v <;> exact K
theorem EV_callI {idx na r : Nat} {As : List Value} (hd : decode y.2.1 pc = .ok (.invokespecial idx, 3)) (hl : qLM y.1.cls idx w) (hf : qMf w na) (hv : qMi w) (hct : CT z k w (.ref r :: As) M n mc ms Q') (hst : st0 = As.reverse ++ .ref r :: st) (hn : As.length = na) (hcat : (st.map fun v => v.category).sum ≤ 8)
    (kk : ∀ (v : Option Value) (M' : qM) (n' : Nat), Q' v M' n' → EV z (k + 1) y (pc + 3) Lc (v.toList ++ st) M' n' bc bs Q) : EV z (k + 1) y pc Lc st0 M n (bc + mc) (bs + ms) Q := by
  intro p l e R s m args below meth c D cA b B tc ts Qf C H locs cells slots ls h1 h2 hR hS hl9
  have hb1 := C.2.2.2.2.2.2.2.2.2.1
  obtain ⟨wn, wb, wl, wr⟩ := w
  obtain ⟨v1, v2, v3⟩ := hv
  cases v3
  obtain ⟨f1, f2, f3, f4, f5⟩ := hf
  have hts := C.2.2.2.2.2.1
  have hpay := qpay hts
  have hbb : ∀ x ∈ qws (wn, wb, wl, none), ∀ (a' : Array Value) (U : State), s.WarmedH U.vm → x.before a' U = true := fun x hx => by
    rcases List.mem_cons.mp hx with h | h
    · rw [h]; exact hpay _ f1
    · exact hpay x h
  have hpre : PreS s H (va_Pc ((Value.ref r :: As).map (qv (qad b B))) (qPre z D cA b B M n)) (.ref (qad b B r) :: As.map (qv (qad b B))) := ⟨q_blind _, fun U hU hW => ⟨rfl, q_pre C.2.2.2.2.2.2.2.2.1 C.2.2.2.2.2.2.1 C.2.2.2.2.2.2.2.1 hR hS U hU hW⟩⟩
  have hlen : ∀ sig, parseMethodDescriptor wn.desc = some sig → na = sig.parameters.length := fun sig h => by
    have f4' : (parseMethodDescriptor wn.desc).map (fun d => d.parameters.length) = some na := f4
    rw [h] at f4'; exact (Option.some.inj f4').symm
  have hstk : (F0 m pc ls (st0.map (qv (qad b B)))).stack = (As.map (qv (qad b B))).reverse ++ .ref (qad b B r) :: st.map (qv (qad b B)) := by
    rw [hst]
    show List.map _ _ = _
    rw [List.map_append, List.map_reverse]; rfl
  have hroom : 2 * (F0 m pc ls (st0.map (qv (qad b B)))).monitorRoom + ((st.map (qv (qad b B))).map fun v => v.category).sum ≤ 8 := lv_room (by rw [q_cats]; exact hcat)
  have f5' : wl ≤ 21 := f5
  refine q_call (rest := st.map (qv (qad b B))) (mc := mc) (ms := ms) (a := (Value.ref (qad b B r) :: As.map (qv (qad b B))).toArray) (D := D) (cA := cA) (b := b) (Q := Q') ?_ hS (fun v M' n' H1 locs1 hq hR1 hS1 => ?_)
  · rcases hl with hl | ⟨host, hl⟩
    · exact va_runI (Ts := qTBL) (own := y.1.cls) ⟨C.1, C.2.1, C.2.2.1, C.2.2.2.1, hts⟩ (hct l D cA b B) ⟨⟨rfl, rfl, by show k + 1 ≤ _; omega, by show 8 + (wl + 11) + 40 * k ≤ _; omega, hbb, List.mem_cons_self, hts _ f1, hts _ f2, f3, hlen, hts _ hl⟩, v2, hts _ v1⟩ hpre rfl (by rw [List.length_map]; exact hn) hl9.1 hstk hroom hd ⟨by omega, by omega⟩
    · exact va_runIN (Ts := qTBL) (own := y.1.cls) ⟨C.1, C.2.1, C.2.2.1, C.2.2.2.1, hts⟩ (hct l D cA b B) ⟨⟨⟨rfl, rfl, by show k + 1 ≤ _; omega, by show 8 + (wl + 11) + 40 * k ≤ _; omega, hbb, List.mem_cons_self⟩, hts _ f1, hts _ f2, f3, hlen, hts _ hl⟩, v2, hts _ v1⟩ hpre rfl (by rw [List.length_map]; exact hn) hl9.1 hstk hroom hd ⟨by omega, by omega⟩
  · have K := kk v M' n' hq p l e R s m args below meth c D cA b B tc ts Qf C H1 locs1 (cells + mc) (slots + ms) ls (by omega) (by omega) hR1 hS1 hl9
    rw [List.map_append] at K
    cases v <;> exact K
/-- Object.<init> -/
theorem EV_objInit {idx r : Nat} (hd : decode y.2.1 pc = .ok (.invokespecial idx, 3)) (hl : Cond.methodLink y.1.cls idx Lib.objectInit ∈ qTBL) (hi : Cond.instanceMethod Lib.objectInit ∈ qTBL) (hc : Cond.code Lib.objectInit ⟨#[0xb1]⟩ 1 none ∈ qTBL) (hcat : (st.map fun v => v.category).sum ≤ 8)
    (kk : EV z (k + 1) y (pc + 3) Lc st M n bc bs Q) : EV z (k + 1) y pc Lc (.ref r :: st) M n bc bs Q := by
  intro p l e R s m args below meth c D cA b B tc ts Qf C H locs cells slots ls h1 h2 hR hS hl9
  have hb1 := C.2.2.2.2.2.2.2.2.2.1
  have hts := C.2.2.2.2.2.1
  refine W.objInit C.1 C.2.1 C.2.2.2.1 (hts _ hl) (hts _ hi) (hts _ hc) rfl (hl9.1.trans C.2.2.1.symm) rfl hd (by omega) ?_ (kk p l e R s m args below meth c D cA b B tc ts Qf C H locs cells slots ls h1 h2 hR hS hl9)
  have h9 : 2 * (F0 m pc ls ((Value.ref r :: st).map (qv (qad b B)))).monitorRoom + ((st.map (qv (qad b B))).map fun v => v.category).sum ≤ 8 := lv_room (by rw [q_cats]; exact hcat)
  omega
theorem EV_max {idx : Nat} {x x0 : Int32} (hd : decode y.2.1 pc = .ok (.invokestatic idx, 3)) (hl : Cond.methodLink y.1.cls idx Lib.Math.max.name ∈ qTBL) (h3 : Cond.static Lib.Math.max.name ∈ qTBL) (h4 : Cond.initialized "java/lang/Math" ∈ qTBL) (h5 : Cond.code Lib.Math.max.name Lib.Math.max.code 2 (some .int) ∈ qTBL) (hcat : (st.map fun v => v.category).sum ≤ 8)
    (kk : EV z (k + 1) y (pc + 3) Lc (.int (if x < x0 then x0 else x) :: st) M n bc bs Q) : EV z (k + 1) y pc Lc (.int x0 :: .int x :: st) M n bc bs Q := by
  intro p l e R s m args below meth c D cA b B tc ts Qf C H locs cells slots ls h1 h2 hR hS hl9
  have hb1 := C.2.2.2.2.2.2.2.2.2.1
  have hts := C.2.2.2.2.2.1
  have h9 : ((st.map (qv (qad b B))).map fun v => v.category).sum ≤ 8 := by rw [q_cats]; exact hcat
  exact va_mmax C.1 C.2.1 (C.2.2.1.trans hl9.1.symm) C.2.2.2.1 (hts _ hl) (hts _ h3) (hts _ h4) (hts _ h5) (by omega) (by omega) (by omega) (by omega) hd (kk p l e R s m args below meth c D cA b B tc ts Qf C H locs cells slots ls h1 h2 hR hS hl9)
theorem EV_min {idx : Nat} {x x0 : Int32} (hd : decode y.2.1 pc = .ok (.invokestatic idx, 3)) (hl : Cond.methodLink y.1.cls idx Lib.Math.min.name ∈ qTBL) (h3 : Cond.static Lib.Math.min.name ∈ qTBL) (h4 : Cond.initialized "java/lang/Math" ∈ qTBL) (h5 : Cond.code Lib.Math.min.name Lib.Math.min.code 2 (some .int) ∈ qTBL) (hcat : (st.map fun v => v.category).sum ≤ 8)
    (kk : EV z (k + 1) y (pc + 3) Lc (.int (if x0 < x then x0 else x) :: st) M n bc bs Q) : EV z (k + 1) y pc Lc (.int x0 :: .int x :: st) M n bc bs Q := by
  intro p l e R s m args below meth c D cA b B tc ts Qf C H locs cells slots ls h1 h2 hR hS hl9
  have hb1 := C.2.2.2.2.2.2.2.2.2.1
  have hts := C.2.2.2.2.2.1
  have h9 : ((st.map (qv (qad b B))).map fun v => v.category).sum ≤ 8 := by rw [q_cats]; exact hcat
  exact va_mmin C.1 C.2.1 (C.2.2.1.trans hl9.1.symm) C.2.2.2.1 (hts _ hl) (hts _ h3) (hts _ h4) (hts _ h5) (by omega) (by omega) (by omega) (by omega) hd (kk p l e R s m args below meth c D cA b B tc ts Qf C H locs cells slots ls h1 h2 hR hS hl9)
theorem EV_abs {idx : Nat} {x : Int32} (hd : decode y.2.1 pc = .ok (.invokestatic idx, 3)) (hl : Cond.methodLink y.1.cls idx Lib.Math.abs.name ∈ qTBL) (h3 : Cond.static Lib.Math.abs.name ∈ qTBL) (h4 : Cond.initialized "java/lang/Math" ∈ qTBL) (h5 : Cond.code Lib.Math.abs.name Lib.Math.abs.code 1 (some .int) ∈ qTBL) (hcat : (st.map fun v => v.category).sum ≤ 8)
    (kk : EV z (k + 1) y (pc + 3) Lc (.int (if 0 ≤ x then x else 0 - x) :: st) M n bc bs Q) : EV z (k + 1) y pc Lc (.int x :: st) M n bc bs Q := by
  intro p l e R s m args below meth c D cA b B tc ts Qf C H locs cells slots ls h1 h2 hR hS hl9
  have hb1 := C.2.2.2.2.2.2.2.2.2.1
  have hts := C.2.2.2.2.2.1
  have h9 : ((st.map (qv (qad b B))).map fun v => v.category).sum ≤ 8 := by rw [q_cats]; exact hcat
  exact va_mabs C.1 C.2.1 (C.2.2.1.trans hl9.1.symm) C.2.2.2.1 (hts _ hl) (hts _ h3) (hts _ h4) (hts _ h5) (by omega) (by omega) (by omega) (by omega) hd (kk p l e R s m args below meth c D cA b B tc ts Qf C H locs cells slots ls h1 h2 hR hS hl9)
/-- System.arraycopy: the first len ints of a row over those of another one as long -/
theorem EV_acopy {idx r0 r1 len : Nat} {f g : Nat → Int32} {cn : Int32} (hd : decode y.2.1 pc = .ok (.invokestatic idx, 3)) (hl : Cond.methodLink y.1.cls idx arraycopyName ∈ qTBL) (hnat : Cond.native arraycopyName ∈ qTBL) (h3 : Cond.static arraycopyName ∈ qTBL) (h4 : Cond.initialized "java/lang/System" ∈ qTBL) (hr0 : 0 < r0 ∧ r0 ≤ n) (hr1 : 0 < r1 ∧ r1 ≤ n) (hM0 : M r0 = .inl (0, len, .inl f)) (hM1 : M r1 = .inl (0, len, .inl g)) (hcn : cn.toInt = (len : Int)) (hcat : (st.map fun v => v.category).sum ≤ 8)
    (kk : EV z (k + 1) y (pc + 3) Lc st (qset M r1 (.inl (0, len, .inl (va_cpy f g 0 0 len)))) n bc bs Q) : EV z (k + 1) y pc Lc (.int cn :: .int 0 :: .ref r1 :: .int 0 :: .ref r0 :: st) M n bc bs Q := by
  intro p l e R s m args below meth c D cA b B tc ts Qf C H locs cells slots ls h1 h2 hR hS hl9
  have hb1 := C.2.2.2.2.2.2.2.2.2.1
  have hts := C.2.2.2.2.2.1
  have hK := C.2.2.2.2.2.2.1.1
  have h9 : ((st.map (qv (qad b B))).map fun v => v.category).sum ≤ 8 := by rw [q_cats]; exact hcat
  have hnw : nativeFrameWords "java/lang/System" "arraycopy" 5 + 11 ≤ 32 := by decide +kernel
  have hD := qw_D b B C.2.2.2.2.2.2.2.2.1.1 cA M n
  have he0 := qw_here (qad b B) cA hr0 hM0
  have he1 := qw_here (qad b B) cA hr1 hM1
  have c0 : H[qad b B r0]? = some (vp_cell (cA 0) (len, .inl f)) := hR.1 (r0 - 1) _ he0
  have c1 : H[qad b B r1]? = some (vp_cell (cA 0) (len, .inl g)) := hR.1 (r1 - 1) _ he1
  have hcl : cn.toNatClampNeg = len := by show cn.toInt.toNat = len; omega
  have hn0 : ¬ cn < 0 := fun hh => by
    have := Int32.lt_iff_toInt_lt.mp hh
    simp at this
    omega
  obtain ⟨-, k0, hk0, cm0, hkk0⟩ := (hK.2 0 _ rfl).1 len (fun j => .int (f j))
  obtain ⟨-, k1, hk1, cm1, hkk1⟩ := (hK.2 0 _ rfl).1 len (fun j => .int (g j))
  intro U hU X
  obtain ⟨vm', X', step⟩ := X.arraycopy C.1 C.2.2.2.1 (hts _ hl) (hts _ hnat) (hts _ h3) (hts _ h4) (src := qad b B r0) (dst := qad b B r1) (cs := vp_cell (cA 0) (len, .inl f)) (cd := vp_cell (cA 0) (len, .inl g)) (srcPos := 0) (destPos := 0) (n := cn) (by rw [hU]; exact c0) (by rw [hU]; exact c1)
    (fun _ h => by cases h) (fun _ h => by cases h) (fun h => by cases h) (fun h => by cases h) hk0 hk1 hkk0 hkk1 (by simp [refKind]) (by decide) (by decide) hn0
    (by rw [hcn]; show ¬ _ > ((arrV (cA 0) len (fun j => Value.int (f j))).slots.size : Int); rw [arrV_size]; simp)
    (by rw [hcn]; show ¬ _ > ((arrV (cA 0) len (fun j => Value.int (g j))).slots.size : Int); rw [arrV_size]; simp)
    (fun vm₁ _ i hi => by
      have hi' : i < len := by rw [← hcl]; exact hi
      have e : (vp_cell (cA 0) (len, .inl f)).slots.getD ((0 : Int32).toNatClampNeg + i) .null = .int (f i) := by
        rw [show (0 : Int32).toNatClampNeg + i = i from Nat.zero_add i, Array.getD_eq_getD_getElem?, show (vp_cell (cA 0) (len, .inl f)).slots[i]? = some (.int (f i)) from arrV_read _ (fun j => Value.int (f j)) hi']
        rfl
      exact ⟨by rw [e]; rfl, by rw [e]; exact trivial⟩)
    (g := F0 m pc ls (.int cn :: .int 0 :: .ref (qad b B r1) :: .int 0 :: .ref (qad b B r0) :: st.map (qv (qad b B)))) rfl (hl9.1.trans C.2.2.1.symm) (rest := st.map (qv (qad b B))) rfl (by rw [C.2.1]; exact hd) (by omega) (by show 2 * 0 + _ + _ ≤ _; omega)
  have e1 : copied (vp_cell (cA 0) (len, .inl f)) (vp_cell (cA 0) (len, .inl g)) 0 0 cn = vp_cell (cA 0) (len, .inl (va_cpy f g 0 0 len)) := by
    have e2 := va_copied (fun z => Value.int z) (cA 0) (cA 0) (n0 := len) (n1 := len) (sp := (0 : Int32).toNatClampNeg) (dp := (0 : Int32).toNatClampNeg) (n := cn.toNatClampNeg) f g (by show 0 + cn.toNatClampNeg ≤ len; omega)
    refine (show copied _ _ _ _ _ = _ from e2).trans ?_
    rw [hcl]
    rfl
  rw [e1] at X' step
  have hl1 : qad b B r1 < H.size := (Array.getElem?_eq_some_iff.mp c1).1
  have oq : ∀ q : Nat, q ≠ qad b B r1 → (H.setIfInBounds (qad b B r1) (vp_cell (cA 0) (len, .inl (va_cpy f g 0 0 len))))[q]? = H[q]? := fun q hq => by simp [Array.getElem?_setIfInBounds, Ne.symm hq]
  have hP := hR.1.set (e := qe (qad b B) cA (.inl (0, len, .inl (va_cpy f g 0 0 len)))) hD he1 (H1 := H.setIfInBounds (qad b B r1) (vp_cell (cA 0) (len, .inl (va_cpy f g 0 0 len)))) (by show (H.setIfInBounds _ _)[qad b B r1]? = some _; simp [Array.getElem?_setIfInBounds, hl1]; rfl) oq
  rw [qw_put (qad b B) cA hr1] at hP
  obtain ⟨t, a1, b1⟩ := kk p l e R s m args below meth c D cA b B tc ts Qf C (H.setIfInBounds (qad b B r1) (vp_cell (cA 0) (len, .inl (va_cpy f g 0 0 len)))) _ cells slots ls h1 h2 ⟨hP, by rw [Array.size_setIfInBounds]; exact hR.2⟩ ⟨by rw [Array.size_setIfInBounds]; exact hS.1, fun q g1 g2 => by
      rw [oq q (fun e => g2 (by rw [e]; exact hD.2 (r1 - 1) _ he1))]
      exact hS.2.1 q g1 g2, fun q hq => by
      rcases List.mem_append.mp hq with h | h
      · exact hS.2.2 q h
      · obtain ⟨z, -, hz⟩ := List.mem_map.mp h
        rw [← hz]
        exact hD.2 (r1 - 1) _ he1⟩ hl9 _ (by rw [← hU]; rfl) X'
  exact ⟨t, step t a1, b1⟩
end QCalls
end
