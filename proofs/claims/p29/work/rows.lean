section
-- ===== PART A: goes FIRST, ahead of the names: the tables' words, and 'selects' of the private methods out of them =====
/-- a private method of a class that the tables say can be made, by its rows of tables_1 -/
def lw_okq (q : MethodName × Nat) : Prop := (q.1.cls ≠ "java/lang/invoke/MethodHandle" ∧ q.1.cls ≠ "java/lang/invoke/VarHandle") ∧ Cond.instantiable q.1.cls q.2 ∈ tables_1 ∧ Cond.privateMethod q.1 ∈ tables_1 ∧ Cond.instanceMethod q.1 ∈ tables_1
theorem lw_p0 : lw_okq (⟨"java/lang/Throwable", "fillInStackTrace", "(I)Ljava/lang/Throwable;"⟩, 6) := ⟨⟨by decide +kernel, by decide +kernel⟩, List.mem_of_getElem? (i := 372) (by decide +kernel), List.mem_of_getElem? (i := 370) (by decide +kernel), List.mem_of_getElem? (i := 371) (by decide +kernel)⟩
theorem lw_p1 : lw_okq (⟨"LowAir$Ground", "addPad", "(I)I"⟩, 9) := ⟨⟨by decide +kernel, by decide +kernel⟩, List.mem_of_getElem? (i := 28) (by decide +kernel), List.mem_of_getElem? (i := 448) (by decide +kernel), List.mem_of_getElem? (i := 449) (by decide +kernel)⟩
theorem lw_p2 : lw_okq (⟨"LowAir$Ground", "addZone", "(IIII)I"⟩, 9) := ⟨⟨by decide +kernel, by decide +kernel⟩, List.mem_of_getElem? (i := 28) (by decide +kernel), List.mem_of_getElem? (i := 456) (by decide +kernel), List.mem_of_getElem? (i := 457) (by decide +kernel)⟩
theorem lw_p3 : lw_okq (⟨"LowAir", "checkCraft", "(I)V"⟩, 6) := ⟨⟨by decide +kernel, by decide +kernel⟩, List.mem_of_getElem? (i := 20) (by decide +kernel), List.mem_of_getElem? (i := 472) (by decide +kernel), List.mem_of_getElem? (i := 473) (by decide +kernel)⟩
theorem lw_p4 : lw_okq (⟨"LowAir$Sky", "isCraft", "(I)Z"⟩, 9) := ⟨⟨by decide +kernel, by decide +kernel⟩, List.mem_of_getElem? (i := 103) (by decide +kernel), List.mem_of_getElem? (i := 476) (by decide +kernel), List.mem_of_getElem? (i := 477) (by decide +kernel)⟩
theorem lw_p5 : lw_okq (⟨"LowAir", "checkFlight", "(I)V"⟩, 6) := ⟨⟨by decide +kernel, by decide +kernel⟩, List.mem_of_getElem? (i := 20) (by decide +kernel), List.mem_of_getElem? (i := 488) (by decide +kernel), List.mem_of_getElem? (i := 489) (by decide +kernel)⟩
theorem lw_p6 : lw_okq (⟨"LowAir$Judge", "plannedNoise", "(II)I"⟩, 3) := ⟨⟨by decide +kernel, by decide +kernel⟩, List.mem_of_getElem? (i := 270) (by decide +kernel), List.mem_of_getElem? (i := 496) (by decide +kernel), List.mem_of_getElem? (i := 497) (by decide +kernel)⟩
theorem lw_p7 : lw_okq (⟨"LowAir$Judge", "planDay", "(I)V"⟩, 3) := ⟨⟨by decide +kernel, by decide +kernel⟩, List.mem_of_getElem? (i := 270) (by decide +kernel), List.mem_of_getElem? (i := 500) (by decide +kernel), List.mem_of_getElem? (i := 501) (by decide +kernel)⟩
theorem lw_p8 : lw_okq (⟨"LowAir$Flight", "isPlannedOn", "(I)Z"⟩, 4) := ⟨⟨by decide +kernel, by decide +kernel⟩, List.mem_of_getElem? (i := 181) (by decide +kernel), List.mem_of_getElem? (i := 505) (by decide +kernel), List.mem_of_getElem? (i := 506) (by decide +kernel)⟩
theorem lw_p9 : lw_okq (⟨"LowAir$Flight", "isAhead", "()Z"⟩, 4) := ⟨⟨by decide +kernel, by decide +kernel⟩, List.mem_of_getElem? (i := 181) (by decide +kernel), List.mem_of_getElem? (i := 509) (by decide +kernel), List.mem_of_getElem? (i := 510) (by decide +kernel)⟩
theorem lw_p10 : lw_okq (⟨"LowAir$Judge", "plan", "(LLowAir$Craft;LLowAir$Route;)V"⟩, 3) := ⟨⟨by decide +kernel, by decide +kernel⟩, List.mem_of_getElem? (i := 270) (by decide +kernel), List.mem_of_getElem? (i := 514) (by decide +kernel), List.mem_of_getElem? (i := 515) (by decide +kernel)⟩
theorem lw_p11 : lw_okq (⟨"LowAir$Route", "at", "(I)I"⟩, 2) := ⟨⟨by decide +kernel, by decide +kernel⟩, List.mem_of_getElem? (i := 187) (by decide +kernel), List.mem_of_getElem? (i := 518) (by decide +kernel), List.mem_of_getElem? (i := 519) (by decide +kernel)⟩
theorem lw_p12 : lw_okq (⟨"LowAir$Sky", "flyingIn", "(I)I"⟩, 9) := ⟨⟨by decide +kernel, by decide +kernel⟩, List.mem_of_getElem? (i := 103) (by decide +kernel), List.mem_of_getElem? (i := 523) (by decide +kernel), List.mem_of_getElem? (i := 524) (by decide +kernel)⟩
theorem lw_p13 : lw_okq (⟨"LowAir$Route", "endFrom", "(I)I"⟩, 2) := ⟨⟨by decide +kernel, by decide +kernel⟩, List.mem_of_getElem? (i := 187) (by decide +kernel), List.mem_of_getElem? (i := 537) (by decide +kernel), List.mem_of_getElem? (i := 538) (by decide +kernel)⟩
theorem lw_p14 : lw_okq (⟨"LowAir$Sky", "flightsIn", "(I)I"⟩, 9) := ⟨⟨by decide +kernel, by decide +kernel⟩, List.mem_of_getElem? (i := 103) (by decide +kernel), List.mem_of_getElem? (i := 546) (by decide +kernel), List.mem_of_getElem? (i := 547) (by decide +kernel)⟩
theorem lw_p15 : lw_okq (⟨"LowAir$Sky", "allBreaches", "()I"⟩, 9) := ⟨⟨by decide +kernel, by decide +kernel⟩, List.mem_of_getElem? (i := 103) (by decide +kernel), List.mem_of_getElem? (i := 550) (by decide +kernel), List.mem_of_getElem? (i := 551) (by decide +kernel)⟩
def lw_privs_1 : List (MethodName × Nat) := [(⟨"java/lang/Throwable", "fillInStackTrace", "(I)Ljava/lang/Throwable;"⟩, 6), (⟨"LowAir$Ground", "addPad", "(I)I"⟩, 9), (⟨"LowAir$Ground", "addZone", "(IIII)I"⟩, 9), (⟨"LowAir", "checkCraft", "(I)V"⟩, 6), (⟨"LowAir$Sky", "isCraft", "(I)Z"⟩, 9), (⟨"LowAir", "checkFlight", "(I)V"⟩, 6), (⟨"LowAir$Judge", "plannedNoise", "(II)I"⟩, 3), (⟨"LowAir$Judge", "planDay", "(I)V"⟩, 3), (⟨"LowAir$Flight", "isPlannedOn", "(I)Z"⟩, 4), (⟨"LowAir$Flight", "isAhead", "()Z"⟩, 4), (⟨"LowAir$Judge", "plan", "(LLowAir$Craft;LLowAir$Route;)V"⟩, 3), (⟨"LowAir$Route", "at", "(I)I"⟩, 2), (⟨"LowAir$Sky", "flyingIn", "(I)I"⟩, 9), (⟨"LowAir$Route", "endFrom", "(I)I"⟩, 2), (⟨"LowAir$Sky", "flightsIn", "(I)I"⟩, 9), (⟨"LowAir$Sky", "allBreaches", "()I"⟩, 9)]
theorem lw_r1 : ∀ q ∈ lw_privs_1, lw_okq q := List.forall_mem_cons.mpr ⟨lw_p0, List.forall_mem_cons.mpr ⟨lw_p1, List.forall_mem_cons.mpr ⟨lw_p2, List.forall_mem_cons.mpr ⟨lw_p3, List.forall_mem_cons.mpr ⟨lw_p4, List.forall_mem_cons.mpr ⟨lw_p5, List.forall_mem_cons.mpr ⟨lw_p6, List.forall_mem_cons.mpr ⟨lw_p7, List.forall_mem_cons.mpr ⟨lw_p8, List.forall_mem_cons.mpr ⟨lw_p9, List.forall_mem_cons.mpr ⟨lw_p10, List.forall_mem_cons.mpr ⟨lw_p11, List.forall_mem_cons.mpr ⟨lw_p12, List.forall_mem_cons.mpr ⟨lw_p13, List.forall_mem_cons.mpr ⟨lw_p14, List.forall_mem_cons.mpr ⟨lw_p15, fun _ h => absurd h List.not_mem_nil⟩⟩⟩⟩⟩⟩⟩⟩⟩⟩⟩⟩⟩⟩⟩⟩
theorem lw_p16 : lw_okq (⟨"LowAir$Sky", "copyFrom", "(LLowAir$Sky;)V"⟩, 9) := ⟨⟨by decide +kernel, by decide +kernel⟩, List.mem_of_getElem? (i := 103) (by decide +kernel), List.mem_of_getElem? (i := 566) (by decide +kernel), List.mem_of_getElem? (i := 567) (by decide +kernel)⟩
theorem lw_p17 : lw_okq (⟨"LowAir$Craft", "copyFrom", "(LLowAir$Craft;)V"⟩, 12) := ⟨⟨by decide +kernel, by decide +kernel⟩, List.mem_of_getElem? (i := 112) (by decide +kernel), List.mem_of_getElem? (i := 570) (by decide +kernel), List.mem_of_getElem? (i := 571) (by decide +kernel)⟩
theorem lw_p18 : lw_okq (⟨"LowAir$Flight", "copyFrom", "(LLowAir$Flight;)V"⟩, 4) := ⟨⟨by decide +kernel, by decide +kernel⟩, List.mem_of_getElem? (i := 181) (by decide +kernel), List.mem_of_getElem? (i := 574) (by decide +kernel), List.mem_of_getElem? (i := 575) (by decide +kernel)⟩
theorem lw_p19 : lw_okq (⟨"LowAir$Route", "copyFrom", "(LLowAir$Route;)V"⟩, 2) := ⟨⟨by decide +kernel, by decide +kernel⟩, List.mem_of_getElem? (i := 187) (by decide +kernel), List.mem_of_getElem? (i := 578) (by decide +kernel), List.mem_of_getElem? (i := 579) (by decide +kernel)⟩
theorem lw_p20 : lw_okq (⟨"LowAir$Sky", "play", "(I)V"⟩, 9) := ⟨⟨by decide +kernel, by decide +kernel⟩, List.mem_of_getElem? (i := 103) (by decide +kernel), List.mem_of_getElem? (i := 586) (by decide +kernel), List.mem_of_getElem? (i := 587) (by decide +kernel)⟩
theorem lw_p21 : lw_okq (⟨"LowAir$Sky", "startOrMissIfDue", "(I)V"⟩, 9) := ⟨⟨by decide +kernel, by decide +kernel⟩, List.mem_of_getElem? (i := 103) (by decide +kernel), List.mem_of_getElem? (i := 591) (by decide +kernel), List.mem_of_getElem? (i := 592) (by decide +kernel)⟩
theorem lw_p22 : lw_okq (⟨"LowAir$Route", "first", "()I"⟩, 2) := ⟨⟨by decide +kernel, by decide +kernel⟩, List.mem_of_getElem? (i := 187) (by decide +kernel), List.mem_of_getElem? (i := 596) (by decide +kernel), List.mem_of_getElem? (i := 597) (by decide +kernel)⟩
theorem lw_p23 : lw_okq (⟨"LowAir$Sky", "comeIn", "(LLowAir$Craft;)V"⟩, 9) := ⟨⟨by decide +kernel, by decide +kernel⟩, List.mem_of_getElem? (i := 103) (by decide +kernel), List.mem_of_getElem? (i := 600) (by decide +kernel), List.mem_of_getElem? (i := 601) (by decide +kernel)⟩
theorem lw_p24 : lw_okq (⟨"LowAir$Ground", "isShut", "(III)Z"⟩, 9) := ⟨⟨by decide +kernel, by decide +kernel⟩, List.mem_of_getElem? (i := 28) (by decide +kernel), List.mem_of_getElem? (i := 605) (by decide +kernel), List.mem_of_getElem? (i := 606) (by decide +kernel)⟩
theorem lw_p25 : lw_okq (⟨"LowAir$Zone", "shuts", "(III)Z"⟩, 4) := ⟨⟨by decide +kernel, by decide +kernel⟩, List.mem_of_getElem? (i := 38) (by decide +kernel), List.mem_of_getElem? (i := 609) (by decide +kernel), List.mem_of_getElem? (i := 610) (by decide +kernel)⟩
theorem lw_p26 : lw_okq (⟨"LowAir$Sky", "isToMove", "(LLowAir$Craft;)Z"⟩, 9) := ⟨⟨by decide +kernel, by decide +kernel⟩, List.mem_of_getElem? (i := 103) (by decide +kernel), List.mem_of_getElem? (i := 613) (by decide +kernel), List.mem_of_getElem? (i := 614) (by decide +kernel)⟩
theorem lw_p27 : lw_okq (⟨"LowAir$Sky", "move", "(LLowAir$Craft;)V"⟩, 9) := ⟨⟨by decide +kernel, by decide +kernel⟩, List.mem_of_getElem? (i := 103) (by decide +kernel), List.mem_of_getElem? (i := 617) (by decide +kernel), List.mem_of_getElem? (i := 618) (by decide +kernel)⟩
theorem lw_p28 : lw_okq (⟨"LowAir$Craft", "nextCellHome", "()I"⟩, 12) := ⟨⟨by decide +kernel, by decide +kernel⟩, List.mem_of_getElem? (i := 112) (by decide +kernel), List.mem_of_getElem? (i := 621) (by decide +kernel), List.mem_of_getElem? (i := 622) (by decide +kernel)⟩
theorem lw_p29 : lw_okq (⟨"LowAir$Sky", "movesInto", "(LLowAir$Craft;LLowAir$Flight;I)Z"⟩, 9) := ⟨⟨by decide +kernel, by decide +kernel⟩, List.mem_of_getElem? (i := 103) (by decide +kernel), List.mem_of_getElem? (i := 626) (by decide +kernel), List.mem_of_getElem? (i := 627) (by decide +kernel)⟩
theorem lw_p30 : lw_okq (⟨"LowAir$Ground", "costOfMove", "(I)I"⟩, 9) := ⟨⟨by decide +kernel, by decide +kernel⟩, List.mem_of_getElem? (i := 28) (by decide +kernel), List.mem_of_getElem? (i := 637) (by decide +kernel), List.mem_of_getElem? (i := 638) (by decide +kernel)⟩
theorem lw_p31 : lw_okq (⟨"LowAir$Craft", "goDown", "()V"⟩, 12) := ⟨⟨by decide +kernel, by decide +kernel⟩, List.mem_of_getElem? (i := 112) (by decide +kernel), List.mem_of_getElem? (i := 644) (by decide +kernel), List.mem_of_getElem? (i := 645) (by decide +kernel)⟩
def lw_privs_2 : List (MethodName × Nat) := [(⟨"LowAir$Sky", "copyFrom", "(LLowAir$Sky;)V"⟩, 9), (⟨"LowAir$Craft", "copyFrom", "(LLowAir$Craft;)V"⟩, 12), (⟨"LowAir$Flight", "copyFrom", "(LLowAir$Flight;)V"⟩, 4), (⟨"LowAir$Route", "copyFrom", "(LLowAir$Route;)V"⟩, 2), (⟨"LowAir$Sky", "play", "(I)V"⟩, 9), (⟨"LowAir$Sky", "startOrMissIfDue", "(I)V"⟩, 9), (⟨"LowAir$Route", "first", "()I"⟩, 2), (⟨"LowAir$Sky", "comeIn", "(LLowAir$Craft;)V"⟩, 9), (⟨"LowAir$Ground", "isShut", "(III)Z"⟩, 9), (⟨"LowAir$Zone", "shuts", "(III)Z"⟩, 4), (⟨"LowAir$Sky", "isToMove", "(LLowAir$Craft;)Z"⟩, 9), (⟨"LowAir$Sky", "move", "(LLowAir$Craft;)V"⟩, 9), (⟨"LowAir$Craft", "nextCellHome", "()I"⟩, 12), (⟨"LowAir$Sky", "movesInto", "(LLowAir$Craft;LLowAir$Flight;I)Z"⟩, 9), (⟨"LowAir$Ground", "costOfMove", "(I)I"⟩, 9), (⟨"LowAir$Craft", "goDown", "()V"⟩, 12)]
theorem lw_r2 : ∀ q ∈ lw_privs_2, lw_okq q := List.forall_mem_cons.mpr ⟨lw_p16, List.forall_mem_cons.mpr ⟨lw_p17, List.forall_mem_cons.mpr ⟨lw_p18, List.forall_mem_cons.mpr ⟨lw_p19, List.forall_mem_cons.mpr ⟨lw_p20, List.forall_mem_cons.mpr ⟨lw_p21, List.forall_mem_cons.mpr ⟨lw_p22, List.forall_mem_cons.mpr ⟨lw_p23, List.forall_mem_cons.mpr ⟨lw_p24, List.forall_mem_cons.mpr ⟨lw_p25, List.forall_mem_cons.mpr ⟨lw_p26, List.forall_mem_cons.mpr ⟨lw_p27, List.forall_mem_cons.mpr ⟨lw_p28, List.forall_mem_cons.mpr ⟨lw_p29, List.forall_mem_cons.mpr ⟨lw_p30, List.forall_mem_cons.mpr ⟨lw_p31, fun _ h => absurd h List.not_mem_nil⟩⟩⟩⟩⟩⟩⟩⟩⟩⟩⟩⟩⟩⟩⟩⟩
theorem lw_p32 : lw_okq (⟨"LowAir$Craft", "landAt", "(I)V"⟩, 12) := ⟨⟨by decide +kernel, by decide +kernel⟩, List.mem_of_getElem? (i := 112) (by decide +kernel), List.mem_of_getElem? (i := 648) (by decide +kernel), List.mem_of_getElem? (i := 649) (by decide +kernel)⟩
theorem lw_p33 : lw_okq (⟨"LowAir$Sky", "pairsNear", "()I"⟩, 9) := ⟨⟨by decide +kernel, by decide +kernel⟩, List.mem_of_getElem? (i := 103) (by decide +kernel), List.mem_of_getElem? (i := 652) (by decide +kernel), List.mem_of_getElem? (i := 653) (by decide +kernel)⟩
theorem lw_p34 : lw_okq (⟨"LowAir$Sky", "chargeIfLying", "(LLowAir$Craft;)V"⟩, 9) := ⟨⟨by decide +kernel, by decide +kernel⟩, List.mem_of_getElem? (i := 103) (by decide +kernel), List.mem_of_getElem? (i := 656) (by decide +kernel), List.mem_of_getElem? (i := 657) (by decide +kernel)⟩
theorem lw_p35 : lw_okq (⟨"LowAir$Flight", "occupiesIn", "(II)Z"⟩, 4) := ⟨⟨by decide +kernel, by decide +kernel⟩, List.mem_of_getElem? (i := 181) (by decide +kernel), List.mem_of_getElem? (i := 679) (by decide +kernel), List.mem_of_getElem? (i := 680) (by decide +kernel)⟩
theorem lw_p36 : lw_okq (⟨"LowAir$Search", "fewestMoves", "(LLowAir$Craft;II)I"⟩, 3) := ⟨⟨by decide +kernel, by decide +kernel⟩, List.mem_of_getElem? (i := 286) (by decide +kernel), List.mem_of_getElem? (i := 689) (by decide +kernel), List.mem_of_getElem? (i := 690) (by decide +kernel)⟩
theorem lw_p37 : lw_okq (⟨"LowAir$Search", "least", "(LLowAir$Craft;IIZ)I"⟩, 3) := ⟨⟨by decide +kernel, by decide +kernel⟩, List.mem_of_getElem? (i := 286) (by decide +kernel), List.mem_of_getElem? (i := 693) (by decide +kernel), List.mem_of_getElem? (i := 694) (by decide +kernel)⟩
theorem lw_p38 : lw_okq (⟨"LowAir$Search", "spreadAll", "(Z)Z"⟩, 3) := ⟨⟨by decide +kernel, by decide +kernel⟩, List.mem_of_getElem? (i := 286) (by decide +kernel), List.mem_of_getElem? (i := 701) (by decide +kernel), List.mem_of_getElem? (i := 702) (by decide +kernel)⟩
theorem lw_p39 : lw_okq (⟨"LowAir$Search", "spread", "(IIZ)Z"⟩, 3) := ⟨⟨by decide +kernel, by decide +kernel⟩, List.mem_of_getElem? (i := 286) (by decide +kernel), List.mem_of_getElem? (i := 705) (by decide +kernel), List.mem_of_getElem? (i := 706) (by decide +kernel)⟩
theorem lw_p40 : lw_okq (⟨"LowAir$Search", "leastCharge", "(LLowAir$Craft;II)I"⟩, 3) := ⟨⟨by decide +kernel, by decide +kernel⟩, List.mem_of_getElem? (i := 286) (by decide +kernel), List.mem_of_getElem? (i := 715) (by decide +kernel), List.mem_of_getElem? (i := 716) (by decide +kernel)⟩
theorem lw_p41 : lw_okq (⟨"LowAir$Ground", "isWayFromPadToPad", "(LLowAir$Route;)Z"⟩, 9) := ⟨⟨by decide +kernel, by decide +kernel⟩, List.mem_of_getElem? (i := 28) (by decide +kernel), List.mem_of_getElem? (i := 725) (by decide +kernel), List.mem_of_getElem? (i := 726) (by decide +kernel)⟩
theorem lw_p42 : lw_okq (⟨"LowAir$Ground", "hasPad", "(I)Z"⟩, 9) := ⟨⟨by decide +kernel, by decide +kernel⟩, List.mem_of_getElem? (i := 28) (by decide +kernel), List.mem_of_getElem? (i := 730) (by decide +kernel), List.mem_of_getElem? (i := 731) (by decide +kernel)⟩
theorem lw_p43 : lw_okq (⟨"LowAir$Route", "last", "()I"⟩, 2) := ⟨⟨by decide +kernel, by decide +kernel⟩, List.mem_of_getElem? (i := 187) (by decide +kernel), List.mem_of_getElem? (i := 734) (by decide +kernel), List.mem_of_getElem? (i := 735) (by decide +kernel)⟩
theorem lw_p44 : lw_okq (⟨"LowAir$Judge", "reasonAgainst", "(ILLowAir$Route;I)I"⟩, 3) := ⟨⟨by decide +kernel, by decide +kernel⟩, List.mem_of_getElem? (i := 270) (by decide +kernel), List.mem_of_getElem? (i := 744) (by decide +kernel), List.mem_of_getElem? (i := 745) (by decide +kernel)⟩
theorem lw_p45 : lw_okq (⟨"LowAir$Judge", "meetsTower", "(LLowAir$Route;)Z"⟩, 3) := ⟨⟨by decide +kernel, by decide +kernel⟩, List.mem_of_getElem? (i := 270) (by decide +kernel), List.mem_of_getElem? (i := 748) (by decide +kernel), List.mem_of_getElem? (i := 749) (by decide +kernel)⟩
theorem lw_p46 : lw_okq (⟨"LowAir$Judge", "meetsZone", "(LLowAir$Craft;LLowAir$Route;I)Z"⟩, 3) := ⟨⟨by decide +kernel, by decide +kernel⟩, List.mem_of_getElem? (i := 270) (by decide +kernel), List.mem_of_getElem? (i := 752) (by decide +kernel), List.mem_of_getElem? (i := 753) (by decide +kernel)⟩
theorem lw_p47 : lw_okq (⟨"LowAir$Judge", "meetsOthers", "(ILLowAir$Route;I)Z"⟩, 3) := ⟨⟨by decide +kernel, by decide +kernel⟩, List.mem_of_getElem? (i := 270) (by decide +kernel), List.mem_of_getElem? (i := 757) (by decide +kernel), List.mem_of_getElem? (i := 758) (by decide +kernel)⟩
def lw_privs_3 : List (MethodName × Nat) := [(⟨"LowAir$Craft", "landAt", "(I)V"⟩, 12), (⟨"LowAir$Sky", "pairsNear", "()I"⟩, 9), (⟨"LowAir$Sky", "chargeIfLying", "(LLowAir$Craft;)V"⟩, 9), (⟨"LowAir$Flight", "occupiesIn", "(II)Z"⟩, 4), (⟨"LowAir$Search", "fewestMoves", "(LLowAir$Craft;II)I"⟩, 3), (⟨"LowAir$Search", "least", "(LLowAir$Craft;IIZ)I"⟩, 3), (⟨"LowAir$Search", "spreadAll", "(Z)Z"⟩, 3), (⟨"LowAir$Search", "spread", "(IIZ)Z"⟩, 3), (⟨"LowAir$Search", "leastCharge", "(LLowAir$Craft;II)I"⟩, 3), (⟨"LowAir$Ground", "isWayFromPadToPad", "(LLowAir$Route;)Z"⟩, 9), (⟨"LowAir$Ground", "hasPad", "(I)Z"⟩, 9), (⟨"LowAir$Route", "last", "()I"⟩, 2), (⟨"LowAir$Judge", "reasonAgainst", "(ILLowAir$Route;I)I"⟩, 3), (⟨"LowAir$Judge", "meetsTower", "(LLowAir$Route;)Z"⟩, 3), (⟨"LowAir$Judge", "meetsZone", "(LLowAir$Craft;LLowAir$Route;I)Z"⟩, 3), (⟨"LowAir$Judge", "meetsOthers", "(ILLowAir$Route;I)Z"⟩, 3)]
theorem lw_r3 : ∀ q ∈ lw_privs_3, lw_okq q := List.forall_mem_cons.mpr ⟨lw_p32, List.forall_mem_cons.mpr ⟨lw_p33, List.forall_mem_cons.mpr ⟨lw_p34, List.forall_mem_cons.mpr ⟨lw_p35, List.forall_mem_cons.mpr ⟨lw_p36, List.forall_mem_cons.mpr ⟨lw_p37, List.forall_mem_cons.mpr ⟨lw_p38, List.forall_mem_cons.mpr ⟨lw_p39, List.forall_mem_cons.mpr ⟨lw_p40, List.forall_mem_cons.mpr ⟨lw_p41, List.forall_mem_cons.mpr ⟨lw_p42, List.forall_mem_cons.mpr ⟨lw_p43, List.forall_mem_cons.mpr ⟨lw_p44, List.forall_mem_cons.mpr ⟨lw_p45, List.forall_mem_cons.mpr ⟨lw_p46, List.forall_mem_cons.mpr ⟨lw_p47, fun _ h => absurd h List.not_mem_nil⟩⟩⟩⟩⟩⟩⟩⟩⟩⟩⟩⟩⟩⟩⟩⟩
theorem lw_p48 : lw_okq (⟨"LowAir$Flight", "isCloseInTime", "(LLowAir$Route;I)Z"⟩, 4) := ⟨⟨by decide +kernel, by decide +kernel⟩, List.mem_of_getElem? (i := 181) (by decide +kernel), List.mem_of_getElem? (i := 762) (by decide +kernel), List.mem_of_getElem? (i := 763) (by decide +kernel)⟩
theorem lw_p49 : lw_okq (⟨"LowAir$Flight", "meets", "(LLowAir$Route;I)Z"⟩, 4) := ⟨⟨by decide +kernel, by decide +kernel⟩, List.mem_of_getElem? (i := 181) (by decide +kernel), List.mem_of_getElem? (i := 767) (by decide +kernel), List.mem_of_getElem? (i := 768) (by decide +kernel)⟩
theorem lw_p50 : lw_okq (⟨"LowAir$Judge", "meetsItself", "(ILLowAir$Route;I)Z"⟩, 3) := ⟨⟨by decide +kernel, by decide +kernel⟩, List.mem_of_getElem? (i := 270) (by decide +kernel), List.mem_of_getElem? (i := 771) (by decide +kernel), List.mem_of_getElem? (i := 772) (by decide +kernel)⟩
theorem lw_p51 : lw_okq (⟨"LowAir$Ground", "costOfRoute", "(LLowAir$Route;)I"⟩, 9) := ⟨⟨by decide +kernel, by decide +kernel⟩, List.mem_of_getElem? (i := 28) (by decide +kernel), List.mem_of_getElem? (i := 775) (by decide +kernel), List.mem_of_getElem? (i := 776) (by decide +kernel)⟩
theorem lw_p52 : lw_okq (⟨"LowAir$Judge", "isTooLoud", "(LLowAir$Craft;LLowAir$Route;I)Z"⟩, 3) := ⟨⟨by decide +kernel, by decide +kernel⟩, List.mem_of_getElem? (i := 270) (by decide +kernel), List.mem_of_getElem? (i := 780) (by decide +kernel), List.mem_of_getElem? (i := 781) (by decide +kernel)⟩
theorem lw_p53 : lw_okq (⟨"LowAir", "checkStart", "(I)V"⟩, 6) := ⟨⟨by decide +kernel, by decide +kernel⟩, List.mem_of_getElem? (i := 20) (by decide +kernel), List.mem_of_getElem? (i := 807) (by decide +kernel), List.mem_of_getElem? (i := 808) (by decide +kernel)⟩
def lw_privs_4 : List (MethodName × Nat) := [(⟨"LowAir$Flight", "isCloseInTime", "(LLowAir$Route;I)Z"⟩, 4), (⟨"LowAir$Flight", "meets", "(LLowAir$Route;I)Z"⟩, 4), (⟨"LowAir$Judge", "meetsItself", "(ILLowAir$Route;I)Z"⟩, 3), (⟨"LowAir$Ground", "costOfRoute", "(LLowAir$Route;)I"⟩, 9), (⟨"LowAir$Judge", "isTooLoud", "(LLowAir$Craft;LLowAir$Route;I)Z"⟩, 3), (⟨"LowAir", "checkStart", "(I)V"⟩, 6)]
theorem lw_r4 : ∀ q ∈ lw_privs_4, lw_okq q := List.forall_mem_cons.mpr ⟨lw_p48, List.forall_mem_cons.mpr ⟨lw_p49, List.forall_mem_cons.mpr ⟨lw_p50, List.forall_mem_cons.mpr ⟨lw_p51, List.forall_mem_cons.mpr ⟨lw_p52, List.forall_mem_cons.mpr ⟨lw_p53, fun _ h => absurd h List.not_mem_nil⟩⟩⟩⟩⟩⟩
def lw_privs : List (MethodName × Nat) := lw_privs_1 ++ (lw_privs_2 ++ (lw_privs_3 ++ (lw_privs_4)))
def lw_tbl : List Cond := k2_sels lw_privs ++ tables_1
theorem lw_privs_ok : ∀ q ∈ lw_privs, lw_okq q := by
  show ∀ q ∈ lw_privs_1 ++ (lw_privs_2 ++ (lw_privs_3 ++ (lw_privs_4))), lw_okq q
  exact List.forall_mem_append.mpr ⟨lw_r1, List.forall_mem_append.mpr ⟨lw_r2, List.forall_mem_append.mpr ⟨lw_r3, lw_r4⟩⟩⟩
/-- the streams that the claim lets the run draw from -/
abbrev lw_cs : List Choice := [Jvm.Choice.named "NaN.bits"]
theorem lw_bits : nanBits ∈ lw_cs := by first | decide | exact List.mem_cons_self | simp [lw_cs, nanBits]
end
section
def RX0 : String := "LowAir$Craft"
def TX0 : u_T := fun k => match k with
  | 0 => ("LowAir$Craft", "rank", "I", false)
  | 1 => ("LowAir$Craft", "homePad", "I", false)
  | 2 => ("LowAir$Craft", "homeCell", "I", false)
  | 3 => ("LowAir$Craft", "battery", "I", false)
  | 4 => ("LowAir$Craft", "charge", "I", false)
  | 5 => ("LowAir$Craft", "loudness", "I", false)
  | 6 => ("LowAir$Craft", "linked", "Z", false)
  | 7 => ("LowAir$Craft", "state", "I", false)
  | 8 => ("LowAir$Craft", "cell", "I", false)
  | 9 => ("LowAir$Craft", "flight", "I", false)
  | 10 => ("LowAir$Craft", "breaches", "I", false)
  | _ => ("LowAir$Craft", "landedAt", "I", false)
def tyX0 : Nat → FieldType := fun k => match k with
  | 0 => .int
  | 1 => .int
  | 2 => .int
  | 3 => .int
  | 4 => .int
  | 5 => .int
  | 6 => .boolean
  | 7 => .int
  | 8 => .int
  | 9 => .int
  | 10 => .int
  | _ => .int
abbrev wsX00 : List Cond := u_ws RX0 TX0 12
theorem nmX0 : ∀ a, a < 12 → ∀ b, b < 12 → a ≠ b → (TX0 a).2.1 ≠ (TX0 b).2.1 := by decide +kernel
theorem tyX0_ok : ∀ k, k < 12 → parseFieldDescriptor (TX0 k).2.2.1 = some (tyX0 k) := by decide +kernel
abbrev cX0_init : ByteArray := prog_2_method_1_code
def yX0_init : MethodName := ⟨RX0, "<init>", "()V"⟩
abbrev cX0_copyFrom : ByteArray := prog_2_method_2_code
def yX0_copyFrom : MethodName := ⟨RX0, "copyFrom", "(LLowAir$Craft;)V"⟩
abbrev cX0_landAt : ByteArray := prog_2_method_3_code
def yX0_landAt : MethodName := ⟨RX0, "landAt", "(I)V"⟩
abbrev cX0_goDown : ByteArray := prog_2_method_4_code
def yX0_goDown : MethodName := ⟨RX0, "goDown", "()V"⟩
abbrev cX0_nextCellHome : ByteArray := prog_2_method_5_code
def yX0_nextCellHome : MethodName := ⟨RX0, "nextCellHome", "()I"⟩
def RX1 : String := "LowAir$Flight"
def TX1 : u_T := fun k => match k with
  | 0 => ("LowAir$Flight", "craft", "I", false)
  | 1 => ("LowAir$Flight", "start", "I", false)
  | 2 => ("LowAir$Flight", "state", "I", false)
  | _ => ("LowAir$Flight", "route", "LLowAir$Route;", true)
def tyX1 : Nat → FieldType := fun k => match k with
  | 0 => .int
  | 1 => .int
  | 2 => .int
  | _ => .object "LowAir$Route"
abbrev wsX10 : List Cond := u_ws RX1 TX1 4
theorem nmX1 : ∀ a, a < 4 → ∀ b, b < 4 → a ≠ b → (TX1 a).2.1 ≠ (TX1 b).2.1 := by decide +kernel
theorem tyX1_ok : ∀ k, k < 4 → parseFieldDescriptor (TX1 k).2.2.1 = some (tyX1 k) := by decide +kernel
abbrev cX1_init : ByteArray := prog_3_method_1_code
def yX1_init : MethodName := ⟨RX1, "<init>", "()V"⟩
abbrev cX1_copyFrom : ByteArray := prog_3_method_2_code
def yX1_copyFrom : MethodName := ⟨RX1, "copyFrom", "(LLowAir$Flight;)V"⟩
abbrev cX1_isAhead : ByteArray := prog_3_method_3_code
def yX1_isAhead : MethodName := ⟨RX1, "isAhead", "()Z"⟩
abbrev cX1_isPlannedOn : ByteArray := prog_3_method_4_code
def yX1_isPlannedOn : MethodName := ⟨RX1, "isPlannedOn", "(I)Z"⟩
abbrev cX1_occupiesIn : ByteArray := prog_3_method_5_code
def yX1_occupiesIn : MethodName := ⟨RX1, "occupiesIn", "(II)Z"⟩
abbrev cX1_isCloseInTime : ByteArray := prog_3_method_6_code
def yX1_isCloseInTime : MethodName := ⟨RX1, "isCloseInTime", "(LLowAir$Route;I)Z"⟩
abbrev cX1_meets : ByteArray := prog_3_method_7_code
def yX1_meets : MethodName := ⟨RX1, "meets", "(LLowAir$Route;I)Z"⟩
def RX2 : String := "LowAir$Ground"
def TX2 : u_T := fun k => match k with
  | 0 => ("LowAir$Ground", "houses", "[I", true)
  | 1 => ("LowAir$Ground", "towers", "[Z", true)
  | 2 => ("LowAir$Ground", "padAt", "[I", true)
  | 3 => ("LowAir$Ground", "padCells", "[I", true)
  | 4 => ("LowAir$Ground", "padCount", "I", false)
  | 5 => ("LowAir$Ground", "zones", "[LLowAir$Zone;", true)
  | 6 => ("LowAir$Ground", "zoneCount", "I", false)
  | 7 => ("LowAir$Ground", "windDirection", "I", false)
  | _ => ("LowAir$Ground", "windForce", "I", false)
def tyX2 : Nat → FieldType := fun k => match k with
  | 0 => .array .int
  | 1 => .array .boolean
  | 2 => .array .int
  | 3 => .array .int
  | 4 => .int
  | 5 => .array (.object "LowAir$Zone")
  | 6 => .int
  | 7 => .int
  | _ => .int
abbrev wsX20 : List Cond := u_ws RX2 TX2 9
theorem nmX2 : ∀ a, a < 9 → ∀ b, b < 9 → a ≠ b → (TX2 a).2.1 ≠ (TX2 b).2.1 := by decide +kernel
theorem tyX2_ok : ∀ k, k < 9 → parseFieldDescriptor (TX2 k).2.2.1 = some (tyX2 k) := by decide +kernel
abbrev cX2_init : ByteArray := prog_4_method_1_code
def yX2_init : MethodName := ⟨RX2, "<init>", "()V"⟩
abbrev cX2_addPad : ByteArray := prog_4_method_2_code
def yX2_addPad : MethodName := ⟨RX2, "addPad", "(I)I"⟩
abbrev cX2_addZone : ByteArray := prog_4_method_3_code
def yX2_addZone : MethodName := ⟨RX2, "addZone", "(IIII)I"⟩
abbrev cX2_isShut : ByteArray := prog_4_method_4_code
def yX2_isShut : MethodName := ⟨RX2, "isShut", "(III)Z"⟩
abbrev cX2_hasPad : ByteArray := prog_4_method_5_code
def yX2_hasPad : MethodName := ⟨RX2, "hasPad", "(I)Z"⟩
abbrev cX2_isWayFromPadToPad : ByteArray := prog_4_method_6_code
def yX2_isWayFromPadToPad : MethodName := ⟨RX2, "isWayFromPadToPad", "(LLowAir$Route;)Z"⟩
abbrev cX2_neighbour : ByteArray := prog_4_method_7_code
def yX2_neighbour : MethodName := ⟨RX2, "neighbour", "(II)I"⟩
abbrev cX2_directionTo : ByteArray := prog_4_method_8_code
def yX2_directionTo : MethodName := ⟨RX2, "directionTo", "(II)I"⟩
abbrev cX2_costOfMove : ByteArray := prog_4_method_9_code
def yX2_costOfMove : MethodName := ⟨RX2, "costOfMove", "(I)I"⟩
abbrev cX2_costOfRoute : ByteArray := prog_4_method_10_code
def yX2_costOfRoute : MethodName := ⟨RX2, "costOfRoute", "(LLowAir$Route;)I"⟩
def RX3 : String := "LowAir$Judge"
def TX3 : u_T := fun k => match k with
  | 0 => ("LowAir$Judge", "ground", "LLowAir$Ground;", true)
  | 1 => ("LowAir$Judge", "sky", "LLowAir$Sky;", true)
  | _ => ("LowAir$Judge", "planned", "[I", true)
def tyX3 : Nat → FieldType := fun k => match k with
  | 0 => .object "LowAir$Ground"
  | 1 => .object "LowAir$Sky"
  | _ => .array .int
abbrev wsX30 : List Cond := u_ws RX3 TX3 3
theorem nmX3 : ∀ a, a < 3 → ∀ b, b < 3 → a ≠ b → (TX3 a).2.1 ≠ (TX3 b).2.1 := by decide +kernel
theorem tyX3_ok : ∀ k, k < 3 → parseFieldDescriptor (TX3 k).2.2.1 = some (tyX3 k) := by decide +kernel
abbrev cX3_init : ByteArray := prog_5_method_1_code
def yX3_init : MethodName := ⟨RX3, "<init>", "(LLowAir$Ground;LLowAir$Sky;)V"⟩
abbrev cX3_reasonAgainst : ByteArray := prog_5_method_2_code
def yX3_reasonAgainst : MethodName := ⟨RX3, "reasonAgainst", "(ILLowAir$Route;I)I"⟩
abbrev cX3_meetsTower : ByteArray := prog_5_method_3_code
def yX3_meetsTower : MethodName := ⟨RX3, "meetsTower", "(LLowAir$Route;)Z"⟩
abbrev cX3_meetsZone : ByteArray := prog_5_method_4_code
def yX3_meetsZone : MethodName := ⟨RX3, "meetsZone", "(LLowAir$Craft;LLowAir$Route;I)Z"⟩
abbrev cX3_meetsOthers : ByteArray := prog_5_method_5_code
def yX3_meetsOthers : MethodName := ⟨RX3, "meetsOthers", "(ILLowAir$Route;I)Z"⟩
abbrev cX3_meetsItself : ByteArray := prog_5_method_6_code
def yX3_meetsItself : MethodName := ⟨RX3, "meetsItself", "(ILLowAir$Route;I)Z"⟩
abbrev cX3_isTooLoud : ByteArray := prog_5_method_7_code
def yX3_isTooLoud : MethodName := ⟨RX3, "isTooLoud", "(LLowAir$Craft;LLowAir$Route;I)Z"⟩
abbrev cX3_plannedNoise : ByteArray := prog_5_method_8_code
def yX3_plannedNoise : MethodName := ⟨RX3, "plannedNoise", "(II)I"⟩
abbrev cX3_planDay : ByteArray := prog_5_method_9_code
def yX3_planDay : MethodName := ⟨RX3, "planDay", "(I)V"⟩
abbrev cX3_plan : ByteArray := prog_5_method_10_code
def yX3_plan : MethodName := ⟨RX3, "plan", "(LLowAir$Craft;LLowAir$Route;)V"⟩
def RX4 : String := "LowAir$Route"
def TX4 : u_T := fun k => match k with
  | 0 => ("LowAir$Route", "cells", "[I", true)
  | _ => ("LowAir$Route", "count", "I", false)
def tyX4 : Nat → FieldType := fun k => match k with
  | 0 => .array .int
  | _ => .int
abbrev wsX40 : List Cond := u_ws RX4 TX4 2
theorem nmX4 : ∀ a, a < 2 → ∀ b, b < 2 → a ≠ b → (TX4 a).2.1 ≠ (TX4 b).2.1 := by decide +kernel
theorem tyX4_ok : ∀ k, k < 2 → parseFieldDescriptor (TX4 k).2.2.1 = some (tyX4 k) := by decide +kernel
abbrev cX4_init : ByteArray := prog_6_method_1_code
def yX4_init : MethodName := ⟨RX4, "<init>", "()V"⟩
abbrev cX4_first : ByteArray := prog_6_method_2_code
def yX4_first : MethodName := ⟨RX4, "first", "()I"⟩
abbrev cX4_last : ByteArray := prog_6_method_3_code
def yX4_last : MethodName := ⟨RX4, "last", "()I"⟩
abbrev cX4_at : ByteArray := prog_6_method_4_code
def yX4_at : MethodName := ⟨RX4, "at", "(I)I"⟩
abbrev cX4_endFrom : ByteArray := prog_6_method_5_code
def yX4_endFrom : MethodName := ⟨RX4, "endFrom", "(I)I"⟩
abbrev cX4_copyFrom : ByteArray := prog_6_method_6_code
def yX4_copyFrom : MethodName := ⟨RX4, "copyFrom", "(LLowAir$Route;)V"⟩
def RX5 : String := "LowAir$Search"
def TX5 : u_T := fun k => match k with
  | 0 => ("LowAir$Search", "ground", "LLowAir$Ground;", true)
  | 1 => ("LowAir$Search", "open", "[Z", true)
  | _ => ("LowAir$Search", "reached", "[I", true)
def tyX5 : Nat → FieldType := fun k => match k with
  | 0 => .object "LowAir$Ground"
  | 1 => .array .boolean
  | _ => .array .int
abbrev wsX50 : List Cond := u_ws RX5 TX5 3
theorem nmX5 : ∀ a, a < 3 → ∀ b, b < 3 → a ≠ b → (TX5 a).2.1 ≠ (TX5 b).2.1 := by decide +kernel
theorem tyX5_ok : ∀ k, k < 3 → parseFieldDescriptor (TX5 k).2.2.1 = some (tyX5 k) := by decide +kernel
abbrev cX5_init : ByteArray := prog_7_method_1_code
def yX5_init : MethodName := ⟨RX5, "<init>", "(LLowAir$Ground;)V"⟩
abbrev cX5_fewestMoves : ByteArray := prog_7_method_2_code
def yX5_fewestMoves : MethodName := ⟨RX5, "fewestMoves", "(LLowAir$Craft;II)I"⟩
abbrev cX5_leastCharge : ByteArray := prog_7_method_3_code
def yX5_leastCharge : MethodName := ⟨RX5, "leastCharge", "(LLowAir$Craft;II)I"⟩
abbrev cX5_least : ByteArray := prog_7_method_4_code
def yX5_least : MethodName := ⟨RX5, "least", "(LLowAir$Craft;IIZ)I"⟩
abbrev cX5_spreadAll : ByteArray := prog_7_method_5_code
def yX5_spreadAll : MethodName := ⟨RX5, "spreadAll", "(Z)Z"⟩
abbrev cX5_spread : ByteArray := prog_7_method_6_code
def yX5_spread : MethodName := ⟨RX5, "spread", "(IIZ)Z"⟩
def RX6 : String := "LowAir$Sky"
def TX6 : u_T := fun k => match k with
  | 0 => ("LowAir$Sky", "ground", "LLowAir$Ground;", true)
  | 1 => ("LowAir$Sky", "crafts", "[LLowAir$Craft;", true)
  | 2 => ("LowAir$Sky", "craftCount", "I", false)
  | 3 => ("LowAir$Sky", "flights", "[LLowAir$Flight;", true)
  | 4 => ("LowAir$Sky", "flightCount", "I", false)
  | 5 => ("LowAir$Sky", "heard", "[I", true)
  | 6 => ("LowAir$Sky", "heardEver", "I", false)
  | 7 => ("LowAir$Sky", "nearCount", "I", false)
  | _ => ("LowAir$Sky", "now", "I", false)
def tyX6 : Nat → FieldType := fun k => match k with
  | 0 => .object "LowAir$Ground"
  | 1 => .array (.object "LowAir$Craft")
  | 2 => .int
  | 3 => .array (.object "LowAir$Flight")
  | 4 => .int
  | 5 => .array .int
  | 6 => .int
  | 7 => .int
  | _ => .int
abbrev wsX60 : List Cond := u_ws RX6 TX6 9
theorem nmX6 : ∀ a, a < 9 → ∀ b, b < 9 → a ≠ b → (TX6 a).2.1 ≠ (TX6 b).2.1 := by decide +kernel
theorem tyX6_ok : ∀ k, k < 9 → parseFieldDescriptor (TX6 k).2.2.1 = some (tyX6 k) := by decide +kernel
abbrev cX6_init : ByteArray := prog_8_method_1_code
def yX6_init : MethodName := ⟨RX6, "<init>", "(LLowAir$Ground;)V"⟩
abbrev cX6_copyFrom : ByteArray := prog_8_method_2_code
def yX6_copyFrom : MethodName := ⟨RX6, "copyFrom", "(LLowAir$Sky;)V"⟩
abbrev cX6_isCraft : ByteArray := prog_8_method_3_code
def yX6_isCraft : MethodName := ⟨RX6, "isCraft", "(I)Z"⟩
abbrev cX6_play : ByteArray := prog_8_method_4_code
def yX6_play : MethodName := ⟨RX6, "play", "(I)V"⟩
abbrev cX6_startOrMissIfDue : ByteArray := prog_8_method_5_code
def yX6_startOrMissIfDue : MethodName := ⟨RX6, "startOrMissIfDue", "(I)V"⟩
abbrev cX6_isToMove : ByteArray := prog_8_method_6_code
def yX6_isToMove : MethodName := ⟨RX6, "isToMove", "(LLowAir$Craft;)Z"⟩
abbrev cX6_move : ByteArray := prog_8_method_7_code
def yX6_move : MethodName := ⟨RX6, "move", "(LLowAir$Craft;)V"⟩
abbrev cX6_movesInto : ByteArray := prog_8_method_8_code
def yX6_movesInto : MethodName := ⟨RX6, "movesInto", "(LLowAir$Craft;LLowAir$Flight;I)Z"⟩
abbrev cX6_comeIn : ByteArray := prog_8_method_9_code
def yX6_comeIn : MethodName := ⟨RX6, "comeIn", "(LLowAir$Craft;)V"⟩
abbrev cX6_pairsNear : ByteArray := prog_8_method_10_code
def yX6_pairsNear : MethodName := ⟨RX6, "pairsNear", "()I"⟩
abbrev cX6_chargeIfLying : ByteArray := prog_8_method_11_code
def yX6_chargeIfLying : MethodName := ⟨RX6, "chargeIfLying", "(LLowAir$Craft;)V"⟩
abbrev cX6_flyingIn : ByteArray := prog_8_method_12_code
def yX6_flyingIn : MethodName := ⟨RX6, "flyingIn", "(I)I"⟩
abbrev cX6_flightsIn : ByteArray := prog_8_method_13_code
def yX6_flightsIn : MethodName := ⟨RX6, "flightsIn", "(I)I"⟩
abbrev cX6_allBreaches : ByteArray := prog_8_method_14_code
def yX6_allBreaches : MethodName := ⟨RX6, "allBreaches", "()I"⟩
def RX7 : String := "LowAir$Zone"
def TX7 : u_T := fun k => match k with
  | 0 => ("LowAir$Zone", "cell", "I", false)
  | 1 => ("LowAir$Zone", "from", "I", false)
  | 2 => ("LowAir$Zone", "to", "I", false)
  | _ => ("LowAir$Zone", "least", "I", false)
def tyX7 : Nat → FieldType := fun k => match k with
  | 0 => .int
  | 1 => .int
  | 2 => .int
  | _ => .int
abbrev wsX70 : List Cond := u_ws RX7 TX7 4
theorem nmX7 : ∀ a, a < 4 → ∀ b, b < 4 → a ≠ b → (TX7 a).2.1 ≠ (TX7 b).2.1 := by decide +kernel
theorem tyX7_ok : ∀ k, k < 4 → parseFieldDescriptor (TX7 k).2.2.1 = some (tyX7 k) := by decide +kernel
abbrev cX7_init : ByteArray := prog_9_method_1_code
def yX7_init : MethodName := ⟨RX7, "<init>", "()V"⟩
abbrev cX7_shuts : ByteArray := prog_9_method_2_code
def yX7_shuts : MethodName := ⟨RX7, "shuts", "(III)Z"⟩
def RX8 : String := "LowAir"
def TX8 : u_T := fun k => match k with
  | 0 => ("LowAir", "ground", "LLowAir$Ground;", true)
  | 1 => ("LowAir", "sky", "LLowAir$Sky;", true)
  | 2 => ("LowAir", "trial", "LLowAir$Sky;", true)
  | 3 => ("LowAir", "draft", "LLowAir$Route;", true)
  | 4 => ("LowAir", "judge", "LLowAir$Judge;", true)
  | _ => ("LowAir", "search", "LLowAir$Search;", true)
def tyX8 : Nat → FieldType := fun k => match k with
  | 0 => .object "LowAir$Ground"
  | 1 => .object "LowAir$Sky"
  | 2 => .object "LowAir$Sky"
  | 3 => .object "LowAir$Route"
  | 4 => .object "LowAir$Judge"
  | _ => .object "LowAir$Search"
abbrev wsX80 : List Cond := u_ws RX8 TX8 6
theorem nmX8 : ∀ a, a < 6 → ∀ b, b < 6 → a ≠ b → (TX8 a).2.1 ≠ (TX8 b).2.1 := by decide +kernel
theorem tyX8_ok : ∀ k, k < 6 → parseFieldDescriptor (TX8 k).2.2.1 = some (tyX8 k) := by decide +kernel
abbrev cX8_init : ByteArray := prog_1_method_1_code
def yX8_init : MethodName := ⟨RX8, "<init>", "()V"⟩
abbrev cX8_houses : ByteArray := prog_1_method_2_code
def yX8_houses : MethodName := ⟨RX8, "houses", "(II)I"⟩
abbrev cX8_tower : ByteArray := prog_1_method_3_code
def yX8_tower : MethodName := ⟨RX8, "tower", "(IZ)Z"⟩
abbrev cX8_pad : ByteArray := prog_1_method_4_code
def yX8_pad : MethodName := ⟨RX8, "pad", "(I)I"⟩
abbrev cX8_zone : ByteArray := prog_1_method_5_code
def yX8_zone : MethodName := ⟨RX8, "zone", "(IIII)I"⟩
abbrev cX8_wind : ByteArray := prog_1_method_6_code
def yX8_wind : MethodName := ⟨RX8, "wind", "(II)I"⟩
abbrev cX8_craft : ByteArray := prog_1_method_7_code
def yX8_craft : MethodName := ⟨RX8, "craft", "(IIII)I"⟩
abbrev cX8_link : ByteArray := prog_1_method_8_code
def yX8_link : MethodName := ⟨RX8, "link", "(IZ)Z"⟩
abbrev cX8_fetch : ByteArray := prog_1_method_9_code
def yX8_fetch : MethodName := ⟨RX8, "fetch", "(I)I"⟩
abbrev cX8_draft : ByteArray := prog_1_method_10_code
def yX8_draft : MethodName := ⟨RX8, "draft", "(I)I"⟩
abbrev cX8_clear : ByteArray := prog_1_method_11_code
def yX8_clear : MethodName := ⟨RX8, "clear", "()I"⟩
abbrev cX8_ask : ByteArray := prog_1_method_12_code
def yX8_ask : MethodName := ⟨RX8, "ask", "(II)I"⟩
abbrev cX8_withdraw : ByteArray := prog_1_method_13_code
def yX8_withdraw : MethodName := ⟨RX8, "withdraw", "(I)I"⟩
abbrev cX8_pass : ByteArray := prog_1_method_14_code
def yX8_pass : MethodName := ⟨RX8, "pass", "(I)I"⟩
abbrev cX8_ofCell : ByteArray := prog_1_method_15_code
def yX8_ofCell : MethodName := ⟨RX8, "ofCell", "(II)I"⟩
abbrev cX8_ofCraft : ByteArray := prog_1_method_16_code
def yX8_ofCraft : MethodName := ⟨RX8, "ofCraft", "(II)I"⟩
abbrev cX8_ofFlight : ByteArray := prog_1_method_17_code
def yX8_ofFlight : MethodName := ⟨RX8, "ofFlight", "(II)I"⟩
abbrev cX8_occupies : ByteArray := prog_1_method_18_code
def yX8_occupies : MethodName := ⟨RX8, "occupies", "(II)I"⟩
abbrev cX8_many : ByteArray := prog_1_method_19_code
def yX8_many : MethodName := ⟨RX8, "many", "(I)I"⟩
abbrev cX8_meanCharge : ByteArray := prog_1_method_20_code
def yX8_meanCharge : MethodName := ⟨RX8, "meanCharge", "()D"⟩
abbrev cX8_why : ByteArray := prog_1_method_21_code
def yX8_why : MethodName := ⟨RX8, "why", "(II)I"⟩
abbrev cX8_soonest : ByteArray := prog_1_method_22_code
def yX8_soonest : MethodName := ⟨RX8, "soonest", "(I)I"⟩
abbrev cX8_way : ByteArray := prog_1_method_23_code
def yX8_way : MethodName := ⟨RX8, "way", "(II)I"⟩
abbrev cX8_cost : ByteArray := prog_1_method_24_code
def yX8_cost : MethodName := ⟨RX8, "cost", "(II)I"⟩
abbrev cX8_wouldNear : ByteArray := prog_1_method_25_code
def yX8_wouldNear : MethodName := ⟨RX8, "wouldNear", "(I)I"⟩
abbrev cX8_wouldHave : ByteArray := prog_1_method_26_code
def yX8_wouldHave : MethodName := ⟨RX8, "wouldHave", "(II)I"⟩
abbrev cX8_digest : ByteArray := prog_1_method_27_code
def yX8_digest : MethodName := ⟨RX8, "digest", "()J"⟩
abbrev cX8_mixed : ByteArray := prog_1_method_28_code
def yX8_mixed : MethodName := ⟨RX8, "mixed", "(JI)J"⟩
abbrev cX8_checkIndex : ByteArray := prog_1_method_29_code
def yX8_checkIndex : MethodName := ⟨RX8, "checkIndex", "(Z)V"⟩
abbrev cX8_checkArgument : ByteArray := prog_1_method_30_code
def yX8_checkArgument : MethodName := ⟨RX8, "checkArgument", "(Z)V"⟩
abbrev cX8_checkState : ByteArray := prog_1_method_31_code
def yX8_checkState : MethodName := ⟨RX8, "checkState", "(Z)V"⟩
abbrev cX8_checkCell : ByteArray := prog_1_method_32_code
def yX8_checkCell : MethodName := ⟨RX8, "checkCell", "(I)V"⟩
abbrev cX8_checkCraft : ByteArray := prog_1_method_33_code
def yX8_checkCraft : MethodName := ⟨RX8, "checkCraft", "(I)V"⟩
abbrev cX8_checkFlight : ByteArray := prog_1_method_34_code
def yX8_checkFlight : MethodName := ⟨RX8, "checkFlight", "(I)V"⟩
abbrev cX8_checkStart : ByteArray := prog_1_method_35_code
def yX8_checkStart : MethodName := ⟨RX8, "checkStart", "(I)V"⟩
abbrev cX8_checkMinutes : ByteArray := prog_1_method_36_code
def yX8_checkMinutes : MethodName := ⟨RX8, "checkMinutes", "(I)V"⟩
abbrev cX8_isCell : ByteArray := prog_1_method_37_code
def yX8_isCell : MethodName := ⟨RX8, "isCell", "(I)Z"⟩
def RJ9 : String := "java/lang/Math"
def TJ9 : u_T := fun k => match k with
  | _ => ("", "", "", false)
def tyJ9 : Nat → FieldType := fun k => match k with
  | _ => .int
abbrev wsJ90 : List Cond := u_ws RJ9 TJ9 0
theorem nmJ9 : ∀ a, a < 0 → ∀ b, b < 0 → a ≠ b → (TJ9 a).2.1 ≠ (TJ9 b).2.1 := by decide +kernel
theorem tyJ9_ok : ∀ k, k < 0 → parseFieldDescriptor (TJ9 k).2.2.1 = some (tyJ9 k) := by decide +kernel
abbrev cJ9_abs_0f7a4 : ByteArray := prog_20_method_59_code
def yJ9_abs_0f7a4 : MethodName := ⟨RJ9, "abs", "(I)I"⟩
abbrev cJ9_max_7cf53 : ByteArray := prog_20_method_65_code
def yJ9_max_7cf53 : MethodName := ⟨RJ9, "max", "(II)I"⟩
abbrev cJ9_min_7cf53 : ByteArray := prog_20_method_69_code
def yJ9_min_7cf53 : MethodName := ⟨RJ9, "min", "(II)I"⟩
def RJ10 : String := "java/lang/System"
def TJ10 : u_T := fun k => match k with
  | _ => ("", "", "", false)
def tyJ10 : Nat → FieldType := fun k => match k with
  | _ => .int
abbrev wsJ100 : List Cond := u_ws RJ10 TJ10 0
theorem nmJ10 : ∀ a, a < 0 → ∀ b, b < 0 → a ≠ b → (TJ10 a).2.1 ≠ (TJ10 b).2.1 := by decide +kernel
theorem tyJ10_ok : ∀ k, k < 0 → parseFieldDescriptor (TJ10 k).2.2.1 = some (tyJ10 k) := by decide +kernel
def RJ7 : String := "java/util/Arrays"
def TJ7 : u_T := fun k => match k with
  | _ => ("", "", "", false)
def tyJ7 : Nat → FieldType := fun k => match k with
  | _ => .int
abbrev wsJ70 : List Cond := u_ws RJ7 TJ7 0
theorem nmJ7 : ∀ a, a < 0 → ∀ b, b < 0 → a ≠ b → (TJ7 a).2.1 ≠ (TJ7 b).2.1 := by decide +kernel
theorem tyJ7_ok : ∀ k, k < 0 → parseFieldDescriptor (TJ7 k).2.2.1 = some (tyJ7 k) := by decide +kernel
abbrev cJ7_fill_53178 : ByteArray := prog_25_method_103_code
def yJ7_fill_53178 : MethodName := ⟨RJ7, "fill", "([II)V"⟩
def RL : String := "LowAirLaw"
abbrev cL_below : ByteArray := method_2_code
def yL_below : MethodName := ⟨RL, "below", "(II)I"⟩
abbrev cL_cell : ByteArray := method_3_code
def yL_cell : MethodName := ⟨RL, "cell", "([II)I"⟩
abbrev cL_law : ByteArray := code
def yL_law : MethodName := ⟨RL, "law", "([I)Z"⟩
abbrev cL_isAsked : ByteArray := method_5_code
def yL_isAsked : MethodName := ⟨RL, "isAsked", "(LLowAir;[IIII)Z"⟩
abbrev cL_isPassed : ByteArray := method_6_code
def yL_isPassed : MethodName := ⟨RL, "isPassed", "(LLowAir;Z)Z"⟩
abbrev vwCl : List vw_C := [(RX0, TX0, 12), (RX1, TX1, 4), (RX2, TX2, 9), (RX3, TX3, 3), (RX4, TX4, 2), (RX5, TX5, 3), (RX6, TX6, 9), (RX7, TX7, 4), (RX8, TX8, 6)]
end
section
theorem dX0_init_0 : decode cX0_init 0 = .ok (.aload_n 0, 1) := by decide +kernel
theorem dX0_init_1 : decode cX0_init 1 = .ok (.invokespecial 3, 3) := by decide +kernel
theorem dX0_init_4 : decode cX0_init 4 = .ok (.aload_n 0, 1) := by decide +kernel
theorem dX0_init_5 : decode cX0_init 5 = .ok (.iconst 1, 1) := by decide +kernel
theorem dX0_init_6 : decode cX0_init 6 = .ok (.putfield 9, 3) := by decide +kernel
theorem dX0_init_9 : decode cX0_init 9 = .ok (.aload_n 0, 1) := by decide +kernel
theorem dX0_init_10 : decode cX0_init 10 = .ok (.iconst 0, 1) := by decide +kernel
theorem dX0_init_11 : decode cX0_init 11 = .ok (.putfield 15, 3) := by decide +kernel
theorem dX0_init_14 : decode cX0_init 14 = .ok (.aload_n 0, 1) := by decide +kernel
theorem dX0_init_15 : decode cX0_init 15 = .ok (.iconst (-1), 1) := by decide +kernel
theorem dX0_init_16 : decode cX0_init 16 = .ok (.putfield 19, 3) := by decide +kernel
theorem dX0_init_19 : decode cX0_init 19 = .ok (.aload_n 0, 1) := by decide +kernel
theorem dX0_init_20 : decode cX0_init 20 = .ok (.iconst (-1), 1) := by decide +kernel
theorem dX0_init_21 : decode cX0_init 21 = .ok (.putfield 22, 3) := by decide +kernel
theorem dX0_init_24 : decode cX0_init 24 = .ok (.return_, 1) := by decide +kernel
theorem dX0_copyFrom_0 : decode cX0_copyFrom 0 = .ok (.aload_n 0, 1) := by decide +kernel
theorem dX0_copyFrom_1 : decode cX0_copyFrom 1 = .ok (.aload_n 1, 1) := by decide +kernel
theorem dX0_copyFrom_2 : decode cX0_copyFrom 2 = .ok (.getfield 25, 3) := by decide +kernel
theorem dX0_copyFrom_5 : decode cX0_copyFrom 5 = .ok (.putfield 25, 3) := by decide +kernel
theorem dX0_copyFrom_8 : decode cX0_copyFrom 8 = .ok (.aload_n 0, 1) := by decide +kernel
theorem dX0_copyFrom_9 : decode cX0_copyFrom 9 = .ok (.aload_n 1, 1) := by decide +kernel
theorem dX0_copyFrom_10 : decode cX0_copyFrom 10 = .ok (.getfield 28, 3) := by decide +kernel
theorem dX0_copyFrom_13 : decode cX0_copyFrom 13 = .ok (.putfield 28, 3) := by decide +kernel
theorem dX0_copyFrom_16 : decode cX0_copyFrom 16 = .ok (.aload_n 0, 1) := by decide +kernel
theorem dX0_copyFrom_17 : decode cX0_copyFrom 17 = .ok (.aload_n 1, 1) := by decide +kernel
theorem dX0_copyFrom_18 : decode cX0_copyFrom 18 = .ok (.getfield 31, 3) := by decide +kernel
theorem dX0_copyFrom_21 : decode cX0_copyFrom 21 = .ok (.putfield 31, 3) := by decide +kernel
theorem dX0_copyFrom_24 : decode cX0_copyFrom 24 = .ok (.aload_n 0, 1) := by decide +kernel
theorem dX0_copyFrom_25 : decode cX0_copyFrom 25 = .ok (.aload_n 1, 1) := by decide +kernel
theorem dX0_copyFrom_26 : decode cX0_copyFrom 26 = .ok (.getfield 34, 3) := by decide +kernel
theorem dX0_copyFrom_29 : decode cX0_copyFrom 29 = .ok (.putfield 34, 3) := by decide +kernel
theorem dX0_copyFrom_32 : decode cX0_copyFrom 32 = .ok (.aload_n 0, 1) := by decide +kernel
theorem dX0_copyFrom_33 : decode cX0_copyFrom 33 = .ok (.aload_n 1, 1) := by decide +kernel
theorem dX0_copyFrom_34 : decode cX0_copyFrom 34 = .ok (.getfield 37, 3) := by decide +kernel
theorem dX0_copyFrom_37 : decode cX0_copyFrom 37 = .ok (.putfield 37, 3) := by decide +kernel
theorem dX0_copyFrom_40 : decode cX0_copyFrom 40 = .ok (.aload_n 0, 1) := by decide +kernel
theorem dX0_copyFrom_41 : decode cX0_copyFrom 41 = .ok (.aload_n 1, 1) := by decide +kernel
theorem dX0_copyFrom_42 : decode cX0_copyFrom 42 = .ok (.getfield 40, 3) := by decide +kernel
theorem dX0_copyFrom_45 : decode cX0_copyFrom 45 = .ok (.putfield 40, 3) := by decide +kernel
theorem dX0_copyFrom_48 : decode cX0_copyFrom 48 = .ok (.aload_n 0, 1) := by decide +kernel
theorem dX0_copyFrom_49 : decode cX0_copyFrom 49 = .ok (.aload_n 1, 1) := by decide +kernel
theorem dX0_copyFrom_50 : decode cX0_copyFrom 50 = .ok (.getfield 9, 3) := by decide +kernel
theorem dX0_copyFrom_53 : decode cX0_copyFrom 53 = .ok (.putfield 9, 3) := by decide +kernel
theorem dX0_copyFrom_56 : decode cX0_copyFrom 56 = .ok (.aload_n 0, 1) := by decide +kernel
theorem dX0_copyFrom_57 : decode cX0_copyFrom 57 = .ok (.aload_n 1, 1) := by decide +kernel
theorem dX0_copyFrom_58 : decode cX0_copyFrom 58 = .ok (.getfield 15, 3) := by decide +kernel
theorem dX0_copyFrom_61 : decode cX0_copyFrom 61 = .ok (.putfield 15, 3) := by decide +kernel
theorem dX0_copyFrom_64 : decode cX0_copyFrom 64 = .ok (.aload_n 0, 1) := by decide +kernel
theorem dX0_copyFrom_65 : decode cX0_copyFrom 65 = .ok (.aload_n 1, 1) := by decide +kernel
theorem dX0_copyFrom_66 : decode cX0_copyFrom 66 = .ok (.getfield 43, 3) := by decide +kernel
theorem dX0_copyFrom_69 : decode cX0_copyFrom 69 = .ok (.putfield 43, 3) := by decide +kernel
theorem dX0_copyFrom_72 : decode cX0_copyFrom 72 = .ok (.aload_n 0, 1) := by decide +kernel
theorem dX0_copyFrom_73 : decode cX0_copyFrom 73 = .ok (.aload_n 1, 1) := by decide +kernel
theorem dX0_copyFrom_74 : decode cX0_copyFrom 74 = .ok (.getfield 19, 3) := by decide +kernel
theorem dX0_copyFrom_77 : decode cX0_copyFrom 77 = .ok (.putfield 19, 3) := by decide +kernel
theorem dX0_copyFrom_80 : decode cX0_copyFrom 80 = .ok (.aload_n 0, 1) := by decide +kernel
theorem dX0_copyFrom_81 : decode cX0_copyFrom 81 = .ok (.aload_n 1, 1) := by decide +kernel
theorem dX0_copyFrom_82 : decode cX0_copyFrom 82 = .ok (.getfield 46, 3) := by decide +kernel
theorem dX0_copyFrom_85 : decode cX0_copyFrom 85 = .ok (.putfield 46, 3) := by decide +kernel
theorem dX0_copyFrom_88 : decode cX0_copyFrom 88 = .ok (.aload_n 0, 1) := by decide +kernel
theorem dX0_copyFrom_89 : decode cX0_copyFrom 89 = .ok (.aload_n 1, 1) := by decide +kernel
theorem dX0_copyFrom_90 : decode cX0_copyFrom 90 = .ok (.getfield 22, 3) := by decide +kernel
theorem dX0_copyFrom_93 : decode cX0_copyFrom 93 = .ok (.putfield 22, 3) := by decide +kernel
theorem dX0_copyFrom_96 : decode cX0_copyFrom 96 = .ok (.return_, 1) := by decide +kernel
theorem dX0_landAt_0 : decode cX0_landAt 0 = .ok (.aload_n 0, 1) := by decide +kernel
theorem dX0_landAt_1 : decode cX0_landAt 1 = .ok (.iconst 0, 1) := by decide +kernel
theorem dX0_landAt_2 : decode cX0_landAt 2 = .ok (.putfield 15, 3) := by decide +kernel
theorem dX0_landAt_5 : decode cX0_landAt 5 = .ok (.aload_n 0, 1) := by decide +kernel
theorem dX0_landAt_6 : decode cX0_landAt 6 = .ok (.iconst (-1), 1) := by decide +kernel
theorem dX0_landAt_7 : decode cX0_landAt 7 = .ok (.putfield 19, 3) := by decide +kernel
theorem dX0_landAt_10 : decode cX0_landAt 10 = .ok (.aload_n 0, 1) := by decide +kernel
theorem dX0_landAt_11 : decode cX0_landAt 11 = .ok (.iload_n 1, 1) := by decide +kernel
theorem dX0_landAt_12 : decode cX0_landAt 12 = .ok (.putfield 22, 3) := by decide +kernel
theorem dX0_landAt_15 : decode cX0_landAt 15 = .ok (.return_, 1) := by decide +kernel
theorem dX0_goDown_0 : decode cX0_goDown 0 = .ok (.aload_n 0, 1) := by decide +kernel
theorem dX0_goDown_1 : decode cX0_goDown 1 = .ok (.iconst 2, 1) := by decide +kernel
theorem dX0_goDown_2 : decode cX0_goDown 2 = .ok (.putfield 15, 3) := by decide +kernel
theorem dX0_goDown_5 : decode cX0_goDown 5 = .ok (.aload_n 0, 1) := by decide +kernel
theorem dX0_goDown_6 : decode cX0_goDown 6 = .ok (.iconst (-1), 1) := by decide +kernel
theorem dX0_goDown_7 : decode cX0_goDown 7 = .ok (.putfield 19, 3) := by decide +kernel
theorem dX0_goDown_10 : decode cX0_goDown 10 = .ok (.aload_n 0, 1) := by decide +kernel
theorem dX0_goDown_11 : decode cX0_goDown 11 = .ok (.iconst 0, 1) := by decide +kernel
theorem dX0_goDown_12 : decode cX0_goDown 12 = .ok (.putfield 37, 3) := by decide +kernel
theorem dX0_goDown_15 : decode cX0_goDown 15 = .ok (.return_, 1) := by decide +kernel
theorem dX0_nextCellHome_0 : decode cX0_nextCellHome 0 = .ok (.aload_n 0, 1) := by decide +kernel
theorem dX0_nextCellHome_1 : decode cX0_nextCellHome 1 = .ok (.getfield 43, 3) := by decide +kernel
theorem dX0_nextCellHome_4 : decode cX0_nextCellHome 4 = .ok (.iconst 5, 1) := by decide +kernel
theorem dX0_nextCellHome_5 : decode cX0_nextCellHome 5 = .ok (.idiv, 1) := by decide +kernel
theorem dX0_nextCellHome_6 : decode cX0_nextCellHome 6 = .ok (.aload_n 0, 1) := by decide +kernel
theorem dX0_nextCellHome_7 : decode cX0_nextCellHome 7 = .ok (.getfield 31, 3) := by decide +kernel
theorem dX0_nextCellHome_10 : decode cX0_nextCellHome 10 = .ok (.iconst 5, 1) := by decide +kernel
theorem dX0_nextCellHome_11 : decode cX0_nextCellHome 11 = .ok (.idiv, 1) := by decide +kernel
theorem dX0_nextCellHome_12 : decode cX0_nextCellHome 12 = .ok (.if_icmp .eq 30, 3) := by decide +kernel
theorem dX0_nextCellHome_15 : decode cX0_nextCellHome 15 = .ok (.aload_n 0, 1) := by decide +kernel
theorem dX0_nextCellHome_16 : decode cX0_nextCellHome 16 = .ok (.getfield 43, 3) := by decide +kernel
theorem dX0_nextCellHome_19 : decode cX0_nextCellHome 19 = .ok (.aload_n 0, 1) := by decide +kernel
theorem dX0_nextCellHome_20 : decode cX0_nextCellHome 20 = .ok (.getfield 31, 3) := by decide +kernel
theorem dX0_nextCellHome_23 : decode cX0_nextCellHome 23 = .ok (.if_icmp .ge 12, 3) := by decide +kernel
theorem dX0_nextCellHome_26 : decode cX0_nextCellHome 26 = .ok (.aload_n 0, 1) := by decide +kernel
theorem dX0_nextCellHome_27 : decode cX0_nextCellHome 27 = .ok (.getfield 43, 3) := by decide +kernel
theorem dX0_nextCellHome_30 : decode cX0_nextCellHome 30 = .ok (.iconst 5, 1) := by decide +kernel
theorem dX0_nextCellHome_31 : decode cX0_nextCellHome 31 = .ok (.iadd, 1) := by decide +kernel
theorem dX0_nextCellHome_32 : decode cX0_nextCellHome 32 = .ok (.goto 9, 3) := by decide +kernel
theorem dX0_nextCellHome_35 : decode cX0_nextCellHome 35 = .ok (.aload_n 0, 1) := by decide +kernel
theorem dX0_nextCellHome_36 : decode cX0_nextCellHome 36 = .ok (.getfield 43, 3) := by decide +kernel
theorem dX0_nextCellHome_39 : decode cX0_nextCellHome 39 = .ok (.iconst 5, 1) := by decide +kernel
theorem dX0_nextCellHome_40 : decode cX0_nextCellHome 40 = .ok (.isub, 1) := by decide +kernel
theorem dX0_nextCellHome_41 : decode cX0_nextCellHome 41 = .ok (.ireturn, 1) := by decide +kernel
theorem dX0_nextCellHome_42 : decode cX0_nextCellHome 42 = .ok (.aload_n 0, 1) := by decide +kernel
theorem dX0_nextCellHome_43 : decode cX0_nextCellHome 43 = .ok (.getfield 43, 3) := by decide +kernel
theorem dX0_nextCellHome_46 : decode cX0_nextCellHome 46 = .ok (.aload_n 0, 1) := by decide +kernel
theorem dX0_nextCellHome_47 : decode cX0_nextCellHome 47 = .ok (.getfield 31, 3) := by decide +kernel
theorem dX0_nextCellHome_50 : decode cX0_nextCellHome 50 = .ok (.if_icmp .ne 8, 3) := by decide +kernel
theorem dX0_nextCellHome_53 : decode cX0_nextCellHome 53 = .ok (.aload_n 0, 1) := by decide +kernel
theorem dX0_nextCellHome_54 : decode cX0_nextCellHome 54 = .ok (.getfield 43, 3) := by decide +kernel
theorem dX0_nextCellHome_57 : decode cX0_nextCellHome 57 = .ok (.ireturn, 1) := by decide +kernel
theorem dX0_nextCellHome_58 : decode cX0_nextCellHome 58 = .ok (.aload_n 0, 1) := by decide +kernel
theorem dX0_nextCellHome_59 : decode cX0_nextCellHome 59 = .ok (.getfield 43, 3) := by decide +kernel
theorem dX0_nextCellHome_62 : decode cX0_nextCellHome 62 = .ok (.aload_n 0, 1) := by decide +kernel
theorem dX0_nextCellHome_63 : decode cX0_nextCellHome 63 = .ok (.getfield 31, 3) := by decide +kernel
theorem dX0_nextCellHome_66 : decode cX0_nextCellHome 66 = .ok (.if_icmp .ge 12, 3) := by decide +kernel
theorem dX0_nextCellHome_69 : decode cX0_nextCellHome 69 = .ok (.aload_n 0, 1) := by decide +kernel
theorem dX0_nextCellHome_70 : decode cX0_nextCellHome 70 = .ok (.getfield 43, 3) := by decide +kernel
theorem dX0_nextCellHome_73 : decode cX0_nextCellHome 73 = .ok (.iconst 1, 1) := by decide +kernel
theorem dX0_nextCellHome_74 : decode cX0_nextCellHome 74 = .ok (.iadd, 1) := by decide +kernel
theorem dX0_nextCellHome_75 : decode cX0_nextCellHome 75 = .ok (.goto 9, 3) := by decide +kernel
theorem dX0_nextCellHome_78 : decode cX0_nextCellHome 78 = .ok (.aload_n 0, 1) := by decide +kernel
theorem dX0_nextCellHome_79 : decode cX0_nextCellHome 79 = .ok (.getfield 43, 3) := by decide +kernel
theorem dX0_nextCellHome_82 : decode cX0_nextCellHome 82 = .ok (.iconst 1, 1) := by decide +kernel
theorem dX0_nextCellHome_83 : decode cX0_nextCellHome 83 = .ok (.isub, 1) := by decide +kernel
theorem dX0_nextCellHome_84 : decode cX0_nextCellHome 84 = .ok (.ireturn, 1) := by decide +kernel
theorem dX1_init_0 : decode cX1_init 0 = .ok (.aload_n 0, 1) := by decide +kernel
theorem dX1_init_1 : decode cX1_init 1 = .ok (.invokespecial 3, 3) := by decide +kernel
theorem dX1_init_4 : decode cX1_init 4 = .ok (.aload_n 0, 1) := by decide +kernel
theorem dX1_init_5 : decode cX1_init 5 = .ok (.new 9, 3) := by decide +kernel
theorem dX1_init_8 : decode cX1_init 8 = .ok (.dup, 1) := by decide +kernel
theorem dX1_init_9 : decode cX1_init 9 = .ok (.invokespecial 11, 3) := by decide +kernel
theorem dX1_init_12 : decode cX1_init 12 = .ok (.putfield 12, 3) := by decide +kernel
theorem dX1_init_15 : decode cX1_init 15 = .ok (.return_, 1) := by decide +kernel
theorem dX1_copyFrom_0 : decode cX1_copyFrom 0 = .ok (.aload_n 0, 1) := by decide +kernel
theorem dX1_copyFrom_1 : decode cX1_copyFrom 1 = .ok (.aload_n 1, 1) := by decide +kernel
theorem dX1_copyFrom_2 : decode cX1_copyFrom 2 = .ok (.getfield 18, 3) := by decide +kernel
theorem dX1_copyFrom_5 : decode cX1_copyFrom 5 = .ok (.putfield 18, 3) := by decide +kernel
theorem dX1_copyFrom_8 : decode cX1_copyFrom 8 = .ok (.aload_n 0, 1) := by decide +kernel
theorem dX1_copyFrom_9 : decode cX1_copyFrom 9 = .ok (.aload_n 1, 1) := by decide +kernel
theorem dX1_copyFrom_10 : decode cX1_copyFrom 10 = .ok (.getfield 22, 3) := by decide +kernel
theorem dX1_copyFrom_13 : decode cX1_copyFrom 13 = .ok (.putfield 22, 3) := by decide +kernel
theorem dX1_copyFrom_16 : decode cX1_copyFrom 16 = .ok (.aload_n 0, 1) := by decide +kernel
theorem dX1_copyFrom_17 : decode cX1_copyFrom 17 = .ok (.aload_n 1, 1) := by decide +kernel
theorem dX1_copyFrom_18 : decode cX1_copyFrom 18 = .ok (.getfield 25, 3) := by decide +kernel
theorem dX1_copyFrom_21 : decode cX1_copyFrom 21 = .ok (.putfield 25, 3) := by decide +kernel
theorem dX1_copyFrom_24 : decode cX1_copyFrom 24 = .ok (.aload_n 0, 1) := by decide +kernel
theorem dX1_copyFrom_25 : decode cX1_copyFrom 25 = .ok (.getfield 12, 3) := by decide +kernel
theorem dX1_copyFrom_28 : decode cX1_copyFrom 28 = .ok (.aload_n 1, 1) := by decide +kernel
theorem dX1_copyFrom_29 : decode cX1_copyFrom 29 = .ok (.getfield 12, 3) := by decide +kernel
theorem dX1_copyFrom_32 : decode cX1_copyFrom 32 = .ok (.invokevirtual 28, 3) := by decide +kernel
theorem dX1_copyFrom_35 : decode cX1_copyFrom 35 = .ok (.return_, 1) := by decide +kernel
theorem dX1_isAhead_0 : decode cX1_isAhead 0 = .ok (.aload_n 0, 1) := by decide +kernel
theorem dX1_isAhead_1 : decode cX1_isAhead 1 = .ok (.getfield 25, 3) := by decide +kernel
theorem dX1_isAhead_4 : decode cX1_isAhead 4 = .ok (.ifCond .eq 11, 3) := by decide +kernel
theorem dX1_isAhead_7 : decode cX1_isAhead 7 = .ok (.aload_n 0, 1) := by decide +kernel
theorem dX1_isAhead_8 : decode cX1_isAhead 8 = .ok (.getfield 25, 3) := by decide +kernel
theorem dX1_isAhead_11 : decode cX1_isAhead 11 = .ok (.iconst 1, 1) := by decide +kernel
theorem dX1_isAhead_12 : decode cX1_isAhead 12 = .ok (.if_icmp .ne 7, 3) := by decide +kernel
theorem dX1_isAhead_15 : decode cX1_isAhead 15 = .ok (.iconst 1, 1) := by decide +kernel
theorem dX1_isAhead_16 : decode cX1_isAhead 16 = .ok (.goto 4, 3) := by decide +kernel
theorem dX1_isAhead_19 : decode cX1_isAhead 19 = .ok (.iconst 0, 1) := by decide +kernel
theorem dX1_isAhead_20 : decode cX1_isAhead 20 = .ok (.ireturn, 1) := by decide +kernel
theorem dX1_isPlannedOn_0 : decode cX1_isPlannedOn 0 = .ok (.aload_n 0, 1) := by decide +kernel
theorem dX1_isPlannedOn_1 : decode cX1_isPlannedOn 1 = .ok (.invokevirtual 32, 3) := by decide +kernel
theorem dX1_isPlannedOn_4 : decode cX1_isPlannedOn 4 = .ok (.ifCond .ne 11, 3) := by decide +kernel
theorem dX1_isPlannedOn_7 : decode cX1_isPlannedOn 7 = .ok (.aload_n 0, 1) := by decide +kernel
theorem dX1_isPlannedOn_8 : decode cX1_isPlannedOn 8 = .ok (.getfield 25, 3) := by decide +kernel
theorem dX1_isPlannedOn_11 : decode cX1_isPlannedOn 11 = .ok (.iconst 2, 1) := by decide +kernel
theorem dX1_isPlannedOn_12 : decode cX1_isPlannedOn 12 = .ok (.if_icmp .ne 19, 3) := by decide +kernel
theorem dX1_isPlannedOn_15 : decode cX1_isPlannedOn 15 = .ok (.aload_n 0, 1) := by decide +kernel
theorem dX1_isPlannedOn_16 : decode cX1_isPlannedOn 16 = .ok (.getfield 22, 3) := by decide +kernel
theorem dX1_isPlannedOn_19 : decode cX1_isPlannedOn 19 = .ok (.sipush 1440, 3) := by decide +kernel
theorem dX1_isPlannedOn_22 : decode cX1_isPlannedOn 22 = .ok (.idiv, 1) := by decide +kernel
theorem dX1_isPlannedOn_23 : decode cX1_isPlannedOn 23 = .ok (.iload_n 1, 1) := by decide +kernel
theorem dX1_isPlannedOn_24 : decode cX1_isPlannedOn 24 = .ok (.if_icmp .ne 7, 3) := by decide +kernel
theorem dX1_isPlannedOn_27 : decode cX1_isPlannedOn 27 = .ok (.iconst 1, 1) := by decide +kernel
theorem dX1_isPlannedOn_28 : decode cX1_isPlannedOn 28 = .ok (.goto 4, 3) := by decide +kernel
theorem dX1_isPlannedOn_31 : decode cX1_isPlannedOn 31 = .ok (.iconst 0, 1) := by decide +kernel
theorem dX1_isPlannedOn_32 : decode cX1_isPlannedOn 32 = .ok (.ireturn, 1) := by decide +kernel
theorem dX1_occupiesIn_0 : decode cX1_occupiesIn 0 = .ok (.iconst 0, 1) := by decide +kernel
theorem dX1_occupiesIn_1 : decode cX1_occupiesIn 1 = .ok (.istore_n 3, 1) := by decide +kernel
theorem dX1_occupiesIn_2 : decode cX1_occupiesIn 2 = .ok (.iload_n 3, 1) := by decide +kernel
theorem dX1_occupiesIn_3 : decode cX1_occupiesIn 3 = .ok (.aload_n 0, 1) := by decide +kernel
theorem dX1_occupiesIn_4 : decode cX1_occupiesIn 4 = .ok (.getfield 12, 3) := by decide +kernel
theorem dX1_occupiesIn_7 : decode cX1_occupiesIn 7 = .ok (.getfield 36, 3) := by decide +kernel
theorem dX1_occupiesIn_10 : decode cX1_occupiesIn 10 = .ok (.if_icmp .ge 49, 3) := by decide +kernel
theorem dX1_occupiesIn_13 : decode cX1_occupiesIn 13 = .ok (.aload_n 0, 1) := by decide +kernel
theorem dX1_occupiesIn_14 : decode cX1_occupiesIn 14 = .ok (.getfield 22, 3) := by decide +kernel
theorem dX1_occupiesIn_17 : decode cX1_occupiesIn 17 = .ok (.iconst 2, 1) := by decide +kernel
theorem dX1_occupiesIn_18 : decode cX1_occupiesIn 18 = .ok (.iload_n 3, 1) := by decide +kernel
theorem dX1_occupiesIn_19 : decode cX1_occupiesIn 19 = .ok (.imul, 1) := by decide +kernel
theorem dX1_occupiesIn_20 : decode cX1_occupiesIn 20 = .ok (.iadd, 1) := by decide +kernel
theorem dX1_occupiesIn_21 : decode cX1_occupiesIn 21 = .ok (.istore 4, 2) := by decide +kernel
theorem dX1_occupiesIn_23 : decode cX1_occupiesIn 23 = .ok (.aload_n 0, 1) := by decide +kernel
theorem dX1_occupiesIn_24 : decode cX1_occupiesIn 24 = .ok (.getfield 12, 3) := by decide +kernel
theorem dX1_occupiesIn_27 : decode cX1_occupiesIn 27 = .ok (.iload_n 3, 1) := by decide +kernel
theorem dX1_occupiesIn_28 : decode cX1_occupiesIn 28 = .ok (.invokevirtual 39, 3) := by decide +kernel
theorem dX1_occupiesIn_31 : decode cX1_occupiesIn 31 = .ok (.iload_n 1, 1) := by decide +kernel
theorem dX1_occupiesIn_32 : decode cX1_occupiesIn 32 = .ok (.if_icmp .ne 21, 3) := by decide +kernel
theorem dX1_occupiesIn_35 : decode cX1_occupiesIn 35 = .ok (.iload_n 2, 1) := by decide +kernel
theorem dX1_occupiesIn_36 : decode cX1_occupiesIn 36 = .ok (.iload 4, 2) := by decide +kernel
theorem dX1_occupiesIn_38 : decode cX1_occupiesIn 38 = .ok (.iconst 1, 1) := by decide +kernel
theorem dX1_occupiesIn_39 : decode cX1_occupiesIn 39 = .ok (.isub, 1) := by decide +kernel
theorem dX1_occupiesIn_40 : decode cX1_occupiesIn 40 = .ok (.if_icmp .lt 13, 3) := by decide +kernel
theorem dX1_occupiesIn_43 : decode cX1_occupiesIn 43 = .ok (.iload_n 2, 1) := by decide +kernel
theorem dX1_occupiesIn_44 : decode cX1_occupiesIn 44 = .ok (.iload 4, 2) := by decide +kernel
theorem dX1_occupiesIn_46 : decode cX1_occupiesIn 46 = .ok (.iconst 1, 1) := by decide +kernel
theorem dX1_occupiesIn_47 : decode cX1_occupiesIn 47 = .ok (.iadd, 1) := by decide +kernel
theorem dX1_occupiesIn_48 : decode cX1_occupiesIn 48 = .ok (.if_icmp .gt 5, 3) := by decide +kernel
theorem dX1_occupiesIn_51 : decode cX1_occupiesIn 51 = .ok (.iconst 1, 1) := by decide +kernel
theorem dX1_occupiesIn_52 : decode cX1_occupiesIn 52 = .ok (.ireturn, 1) := by decide +kernel
theorem dX1_occupiesIn_53 : decode cX1_occupiesIn 53 = .ok (.iinc 3 1, 3) := by decide +kernel
theorem dX1_occupiesIn_56 : decode cX1_occupiesIn 56 = .ok (.goto (-54), 3) := by decide +kernel
theorem dX1_occupiesIn_59 : decode cX1_occupiesIn 59 = .ok (.iconst 0, 1) := by decide +kernel
theorem dX1_occupiesIn_60 : decode cX1_occupiesIn 60 = .ok (.ireturn, 1) := by decide +kernel
theorem dX1_isCloseInTime_0 : decode cX1_isCloseInTime 0 = .ok (.aload_n 0, 1) := by decide +kernel
theorem dX1_isCloseInTime_1 : decode cX1_isCloseInTime 1 = .ok (.getfield 22, 3) := by decide +kernel
theorem dX1_isCloseInTime_4 : decode cX1_isCloseInTime 4 = .ok (.aload_n 1, 1) := by decide +kernel
theorem dX1_isCloseInTime_5 : decode cX1_isCloseInTime 5 = .ok (.iload_n 2, 1) := by decide +kernel
theorem dX1_isCloseInTime_6 : decode cX1_isCloseInTime 6 = .ok (.invokevirtual 43, 3) := by decide +kernel
theorem dX1_isCloseInTime_9 : decode cX1_isCloseInTime 9 = .ok (.iconst 2, 1) := by decide +kernel
theorem dX1_isCloseInTime_10 : decode cX1_isCloseInTime 10 = .ok (.iadd, 1) := by decide +kernel
theorem dX1_isCloseInTime_11 : decode cX1_isCloseInTime 11 = .ok (.if_icmp .gt 24, 3) := by decide +kernel
theorem dX1_isCloseInTime_14 : decode cX1_isCloseInTime 14 = .ok (.aload_n 0, 1) := by decide +kernel
theorem dX1_isCloseInTime_15 : decode cX1_isCloseInTime 15 = .ok (.getfield 12, 3) := by decide +kernel
theorem dX1_isCloseInTime_18 : decode cX1_isCloseInTime 18 = .ok (.aload_n 0, 1) := by decide +kernel
theorem dX1_isCloseInTime_19 : decode cX1_isCloseInTime 19 = .ok (.getfield 22, 3) := by decide +kernel
theorem dX1_isCloseInTime_22 : decode cX1_isCloseInTime 22 = .ok (.invokevirtual 43, 3) := by decide +kernel
theorem dX1_isCloseInTime_25 : decode cX1_isCloseInTime 25 = .ok (.iload_n 2, 1) := by decide +kernel
theorem dX1_isCloseInTime_26 : decode cX1_isCloseInTime 26 = .ok (.iconst 2, 1) := by decide +kernel
theorem dX1_isCloseInTime_27 : decode cX1_isCloseInTime 27 = .ok (.isub, 1) := by decide +kernel
theorem dX1_isCloseInTime_28 : decode cX1_isCloseInTime 28 = .ok (.if_icmp .lt 7, 3) := by decide +kernel
theorem dX1_isCloseInTime_31 : decode cX1_isCloseInTime 31 = .ok (.iconst 1, 1) := by decide +kernel
theorem dX1_isCloseInTime_32 : decode cX1_isCloseInTime 32 = .ok (.goto 4, 3) := by decide +kernel
theorem dX1_isCloseInTime_35 : decode cX1_isCloseInTime 35 = .ok (.iconst 0, 1) := by decide +kernel
theorem dX1_isCloseInTime_36 : decode cX1_isCloseInTime 36 = .ok (.ireturn, 1) := by decide +kernel
theorem dX1_meets_0 : decode cX1_meets 0 = .ok (.iconst 0, 1) := by decide +kernel
theorem dX1_meets_1 : decode cX1_meets 1 = .ok (.istore_n 3, 1) := by decide +kernel
theorem dX1_meets_2 : decode cX1_meets 2 = .ok (.iload_n 3, 1) := by decide +kernel
theorem dX1_meets_3 : decode cX1_meets 3 = .ok (.aload_n 0, 1) := by decide +kernel
theorem dX1_meets_4 : decode cX1_meets 4 = .ok (.getfield 12, 3) := by decide +kernel
theorem dX1_meets_7 : decode cX1_meets 7 = .ok (.getfield 36, 3) := by decide +kernel
theorem dX1_meets_10 : decode cX1_meets 10 = .ok (.if_icmp .ge 76, 3) := by decide +kernel
theorem dX1_meets_13 : decode cX1_meets 13 = .ok (.iconst 0, 1) := by decide +kernel
theorem dX1_meets_14 : decode cX1_meets 14 = .ok (.istore 4, 2) := by decide +kernel
theorem dX1_meets_16 : decode cX1_meets 16 = .ok (.iload 4, 2) := by decide +kernel
theorem dX1_meets_18 : decode cX1_meets 18 = .ok (.aload_n 1, 1) := by decide +kernel
theorem dX1_meets_19 : decode cX1_meets 19 = .ok (.getfield 36, 3) := by decide +kernel
theorem dX1_meets_22 : decode cX1_meets 22 = .ok (.if_icmp .ge 58, 3) := by decide +kernel
theorem dX1_meets_25 : decode cX1_meets 25 = .ok (.aload_n 0, 1) := by decide +kernel
theorem dX1_meets_26 : decode cX1_meets 26 = .ok (.getfield 22, 3) := by decide +kernel
theorem dX1_meets_29 : decode cX1_meets 29 = .ok (.iconst 2, 1) := by decide +kernel
theorem dX1_meets_30 : decode cX1_meets 30 = .ok (.iload_n 3, 1) := by decide +kernel
theorem dX1_meets_31 : decode cX1_meets 31 = .ok (.imul, 1) := by decide +kernel
theorem dX1_meets_32 : decode cX1_meets 32 = .ok (.iadd, 1) := by decide +kernel
theorem dX1_meets_33 : decode cX1_meets 33 = .ok (.iload_n 2, 1) := by decide +kernel
theorem dX1_meets_34 : decode cX1_meets 34 = .ok (.isub, 1) := by decide +kernel
theorem dX1_meets_35 : decode cX1_meets 35 = .ok (.iconst 2, 1) := by decide +kernel
theorem dX1_meets_36 : decode cX1_meets 36 = .ok (.iload 4, 2) := by decide +kernel
theorem dX1_meets_38 : decode cX1_meets 38 = .ok (.imul, 1) := by decide +kernel
theorem dX1_meets_39 : decode cX1_meets 39 = .ok (.isub, 1) := by decide +kernel
theorem dX1_meets_40 : decode cX1_meets 40 = .ok (.istore 5, 2) := by decide +kernel
theorem dX1_meets_42 : decode cX1_meets 42 = .ok (.iload 5, 2) := by decide +kernel
theorem dX1_meets_44 : decode cX1_meets 44 = .ok (.bipush (-2), 2) := by decide +kernel
theorem dX1_meets_46 : decode cX1_meets 46 = .ok (.if_icmp .lt 28, 3) := by decide +kernel
theorem dX1_meets_49 : decode cX1_meets 49 = .ok (.iload 5, 2) := by decide +kernel
theorem dX1_meets_51 : decode cX1_meets 51 = .ok (.iconst 2, 1) := by decide +kernel
theorem dX1_meets_52 : decode cX1_meets 52 = .ok (.if_icmp .gt 22, 3) := by decide +kernel
theorem dX1_meets_55 : decode cX1_meets 55 = .ok (.aload_n 0, 1) := by decide +kernel
theorem dX1_meets_56 : decode cX1_meets 56 = .ok (.getfield 12, 3) := by decide +kernel
theorem dX1_meets_59 : decode cX1_meets 59 = .ok (.iload_n 3, 1) := by decide +kernel
theorem dX1_meets_60 : decode cX1_meets 60 = .ok (.invokevirtual 39, 3) := by decide +kernel
theorem dX1_meets_63 : decode cX1_meets 63 = .ok (.aload_n 1, 1) := by decide +kernel
theorem dX1_meets_64 : decode cX1_meets 64 = .ok (.iload 4, 2) := by decide +kernel
theorem dX1_meets_66 : decode cX1_meets 66 = .ok (.invokevirtual 39, 3) := by decide +kernel
theorem dX1_meets_69 : decode cX1_meets 69 = .ok (.if_icmp .ne 5, 3) := by decide +kernel
theorem dX1_meets_72 : decode cX1_meets 72 = .ok (.iconst 1, 1) := by decide +kernel
theorem dX1_meets_73 : decode cX1_meets 73 = .ok (.ireturn, 1) := by decide +kernel
theorem dX1_meets_74 : decode cX1_meets 74 = .ok (.iinc 4 1, 3) := by decide +kernel
theorem dX1_meets_77 : decode cX1_meets 77 = .ok (.goto (-61), 3) := by decide +kernel
theorem dX1_meets_80 : decode cX1_meets 80 = .ok (.iinc 3 1, 3) := by decide +kernel
theorem dX1_meets_83 : decode cX1_meets 83 = .ok (.goto (-81), 3) := by decide +kernel
theorem dX1_meets_86 : decode cX1_meets 86 = .ok (.iconst 0, 1) := by decide +kernel
theorem dX1_meets_87 : decode cX1_meets 87 = .ok (.ireturn, 1) := by decide +kernel
theorem dX2_init_0 : decode cX2_init 0 = .ok (.aload_n 0, 1) := by decide +kernel
theorem dX2_init_1 : decode cX2_init 1 = .ok (.invokespecial 3, 3) := by decide +kernel
theorem dX2_init_4 : decode cX2_init 4 = .ok (.aload_n 0, 1) := by decide +kernel
theorem dX2_init_5 : decode cX2_init 5 = .ok (.bipush 25, 2) := by decide +kernel
theorem dX2_init_7 : decode cX2_init 7 = .ok (.newarray .int, 2) := by decide +kernel
theorem dX2_init_9 : decode cX2_init 9 = .ok (.putfield 9, 3) := by decide +kernel
theorem dX2_init_12 : decode cX2_init 12 = .ok (.aload_n 0, 1) := by decide +kernel
theorem dX2_init_13 : decode cX2_init 13 = .ok (.bipush 25, 2) := by decide +kernel
theorem dX2_init_15 : decode cX2_init 15 = .ok (.newarray .boolean, 2) := by decide +kernel
theorem dX2_init_17 : decode cX2_init 17 = .ok (.putfield 15, 3) := by decide +kernel
theorem dX2_init_20 : decode cX2_init 20 = .ok (.aload_n 0, 1) := by decide +kernel
theorem dX2_init_21 : decode cX2_init 21 = .ok (.bipush 25, 2) := by decide +kernel
theorem dX2_init_23 : decode cX2_init 23 = .ok (.newarray .int, 2) := by decide +kernel
theorem dX2_init_25 : decode cX2_init 25 = .ok (.putfield 19, 3) := by decide +kernel
theorem dX2_init_28 : decode cX2_init 28 = .ok (.aload_n 0, 1) := by decide +kernel
theorem dX2_init_29 : decode cX2_init 29 = .ok (.iconst 5, 1) := by decide +kernel
theorem dX2_init_30 : decode cX2_init 30 = .ok (.newarray .int, 2) := by decide +kernel
theorem dX2_init_32 : decode cX2_init 32 = .ok (.putfield 22, 3) := by decide +kernel
theorem dX2_init_35 : decode cX2_init 35 = .ok (.aload_n 0, 1) := by decide +kernel
theorem dX2_init_36 : decode cX2_init 36 = .ok (.bipush 6, 2) := by decide +kernel
theorem dX2_init_38 : decode cX2_init 38 = .ok (.anewarray 25, 3) := by decide +kernel
theorem dX2_init_41 : decode cX2_init 41 = .ok (.putfield 27, 3) := by decide +kernel
theorem dX2_init_44 : decode cX2_init 44 = .ok (.aload_n 0, 1) := by decide +kernel
theorem dX2_init_45 : decode cX2_init 45 = .ok (.getfield 19, 3) := by decide +kernel
theorem dX2_init_48 : decode cX2_init 48 = .ok (.iconst (-1), 1) := by decide +kernel
theorem dX2_init_49 : decode cX2_init 49 = .ok (.invokestatic 31, 3) := by decide +kernel
theorem dX2_init_52 : decode cX2_init 52 = .ok (.iconst 0, 1) := by decide +kernel
theorem dX2_init_53 : decode cX2_init 53 = .ok (.istore_n 1, 1) := by decide +kernel
theorem dX2_init_54 : decode cX2_init 54 = .ok (.iload_n 1, 1) := by decide +kernel
theorem dX2_init_55 : decode cX2_init 55 = .ok (.bipush 6, 2) := by decide +kernel
theorem dX2_init_57 : decode cX2_init 57 = .ok (.if_icmp .ge 22, 3) := by decide +kernel
theorem dX2_init_60 : decode cX2_init 60 = .ok (.aload_n 0, 1) := by decide +kernel
theorem dX2_init_61 : decode cX2_init 61 = .ok (.getfield 27, 3) := by decide +kernel
theorem dX2_init_64 : decode cX2_init 64 = .ok (.iload_n 1, 1) := by decide +kernel
theorem dX2_init_65 : decode cX2_init 65 = .ok (.new 25, 3) := by decide +kernel
theorem dX2_init_68 : decode cX2_init 68 = .ok (.dup, 1) := by decide +kernel
theorem dX2_init_69 : decode cX2_init 69 = .ok (.invokespecial 37, 3) := by decide +kernel
theorem dX2_init_72 : decode cX2_init 72 = .ok (.aastore, 1) := by decide +kernel
theorem dX2_init_73 : decode cX2_init 73 = .ok (.iinc 1 1, 3) := by decide +kernel
theorem dX2_init_76 : decode cX2_init 76 = .ok (.goto (-22), 3) := by decide +kernel
theorem dX2_init_79 : decode cX2_init 79 = .ok (.return_, 1) := by decide +kernel
theorem dX2_addPad_0 : decode cX2_addPad 0 = .ok (.aload_n 0, 1) := by decide +kernel
theorem dX2_addPad_1 : decode cX2_addPad 1 = .ok (.getfield 22, 3) := by decide +kernel
theorem dX2_addPad_4 : decode cX2_addPad 4 = .ok (.aload_n 0, 1) := by decide +kernel
theorem dX2_addPad_5 : decode cX2_addPad 5 = .ok (.getfield 38, 3) := by decide +kernel
theorem dX2_addPad_8 : decode cX2_addPad 8 = .ok (.iload_n 1, 1) := by decide +kernel
theorem dX2_addPad_9 : decode cX2_addPad 9 = .ok (.iastore, 1) := by decide +kernel
theorem dX2_addPad_10 : decode cX2_addPad 10 = .ok (.aload_n 0, 1) := by decide +kernel
theorem dX2_addPad_11 : decode cX2_addPad 11 = .ok (.getfield 19, 3) := by decide +kernel
theorem dX2_addPad_14 : decode cX2_addPad 14 = .ok (.iload_n 1, 1) := by decide +kernel
theorem dX2_addPad_15 : decode cX2_addPad 15 = .ok (.aload_n 0, 1) := by decide +kernel
theorem dX2_addPad_16 : decode cX2_addPad 16 = .ok (.getfield 38, 3) := by decide +kernel
theorem dX2_addPad_19 : decode cX2_addPad 19 = .ok (.iastore, 1) := by decide +kernel
theorem dX2_addPad_20 : decode cX2_addPad 20 = .ok (.aload_n 0, 1) := by decide +kernel
theorem dX2_addPad_21 : decode cX2_addPad 21 = .ok (.dup, 1) := by decide +kernel
theorem dX2_addPad_22 : decode cX2_addPad 22 = .ok (.getfield 38, 3) := by decide +kernel
theorem dX2_addPad_25 : decode cX2_addPad 25 = .ok (.dup_x1, 1) := by decide +kernel
theorem dX2_addPad_26 : decode cX2_addPad 26 = .ok (.iconst 1, 1) := by decide +kernel
theorem dX2_addPad_27 : decode cX2_addPad 27 = .ok (.iadd, 1) := by decide +kernel
theorem dX2_addPad_28 : decode cX2_addPad 28 = .ok (.putfield 38, 3) := by decide +kernel
theorem dX2_addPad_31 : decode cX2_addPad 31 = .ok (.ireturn, 1) := by decide +kernel
theorem dX2_addZone_0 : decode cX2_addZone 0 = .ok (.aload_n 0, 1) := by decide +kernel
theorem dX2_addZone_1 : decode cX2_addZone 1 = .ok (.getfield 27, 3) := by decide +kernel
theorem dX2_addZone_4 : decode cX2_addZone 4 = .ok (.aload_n 0, 1) := by decide +kernel
theorem dX2_addZone_5 : decode cX2_addZone 5 = .ok (.getfield 42, 3) := by decide +kernel
theorem dX2_addZone_8 : decode cX2_addZone 8 = .ok (.aaload, 1) := by decide +kernel
theorem dX2_addZone_9 : decode cX2_addZone 9 = .ok (.astore 5, 2) := by decide +kernel
theorem dX2_addZone_11 : decode cX2_addZone 11 = .ok (.aload 5, 2) := by decide +kernel
theorem dX2_addZone_13 : decode cX2_addZone 13 = .ok (.iload_n 1, 1) := by decide +kernel
theorem dX2_addZone_14 : decode cX2_addZone 14 = .ok (.putfield 45, 3) := by decide +kernel
theorem dX2_addZone_17 : decode cX2_addZone 17 = .ok (.aload 5, 2) := by decide +kernel
theorem dX2_addZone_19 : decode cX2_addZone 19 = .ok (.iload_n 2, 1) := by decide +kernel
theorem dX2_addZone_20 : decode cX2_addZone 20 = .ok (.putfield 48, 3) := by decide +kernel
theorem dX2_addZone_23 : decode cX2_addZone 23 = .ok (.aload 5, 2) := by decide +kernel
theorem dX2_addZone_25 : decode cX2_addZone 25 = .ok (.iload_n 3, 1) := by decide +kernel
theorem dX2_addZone_26 : decode cX2_addZone 26 = .ok (.putfield 51, 3) := by decide +kernel
theorem dX2_addZone_29 : decode cX2_addZone 29 = .ok (.aload 5, 2) := by decide +kernel
theorem dX2_addZone_31 : decode cX2_addZone 31 = .ok (.iload 4, 2) := by decide +kernel
theorem dX2_addZone_33 : decode cX2_addZone 33 = .ok (.putfield 54, 3) := by decide +kernel
theorem dX2_addZone_36 : decode cX2_addZone 36 = .ok (.aload_n 0, 1) := by decide +kernel
theorem dX2_addZone_37 : decode cX2_addZone 37 = .ok (.dup, 1) := by decide +kernel
theorem dX2_addZone_38 : decode cX2_addZone 38 = .ok (.getfield 42, 3) := by decide +kernel
theorem dX2_addZone_41 : decode cX2_addZone 41 = .ok (.dup_x1, 1) := by decide +kernel
theorem dX2_addZone_42 : decode cX2_addZone 42 = .ok (.iconst 1, 1) := by decide +kernel
theorem dX2_addZone_43 : decode cX2_addZone 43 = .ok (.iadd, 1) := by decide +kernel
theorem dX2_addZone_44 : decode cX2_addZone 44 = .ok (.putfield 42, 3) := by decide +kernel
theorem dX2_addZone_47 : decode cX2_addZone 47 = .ok (.ireturn, 1) := by decide +kernel
theorem dX2_isShut_0 : decode cX2_isShut 0 = .ok (.iconst 0, 1) := by decide +kernel
theorem dX2_isShut_1 : decode cX2_isShut 1 = .ok (.istore 4, 2) := by decide +kernel
theorem dX2_isShut_3 : decode cX2_isShut 3 = .ok (.iload 4, 2) := by decide +kernel
theorem dX2_isShut_5 : decode cX2_isShut 5 = .ok (.aload_n 0, 1) := by decide +kernel
theorem dX2_isShut_6 : decode cX2_isShut 6 = .ok (.getfield 42, 3) := by decide +kernel
theorem dX2_isShut_9 : decode cX2_isShut 9 = .ok (.if_icmp .ge 27, 3) := by decide +kernel
theorem dX2_isShut_12 : decode cX2_isShut 12 = .ok (.aload_n 0, 1) := by decide +kernel
theorem dX2_isShut_13 : decode cX2_isShut 13 = .ok (.getfield 27, 3) := by decide +kernel
theorem dX2_isShut_16 : decode cX2_isShut 16 = .ok (.iload 4, 2) := by decide +kernel
theorem dX2_isShut_18 : decode cX2_isShut 18 = .ok (.aaload, 1) := by decide +kernel
theorem dX2_isShut_19 : decode cX2_isShut 19 = .ok (.iload_n 1, 1) := by decide +kernel
theorem dX2_isShut_20 : decode cX2_isShut 20 = .ok (.iload_n 2, 1) := by decide +kernel
theorem dX2_isShut_21 : decode cX2_isShut 21 = .ok (.iload_n 3, 1) := by decide +kernel
theorem dX2_isShut_22 : decode cX2_isShut 22 = .ok (.invokevirtual 57, 3) := by decide +kernel
theorem dX2_isShut_25 : decode cX2_isShut 25 = .ok (.ifCond .eq 5, 3) := by decide +kernel
theorem dX2_isShut_28 : decode cX2_isShut 28 = .ok (.iconst 1, 1) := by decide +kernel
theorem dX2_isShut_29 : decode cX2_isShut 29 = .ok (.ireturn, 1) := by decide +kernel
theorem dX2_isShut_30 : decode cX2_isShut 30 = .ok (.iinc 4 1, 3) := by decide +kernel
theorem dX2_isShut_33 : decode cX2_isShut 33 = .ok (.goto (-30), 3) := by decide +kernel
theorem dX2_isShut_36 : decode cX2_isShut 36 = .ok (.iconst 0, 1) := by decide +kernel
theorem dX2_isShut_37 : decode cX2_isShut 37 = .ok (.ireturn, 1) := by decide +kernel
theorem dX2_hasPad_0 : decode cX2_hasPad 0 = .ok (.iload_n 1, 1) := by decide +kernel
theorem dX2_hasPad_1 : decode cX2_hasPad 1 = .ok (.invokestatic 61, 3) := by decide +kernel
theorem dX2_hasPad_4 : decode cX2_hasPad 4 = .ok (.ifCond .eq 17, 3) := by decide +kernel
theorem dX2_hasPad_7 : decode cX2_hasPad 7 = .ok (.aload_n 0, 1) := by decide +kernel
theorem dX2_hasPad_8 : decode cX2_hasPad 8 = .ok (.getfield 19, 3) := by decide +kernel
theorem dX2_hasPad_11 : decode cX2_hasPad 11 = .ok (.iload_n 1, 1) := by decide +kernel
theorem dX2_hasPad_12 : decode cX2_hasPad 12 = .ok (.iaload, 1) := by decide +kernel
theorem dX2_hasPad_13 : decode cX2_hasPad 13 = .ok (.iconst (-1), 1) := by decide +kernel
theorem dX2_hasPad_14 : decode cX2_hasPad 14 = .ok (.if_icmp .eq 7, 3) := by decide +kernel
theorem dX2_hasPad_17 : decode cX2_hasPad 17 = .ok (.iconst 1, 1) := by decide +kernel
theorem dX2_hasPad_18 : decode cX2_hasPad 18 = .ok (.goto 4, 3) := by decide +kernel
theorem dX2_hasPad_21 : decode cX2_hasPad 21 = .ok (.iconst 0, 1) := by decide +kernel
theorem dX2_hasPad_22 : decode cX2_hasPad 22 = .ok (.ireturn, 1) := by decide +kernel
theorem dX2_isWayFromPadToPad_0 : decode cX2_isWayFromPadToPad 0 = .ok (.aload_n 1, 1) := by decide +kernel
theorem dX2_isWayFromPadToPad_1 : decode cX2_isWayFromPadToPad 1 = .ok (.getfield 65, 3) := by decide +kernel
theorem dX2_isWayFromPadToPad_4 : decode cX2_isWayFromPadToPad 4 = .ok (.iconst 2, 1) := by decide +kernel
theorem dX2_isWayFromPadToPad_5 : decode cX2_isWayFromPadToPad 5 = .ok (.if_icmp .lt 25, 3) := by decide +kernel
theorem dX2_isWayFromPadToPad_8 : decode cX2_isWayFromPadToPad 8 = .ok (.aload_n 0, 1) := by decide +kernel
theorem dX2_isWayFromPadToPad_9 : decode cX2_isWayFromPadToPad 9 = .ok (.aload_n 1, 1) := by decide +kernel
theorem dX2_isWayFromPadToPad_10 : decode cX2_isWayFromPadToPad 10 = .ok (.invokevirtual 70, 3) := by decide +kernel
theorem dX2_isWayFromPadToPad_13 : decode cX2_isWayFromPadToPad 13 = .ok (.invokevirtual 74, 3) := by decide +kernel
theorem dX2_isWayFromPadToPad_16 : decode cX2_isWayFromPadToPad 16 = .ok (.ifCond .eq 14, 3) := by decide +kernel
theorem dX2_isWayFromPadToPad_19 : decode cX2_isWayFromPadToPad 19 = .ok (.aload_n 0, 1) := by decide +kernel
theorem dX2_isWayFromPadToPad_20 : decode cX2_isWayFromPadToPad 20 = .ok (.aload_n 1, 1) := by decide +kernel
theorem dX2_isWayFromPadToPad_21 : decode cX2_isWayFromPadToPad 21 = .ok (.invokevirtual 77, 3) := by decide +kernel
theorem dX2_isWayFromPadToPad_24 : decode cX2_isWayFromPadToPad 24 = .ok (.invokevirtual 74, 3) := by decide +kernel
theorem dX2_isWayFromPadToPad_27 : decode cX2_isWayFromPadToPad 27 = .ok (.ifCond .ne 5, 3) := by decide +kernel
theorem dX2_isWayFromPadToPad_30 : decode cX2_isWayFromPadToPad 30 = .ok (.iconst 0, 1) := by decide +kernel
theorem dX2_isWayFromPadToPad_31 : decode cX2_isWayFromPadToPad 31 = .ok (.ireturn, 1) := by decide +kernel
theorem dX2_isWayFromPadToPad_32 : decode cX2_isWayFromPadToPad 32 = .ok (.iconst 1, 1) := by decide +kernel
theorem dX2_isWayFromPadToPad_33 : decode cX2_isWayFromPadToPad 33 = .ok (.istore_n 2, 1) := by decide +kernel
theorem dX2_isWayFromPadToPad_34 : decode cX2_isWayFromPadToPad 34 = .ok (.iload_n 2, 1) := by decide +kernel
theorem dX2_isWayFromPadToPad_35 : decode cX2_isWayFromPadToPad 35 = .ok (.aload_n 1, 1) := by decide +kernel
theorem dX2_isWayFromPadToPad_36 : decode cX2_isWayFromPadToPad 36 = .ok (.getfield 65, 3) := by decide +kernel
theorem dX2_isWayFromPadToPad_39 : decode cX2_isWayFromPadToPad 39 = .ok (.if_icmp .ge 30, 3) := by decide +kernel
theorem dX2_isWayFromPadToPad_42 : decode cX2_isWayFromPadToPad 42 = .ok (.aload_n 1, 1) := by decide +kernel
theorem dX2_isWayFromPadToPad_43 : decode cX2_isWayFromPadToPad 43 = .ok (.iload_n 2, 1) := by decide +kernel
theorem dX2_isWayFromPadToPad_44 : decode cX2_isWayFromPadToPad 44 = .ok (.iconst 1, 1) := by decide +kernel
theorem dX2_isWayFromPadToPad_45 : decode cX2_isWayFromPadToPad 45 = .ok (.isub, 1) := by decide +kernel
theorem dX2_isWayFromPadToPad_46 : decode cX2_isWayFromPadToPad 46 = .ok (.invokevirtual 80, 3) := by decide +kernel
theorem dX2_isWayFromPadToPad_49 : decode cX2_isWayFromPadToPad 49 = .ok (.aload_n 1, 1) := by decide +kernel
theorem dX2_isWayFromPadToPad_50 : decode cX2_isWayFromPadToPad 50 = .ok (.iload_n 2, 1) := by decide +kernel
theorem dX2_isWayFromPadToPad_51 : decode cX2_isWayFromPadToPad 51 = .ok (.invokevirtual 80, 3) := by decide +kernel
theorem dX2_isWayFromPadToPad_54 : decode cX2_isWayFromPadToPad 54 = .ok (.invokestatic 84, 3) := by decide +kernel
theorem dX2_isWayFromPadToPad_57 : decode cX2_isWayFromPadToPad 57 = .ok (.iconst (-1), 1) := by decide +kernel
theorem dX2_isWayFromPadToPad_58 : decode cX2_isWayFromPadToPad 58 = .ok (.if_icmp .ne 5, 3) := by decide +kernel
theorem dX2_isWayFromPadToPad_61 : decode cX2_isWayFromPadToPad 61 = .ok (.iconst 0, 1) := by decide +kernel
theorem dX2_isWayFromPadToPad_62 : decode cX2_isWayFromPadToPad 62 = .ok (.ireturn, 1) := by decide +kernel
theorem dX2_isWayFromPadToPad_63 : decode cX2_isWayFromPadToPad 63 = .ok (.iinc 2 1, 3) := by decide +kernel
theorem dX2_isWayFromPadToPad_66 : decode cX2_isWayFromPadToPad 66 = .ok (.goto (-32), 3) := by decide +kernel
theorem dX2_isWayFromPadToPad_69 : decode cX2_isWayFromPadToPad 69 = .ok (.iconst 1, 1) := by decide +kernel
theorem dX2_isWayFromPadToPad_70 : decode cX2_isWayFromPadToPad 70 = .ok (.ireturn, 1) := by decide +kernel
theorem dX2_neighbour_0 : decode cX2_neighbour 0 = .ok (.iload_n 0, 1) := by decide +kernel
theorem dX2_neighbour_1 : decode cX2_neighbour 1 = .ok (.iconst 5, 1) := by decide +kernel
theorem dX2_neighbour_2 : decode cX2_neighbour 2 = .ok (.idiv, 1) := by decide +kernel
theorem dX2_neighbour_3 : decode cX2_neighbour 3 = .ok (.istore_n 2, 1) := by decide +kernel
theorem dX2_neighbour_4 : decode cX2_neighbour 4 = .ok (.iload_n 0, 1) := by decide +kernel
theorem dX2_neighbour_5 : decode cX2_neighbour 5 = .ok (.iconst 5, 1) := by decide +kernel
theorem dX2_neighbour_6 : decode cX2_neighbour 6 = .ok (.irem, 1) := by decide +kernel
theorem dX2_neighbour_7 : decode cX2_neighbour 7 = .ok (.istore_n 3, 1) := by decide +kernel
theorem dX2_neighbour_8 : decode cX2_neighbour 8 = .ok (.iload_n 1, 1) := by decide +kernel
theorem dX2_neighbour_9 : decode cX2_neighbour 9 = .ok (.tableswitch 81 0 3 #[31, 43, 56, 69], 31) := by decide +kernel
theorem dX2_neighbour_40 : decode cX2_neighbour 40 = .ok (.iload_n 2, 1) := by decide +kernel
theorem dX2_neighbour_41 : decode cX2_neighbour 41 = .ok (.ifCond .le 9, 3) := by decide +kernel
theorem dX2_neighbour_44 : decode cX2_neighbour 44 = .ok (.iload_n 0, 1) := by decide +kernel
theorem dX2_neighbour_45 : decode cX2_neighbour 45 = .ok (.iconst 5, 1) := by decide +kernel
theorem dX2_neighbour_46 : decode cX2_neighbour 46 = .ok (.isub, 1) := by decide +kernel
theorem dX2_neighbour_47 : decode cX2_neighbour 47 = .ok (.goto 4, 3) := by decide +kernel
theorem dX2_neighbour_50 : decode cX2_neighbour 50 = .ok (.iconst (-1), 1) := by decide +kernel
theorem dX2_neighbour_51 : decode cX2_neighbour 51 = .ok (.ireturn, 1) := by decide +kernel
theorem dX2_neighbour_52 : decode cX2_neighbour 52 = .ok (.iload_n 3, 1) := by decide +kernel
theorem dX2_neighbour_53 : decode cX2_neighbour 53 = .ok (.iconst 4, 1) := by decide +kernel
theorem dX2_neighbour_54 : decode cX2_neighbour 54 = .ok (.if_icmp .ge 9, 3) := by decide +kernel
theorem dX2_neighbour_57 : decode cX2_neighbour 57 = .ok (.iload_n 0, 1) := by decide +kernel
theorem dX2_neighbour_58 : decode cX2_neighbour 58 = .ok (.iconst 1, 1) := by decide +kernel
theorem dX2_neighbour_59 : decode cX2_neighbour 59 = .ok (.iadd, 1) := by decide +kernel
theorem dX2_neighbour_60 : decode cX2_neighbour 60 = .ok (.goto 4, 3) := by decide +kernel
theorem dX2_neighbour_63 : decode cX2_neighbour 63 = .ok (.iconst (-1), 1) := by decide +kernel
theorem dX2_neighbour_64 : decode cX2_neighbour 64 = .ok (.ireturn, 1) := by decide +kernel
theorem dX2_neighbour_65 : decode cX2_neighbour 65 = .ok (.iload_n 2, 1) := by decide +kernel
theorem dX2_neighbour_66 : decode cX2_neighbour 66 = .ok (.iconst 4, 1) := by decide +kernel
theorem dX2_neighbour_67 : decode cX2_neighbour 67 = .ok (.if_icmp .ge 9, 3) := by decide +kernel
theorem dX2_neighbour_70 : decode cX2_neighbour 70 = .ok (.iload_n 0, 1) := by decide +kernel
theorem dX2_neighbour_71 : decode cX2_neighbour 71 = .ok (.iconst 5, 1) := by decide +kernel
theorem dX2_neighbour_72 : decode cX2_neighbour 72 = .ok (.iadd, 1) := by decide +kernel
theorem dX2_neighbour_73 : decode cX2_neighbour 73 = .ok (.goto 4, 3) := by decide +kernel
theorem dX2_neighbour_76 : decode cX2_neighbour 76 = .ok (.iconst (-1), 1) := by decide +kernel
theorem dX2_neighbour_77 : decode cX2_neighbour 77 = .ok (.ireturn, 1) := by decide +kernel
theorem dX2_neighbour_78 : decode cX2_neighbour 78 = .ok (.iload_n 3, 1) := by decide +kernel
theorem dX2_neighbour_79 : decode cX2_neighbour 79 = .ok (.ifCond .le 9, 3) := by decide +kernel
theorem dX2_neighbour_82 : decode cX2_neighbour 82 = .ok (.iload_n 0, 1) := by decide +kernel
theorem dX2_neighbour_83 : decode cX2_neighbour 83 = .ok (.iconst 1, 1) := by decide +kernel
theorem dX2_neighbour_84 : decode cX2_neighbour 84 = .ok (.isub, 1) := by decide +kernel
theorem dX2_neighbour_85 : decode cX2_neighbour 85 = .ok (.goto 4, 3) := by decide +kernel
theorem dX2_neighbour_88 : decode cX2_neighbour 88 = .ok (.iconst (-1), 1) := by decide +kernel
theorem dX2_neighbour_89 : decode cX2_neighbour 89 = .ok (.ireturn, 1) := by decide +kernel
theorem dX2_neighbour_90 : decode cX2_neighbour 90 = .ok (.iconst (-1), 1) := by decide +kernel
theorem dX2_neighbour_91 : decode cX2_neighbour 91 = .ok (.ireturn, 1) := by decide +kernel
theorem dX2_directionTo_0 : decode cX2_directionTo 0 = .ok (.iload_n 0, 1) := by decide +kernel
theorem dX2_directionTo_1 : decode cX2_directionTo 1 = .ok (.invokestatic 61, 3) := by decide +kernel
theorem dX2_directionTo_4 : decode cX2_directionTo 4 = .ok (.ifCond .eq 10, 3) := by decide +kernel
theorem dX2_directionTo_7 : decode cX2_directionTo 7 = .ok (.iload_n 1, 1) := by decide +kernel
theorem dX2_directionTo_8 : decode cX2_directionTo 8 = .ok (.invokestatic 61, 3) := by decide +kernel
theorem dX2_directionTo_11 : decode cX2_directionTo 11 = .ok (.ifCond .ne 5, 3) := by decide +kernel
theorem dX2_directionTo_14 : decode cX2_directionTo 14 = .ok (.iconst (-1), 1) := by decide +kernel
theorem dX2_directionTo_15 : decode cX2_directionTo 15 = .ok (.ireturn, 1) := by decide +kernel
theorem dX2_directionTo_16 : decode cX2_directionTo 16 = .ok (.iconst 0, 1) := by decide +kernel
theorem dX2_directionTo_17 : decode cX2_directionTo 17 = .ok (.istore_n 2, 1) := by decide +kernel
theorem dX2_directionTo_18 : decode cX2_directionTo 18 = .ok (.iload_n 2, 1) := by decide +kernel
theorem dX2_directionTo_19 : decode cX2_directionTo 19 = .ok (.iconst 4, 1) := by decide +kernel
theorem dX2_directionTo_20 : decode cX2_directionTo 20 = .ok (.if_icmp .ge 20, 3) := by decide +kernel
theorem dX2_directionTo_23 : decode cX2_directionTo 23 = .ok (.iload_n 0, 1) := by decide +kernel
theorem dX2_directionTo_24 : decode cX2_directionTo 24 = .ok (.iload_n 2, 1) := by decide +kernel
theorem dX2_directionTo_25 : decode cX2_directionTo 25 = .ok (.invokestatic 88, 3) := by decide +kernel
theorem dX2_directionTo_28 : decode cX2_directionTo 28 = .ok (.iload_n 1, 1) := by decide +kernel
theorem dX2_directionTo_29 : decode cX2_directionTo 29 = .ok (.if_icmp .ne 5, 3) := by decide +kernel
theorem dX2_directionTo_32 : decode cX2_directionTo 32 = .ok (.iload_n 2, 1) := by decide +kernel
theorem dX2_directionTo_33 : decode cX2_directionTo 33 = .ok (.ireturn, 1) := by decide +kernel
theorem dX2_directionTo_34 : decode cX2_directionTo 34 = .ok (.iinc 2 1, 3) := by decide +kernel
theorem dX2_directionTo_37 : decode cX2_directionTo 37 = .ok (.goto (-19), 3) := by decide +kernel
theorem dX2_directionTo_40 : decode cX2_directionTo 40 = .ok (.iconst (-1), 1) := by decide +kernel
theorem dX2_directionTo_41 : decode cX2_directionTo 41 = .ok (.ireturn, 1) := by decide +kernel
theorem dX2_costOfMove_0 : decode cX2_costOfMove 0 = .ok (.iload_n 1, 1) := by decide +kernel
theorem dX2_costOfMove_1 : decode cX2_costOfMove 1 = .ok (.aload_n 0, 1) := by decide +kernel
theorem dX2_costOfMove_2 : decode cX2_costOfMove 2 = .ok (.getfield 91, 3) := by decide +kernel
theorem dX2_costOfMove_5 : decode cX2_costOfMove 5 = .ok (.if_icmp .ne 14, 3) := by decide +kernel
theorem dX2_costOfMove_8 : decode cX2_costOfMove 8 = .ok (.iconst 1, 1) := by decide +kernel
theorem dX2_costOfMove_9 : decode cX2_costOfMove 9 = .ok (.iconst 4, 1) := by decide +kernel
theorem dX2_costOfMove_10 : decode cX2_costOfMove 10 = .ok (.aload_n 0, 1) := by decide +kernel
theorem dX2_costOfMove_11 : decode cX2_costOfMove 11 = .ok (.getfield 94, 3) := by decide +kernel
theorem dX2_costOfMove_14 : decode cX2_costOfMove 14 = .ok (.isub, 1) := by decide +kernel
theorem dX2_costOfMove_15 : decode cX2_costOfMove 15 = .ok (.invokestatic 97, 3) := by decide +kernel
theorem dX2_costOfMove_18 : decode cX2_costOfMove 18 = .ok (.ireturn, 1) := by decide +kernel
theorem dX2_costOfMove_19 : decode cX2_costOfMove 19 = .ok (.iload_n 1, 1) := by decide +kernel
theorem dX2_costOfMove_20 : decode cX2_costOfMove 20 = .ok (.aload_n 0, 1) := by decide +kernel
theorem dX2_costOfMove_21 : decode cX2_costOfMove 21 = .ok (.getfield 91, 3) := by decide +kernel
theorem dX2_costOfMove_24 : decode cX2_costOfMove 24 = .ok (.iconst 2, 1) := by decide +kernel
theorem dX2_costOfMove_25 : decode cX2_costOfMove 25 = .ok (.iadd, 1) := by decide +kernel
theorem dX2_costOfMove_26 : decode cX2_costOfMove 26 = .ok (.iconst 4, 1) := by decide +kernel
theorem dX2_costOfMove_27 : decode cX2_costOfMove 27 = .ok (.irem, 1) := by decide +kernel
theorem dX2_costOfMove_28 : decode cX2_costOfMove 28 = .ok (.if_icmp .ne 10, 3) := by decide +kernel
theorem dX2_costOfMove_31 : decode cX2_costOfMove 31 = .ok (.iconst 4, 1) := by decide +kernel
theorem dX2_costOfMove_32 : decode cX2_costOfMove 32 = .ok (.aload_n 0, 1) := by decide +kernel
theorem dX2_costOfMove_33 : decode cX2_costOfMove 33 = .ok (.getfield 94, 3) := by decide +kernel
theorem dX2_costOfMove_36 : decode cX2_costOfMove 36 = .ok (.iadd, 1) := by decide +kernel
theorem dX2_costOfMove_37 : decode cX2_costOfMove 37 = .ok (.ireturn, 1) := by decide +kernel
theorem dX2_costOfMove_38 : decode cX2_costOfMove 38 = .ok (.iconst 4, 1) := by decide +kernel
theorem dX2_costOfMove_39 : decode cX2_costOfMove 39 = .ok (.ireturn, 1) := by decide +kernel
theorem dX2_costOfRoute_0 : decode cX2_costOfRoute 0 = .ok (.iconst 2, 1) := by decide +kernel
theorem dX2_costOfRoute_1 : decode cX2_costOfRoute 1 = .ok (.istore_n 2, 1) := by decide +kernel
theorem dX2_costOfRoute_2 : decode cX2_costOfRoute 2 = .ok (.iconst 1, 1) := by decide +kernel
theorem dX2_costOfRoute_3 : decode cX2_costOfRoute 3 = .ok (.istore_n 3, 1) := by decide +kernel
theorem dX2_costOfRoute_4 : decode cX2_costOfRoute 4 = .ok (.iload_n 3, 1) := by decide +kernel
theorem dX2_costOfRoute_5 : decode cX2_costOfRoute 5 = .ok (.aload_n 1, 1) := by decide +kernel
theorem dX2_costOfRoute_6 : decode cX2_costOfRoute 6 = .ok (.getfield 65, 3) := by decide +kernel
theorem dX2_costOfRoute_9 : decode cX2_costOfRoute 9 = .ok (.if_icmp .ge 31, 3) := by decide +kernel
theorem dX2_costOfRoute_12 : decode cX2_costOfRoute 12 = .ok (.iload_n 2, 1) := by decide +kernel
theorem dX2_costOfRoute_13 : decode cX2_costOfRoute 13 = .ok (.aload_n 0, 1) := by decide +kernel
theorem dX2_costOfRoute_14 : decode cX2_costOfRoute 14 = .ok (.aload_n 1, 1) := by decide +kernel
theorem dX2_costOfRoute_15 : decode cX2_costOfRoute 15 = .ok (.iload_n 3, 1) := by decide +kernel
theorem dX2_costOfRoute_16 : decode cX2_costOfRoute 16 = .ok (.iconst 1, 1) := by decide +kernel
theorem dX2_costOfRoute_17 : decode cX2_costOfRoute 17 = .ok (.isub, 1) := by decide +kernel
theorem dX2_costOfRoute_18 : decode cX2_costOfRoute 18 = .ok (.invokevirtual 80, 3) := by decide +kernel
theorem dX2_costOfRoute_21 : decode cX2_costOfRoute 21 = .ok (.aload_n 1, 1) := by decide +kernel
theorem dX2_costOfRoute_22 : decode cX2_costOfRoute 22 = .ok (.iload_n 3, 1) := by decide +kernel
theorem dX2_costOfRoute_23 : decode cX2_costOfRoute 23 = .ok (.invokevirtual 80, 3) := by decide +kernel
theorem dX2_costOfRoute_26 : decode cX2_costOfRoute 26 = .ok (.invokestatic 84, 3) := by decide +kernel
theorem dX2_costOfRoute_29 : decode cX2_costOfRoute 29 = .ok (.invokevirtual 102, 3) := by decide +kernel
theorem dX2_costOfRoute_32 : decode cX2_costOfRoute 32 = .ok (.iadd, 1) := by decide +kernel
theorem dX2_costOfRoute_33 : decode cX2_costOfRoute 33 = .ok (.istore_n 2, 1) := by decide +kernel
theorem dX2_costOfRoute_34 : decode cX2_costOfRoute 34 = .ok (.iinc 3 1, 3) := by decide +kernel
theorem dX2_costOfRoute_37 : decode cX2_costOfRoute 37 = .ok (.goto (-33), 3) := by decide +kernel
theorem dX2_costOfRoute_40 : decode cX2_costOfRoute 40 = .ok (.iload_n 2, 1) := by decide +kernel
theorem dX2_costOfRoute_41 : decode cX2_costOfRoute 41 = .ok (.ireturn, 1) := by decide +kernel
theorem dX3_init_0 : decode cX3_init 0 = .ok (.aload_n 0, 1) := by decide +kernel
theorem dX3_init_1 : decode cX3_init 1 = .ok (.invokespecial 3, 3) := by decide +kernel
theorem dX3_init_4 : decode cX3_init 4 = .ok (.aload_n 0, 1) := by decide +kernel
theorem dX3_init_5 : decode cX3_init 5 = .ok (.bipush 25, 2) := by decide +kernel
theorem dX3_init_7 : decode cX3_init 7 = .ok (.newarray .int, 2) := by decide +kernel
theorem dX3_init_9 : decode cX3_init 9 = .ok (.putfield 9, 3) := by decide +kernel
theorem dX3_init_12 : decode cX3_init 12 = .ok (.aload_n 0, 1) := by decide +kernel
theorem dX3_init_13 : decode cX3_init 13 = .ok (.aload_n 1, 1) := by decide +kernel
theorem dX3_init_14 : decode cX3_init 14 = .ok (.putfield 15, 3) := by decide +kernel
theorem dX3_init_17 : decode cX3_init 17 = .ok (.aload_n 0, 1) := by decide +kernel
theorem dX3_init_18 : decode cX3_init 18 = .ok (.aload_n 2, 1) := by decide +kernel
theorem dX3_init_19 : decode cX3_init 19 = .ok (.putfield 19, 3) := by decide +kernel
theorem dX3_init_22 : decode cX3_init 22 = .ok (.return_, 1) := by decide +kernel
theorem dX3_reasonAgainst_0 : decode cX3_reasonAgainst 0 = .ok (.aload_n 0, 1) := by decide +kernel
theorem dX3_reasonAgainst_1 : decode cX3_reasonAgainst 1 = .ok (.getfield 19, 3) := by decide +kernel
theorem dX3_reasonAgainst_4 : decode cX3_reasonAgainst 4 = .ok (.getfield 23, 3) := by decide +kernel
theorem dX3_reasonAgainst_7 : decode cX3_reasonAgainst 7 = .ok (.iload_n 1, 1) := by decide +kernel
theorem dX3_reasonAgainst_8 : decode cX3_reasonAgainst 8 = .ok (.aaload, 1) := by decide +kernel
theorem dX3_reasonAgainst_9 : decode cX3_reasonAgainst 9 = .ok (.astore 4, 2) := by decide +kernel
theorem dX3_reasonAgainst_11 : decode cX3_reasonAgainst 11 = .ok (.aload_n 0, 1) := by decide +kernel
theorem dX3_reasonAgainst_12 : decode cX3_reasonAgainst 12 = .ok (.aload_n 2, 1) := by decide +kernel
theorem dX3_reasonAgainst_13 : decode cX3_reasonAgainst 13 = .ok (.invokevirtual 29, 3) := by decide +kernel
theorem dX3_reasonAgainst_16 : decode cX3_reasonAgainst 16 = .ok (.ifCond .eq 5, 3) := by decide +kernel
theorem dX3_reasonAgainst_19 : decode cX3_reasonAgainst 19 = .ok (.iconst 1, 1) := by decide +kernel
theorem dX3_reasonAgainst_20 : decode cX3_reasonAgainst 20 = .ok (.ireturn, 1) := by decide +kernel
theorem dX3_reasonAgainst_21 : decode cX3_reasonAgainst 21 = .ok (.aload_n 0, 1) := by decide +kernel
theorem dX3_reasonAgainst_22 : decode cX3_reasonAgainst 22 = .ok (.aload 4, 2) := by decide +kernel
theorem dX3_reasonAgainst_24 : decode cX3_reasonAgainst 24 = .ok (.aload_n 2, 1) := by decide +kernel
theorem dX3_reasonAgainst_25 : decode cX3_reasonAgainst 25 = .ok (.iload_n 3, 1) := by decide +kernel
theorem dX3_reasonAgainst_26 : decode cX3_reasonAgainst 26 = .ok (.invokevirtual 33, 3) := by decide +kernel
theorem dX3_reasonAgainst_29 : decode cX3_reasonAgainst 29 = .ok (.ifCond .eq 5, 3) := by decide +kernel
theorem dX3_reasonAgainst_32 : decode cX3_reasonAgainst 32 = .ok (.iconst 2, 1) := by decide +kernel
theorem dX3_reasonAgainst_33 : decode cX3_reasonAgainst 33 = .ok (.ireturn, 1) := by decide +kernel
theorem dX3_reasonAgainst_34 : decode cX3_reasonAgainst 34 = .ok (.aload_n 0, 1) := by decide +kernel
theorem dX3_reasonAgainst_35 : decode cX3_reasonAgainst 35 = .ok (.iload_n 1, 1) := by decide +kernel
theorem dX3_reasonAgainst_36 : decode cX3_reasonAgainst 36 = .ok (.aload_n 2, 1) := by decide +kernel
theorem dX3_reasonAgainst_37 : decode cX3_reasonAgainst 37 = .ok (.iload_n 3, 1) := by decide +kernel
theorem dX3_reasonAgainst_38 : decode cX3_reasonAgainst 38 = .ok (.invokevirtual 37, 3) := by decide +kernel
theorem dX3_reasonAgainst_41 : decode cX3_reasonAgainst 41 = .ok (.ifCond .eq 5, 3) := by decide +kernel
theorem dX3_reasonAgainst_44 : decode cX3_reasonAgainst 44 = .ok (.iconst 3, 1) := by decide +kernel
theorem dX3_reasonAgainst_45 : decode cX3_reasonAgainst 45 = .ok (.ireturn, 1) := by decide +kernel
theorem dX3_reasonAgainst_46 : decode cX3_reasonAgainst 46 = .ok (.aload_n 0, 1) := by decide +kernel
theorem dX3_reasonAgainst_47 : decode cX3_reasonAgainst 47 = .ok (.iload_n 1, 1) := by decide +kernel
theorem dX3_reasonAgainst_48 : decode cX3_reasonAgainst 48 = .ok (.aload_n 2, 1) := by decide +kernel
theorem dX3_reasonAgainst_49 : decode cX3_reasonAgainst 49 = .ok (.iload_n 3, 1) := by decide +kernel
theorem dX3_reasonAgainst_50 : decode cX3_reasonAgainst 50 = .ok (.invokevirtual 41, 3) := by decide +kernel
theorem dX3_reasonAgainst_53 : decode cX3_reasonAgainst 53 = .ok (.ifCond .eq 5, 3) := by decide +kernel
theorem dX3_reasonAgainst_56 : decode cX3_reasonAgainst 56 = .ok (.iconst 4, 1) := by decide +kernel
theorem dX3_reasonAgainst_57 : decode cX3_reasonAgainst 57 = .ok (.ireturn, 1) := by decide +kernel
theorem dX3_reasonAgainst_58 : decode cX3_reasonAgainst 58 = .ok (.aload_n 0, 1) := by decide +kernel
theorem dX3_reasonAgainst_59 : decode cX3_reasonAgainst 59 = .ok (.getfield 15, 3) := by decide +kernel
theorem dX3_reasonAgainst_62 : decode cX3_reasonAgainst 62 = .ok (.aload_n 2, 1) := by decide +kernel
theorem dX3_reasonAgainst_63 : decode cX3_reasonAgainst 63 = .ok (.invokevirtual 44, 3) := by decide +kernel
theorem dX3_reasonAgainst_66 : decode cX3_reasonAgainst 66 = .ok (.aload 4, 2) := by decide +kernel
theorem dX3_reasonAgainst_68 : decode cX3_reasonAgainst 68 = .ok (.getfield 50, 3) := by decide +kernel
theorem dX3_reasonAgainst_71 : decode cX3_reasonAgainst 71 = .ok (.if_icmp .le 5, 3) := by decide +kernel
theorem dX3_reasonAgainst_74 : decode cX3_reasonAgainst 74 = .ok (.iconst 5, 1) := by decide +kernel
theorem dX3_reasonAgainst_75 : decode cX3_reasonAgainst 75 = .ok (.ireturn, 1) := by decide +kernel
theorem dX3_reasonAgainst_76 : decode cX3_reasonAgainst 76 = .ok (.aload_n 0, 1) := by decide +kernel
theorem dX3_reasonAgainst_77 : decode cX3_reasonAgainst 77 = .ok (.aload 4, 2) := by decide +kernel
theorem dX3_reasonAgainst_79 : decode cX3_reasonAgainst 79 = .ok (.aload_n 2, 1) := by decide +kernel
theorem dX3_reasonAgainst_80 : decode cX3_reasonAgainst 80 = .ok (.iload_n 3, 1) := by decide +kernel
theorem dX3_reasonAgainst_81 : decode cX3_reasonAgainst 81 = .ok (.invokevirtual 56, 3) := by decide +kernel
theorem dX3_reasonAgainst_84 : decode cX3_reasonAgainst 84 = .ok (.ifCond .eq 8, 3) := by decide +kernel
theorem dX3_reasonAgainst_87 : decode cX3_reasonAgainst 87 = .ok (.bipush 6, 2) := by decide +kernel
theorem dX3_reasonAgainst_89 : decode cX3_reasonAgainst 89 = .ok (.goto 4, 3) := by decide +kernel
theorem dX3_reasonAgainst_92 : decode cX3_reasonAgainst 92 = .ok (.iconst 0, 1) := by decide +kernel
theorem dX3_reasonAgainst_93 : decode cX3_reasonAgainst 93 = .ok (.ireturn, 1) := by decide +kernel
theorem dX3_meetsTower_0 : decode cX3_meetsTower 0 = .ok (.iconst 0, 1) := by decide +kernel
theorem dX3_meetsTower_1 : decode cX3_meetsTower 1 = .ok (.istore_n 2, 1) := by decide +kernel
theorem dX3_meetsTower_2 : decode cX3_meetsTower 2 = .ok (.iload_n 2, 1) := by decide +kernel
theorem dX3_meetsTower_3 : decode cX3_meetsTower 3 = .ok (.aload_n 1, 1) := by decide +kernel
theorem dX3_meetsTower_4 : decode cX3_meetsTower 4 = .ok (.getfield 59, 3) := by decide +kernel
theorem dX3_meetsTower_7 : decode cX3_meetsTower 7 = .ok (.if_icmp .ge 36, 3) := by decide +kernel
theorem dX3_meetsTower_10 : decode cX3_meetsTower 10 = .ok (.aload_n 1, 1) := by decide +kernel
theorem dX3_meetsTower_11 : decode cX3_meetsTower 11 = .ok (.iload_n 2, 1) := by decide +kernel
theorem dX3_meetsTower_12 : decode cX3_meetsTower 12 = .ok (.invokevirtual 64, 3) := by decide +kernel
theorem dX3_meetsTower_15 : decode cX3_meetsTower 15 = .ok (.istore_n 3, 1) := by decide +kernel
theorem dX3_meetsTower_16 : decode cX3_meetsTower 16 = .ok (.iload_n 3, 1) := by decide +kernel
theorem dX3_meetsTower_17 : decode cX3_meetsTower 17 = .ok (.invokestatic 68, 3) := by decide +kernel
theorem dX3_meetsTower_20 : decode cX3_meetsTower 20 = .ok (.ifCond .eq 17, 3) := by decide +kernel
theorem dX3_meetsTower_23 : decode cX3_meetsTower 23 = .ok (.aload_n 0, 1) := by decide +kernel
theorem dX3_meetsTower_24 : decode cX3_meetsTower 24 = .ok (.getfield 15, 3) := by decide +kernel
theorem dX3_meetsTower_27 : decode cX3_meetsTower 27 = .ok (.getfield 72, 3) := by decide +kernel
theorem dX3_meetsTower_30 : decode cX3_meetsTower 30 = .ok (.iload_n 3, 1) := by decide +kernel
theorem dX3_meetsTower_31 : decode cX3_meetsTower 31 = .ok (.baload, 1) := by decide +kernel
theorem dX3_meetsTower_32 : decode cX3_meetsTower 32 = .ok (.ifCond .eq 5, 3) := by decide +kernel
theorem dX3_meetsTower_35 : decode cX3_meetsTower 35 = .ok (.iconst 1, 1) := by decide +kernel
theorem dX3_meetsTower_36 : decode cX3_meetsTower 36 = .ok (.ireturn, 1) := by decide +kernel
theorem dX3_meetsTower_37 : decode cX3_meetsTower 37 = .ok (.iinc 2 1, 3) := by decide +kernel
theorem dX3_meetsTower_40 : decode cX3_meetsTower 40 = .ok (.goto (-38), 3) := by decide +kernel
theorem dX3_meetsTower_43 : decode cX3_meetsTower 43 = .ok (.iconst 0, 1) := by decide +kernel
theorem dX3_meetsTower_44 : decode cX3_meetsTower 44 = .ok (.ireturn, 1) := by decide +kernel
theorem dX3_meetsZone_0 : decode cX3_meetsZone 0 = .ok (.iconst 0, 1) := by decide +kernel
theorem dX3_meetsZone_1 : decode cX3_meetsZone 1 = .ok (.istore 4, 2) := by decide +kernel
theorem dX3_meetsZone_3 : decode cX3_meetsZone 3 = .ok (.iload 4, 2) := by decide +kernel
theorem dX3_meetsZone_5 : decode cX3_meetsZone 5 = .ok (.aload_n 2, 1) := by decide +kernel
theorem dX3_meetsZone_6 : decode cX3_meetsZone 6 = .ok (.getfield 59, 3) := by decide +kernel
theorem dX3_meetsZone_9 : decode cX3_meetsZone 9 = .ok (.if_icmp .ge 62, 3) := by decide +kernel
theorem dX3_meetsZone_12 : decode cX3_meetsZone 12 = .ok (.iload_n 3, 1) := by decide +kernel
theorem dX3_meetsZone_13 : decode cX3_meetsZone 13 = .ok (.iconst 2, 1) := by decide +kernel
theorem dX3_meetsZone_14 : decode cX3_meetsZone 14 = .ok (.iload 4, 2) := by decide +kernel
theorem dX3_meetsZone_16 : decode cX3_meetsZone 16 = .ok (.imul, 1) := by decide +kernel
theorem dX3_meetsZone_17 : decode cX3_meetsZone 17 = .ok (.iadd, 1) := by decide +kernel
theorem dX3_meetsZone_18 : decode cX3_meetsZone 18 = .ok (.istore 5, 2) := by decide +kernel
theorem dX3_meetsZone_20 : decode cX3_meetsZone 20 = .ok (.iload 5, 2) := by decide +kernel
theorem dX3_meetsZone_22 : decode cX3_meetsZone 22 = .ok (.iconst 1, 1) := by decide +kernel
theorem dX3_meetsZone_23 : decode cX3_meetsZone 23 = .ok (.isub, 1) := by decide +kernel
theorem dX3_meetsZone_24 : decode cX3_meetsZone 24 = .ok (.istore 6, 2) := by decide +kernel
theorem dX3_meetsZone_26 : decode cX3_meetsZone 26 = .ok (.iload 6, 2) := by decide +kernel
theorem dX3_meetsZone_28 : decode cX3_meetsZone 28 = .ok (.iload 5, 2) := by decide +kernel
theorem dX3_meetsZone_30 : decode cX3_meetsZone 30 = .ok (.iconst 1, 1) := by decide +kernel
theorem dX3_meetsZone_31 : decode cX3_meetsZone 31 = .ok (.iadd, 1) := by decide +kernel
theorem dX3_meetsZone_32 : decode cX3_meetsZone 32 = .ok (.if_icmp .gt 33, 3) := by decide +kernel
theorem dX3_meetsZone_35 : decode cX3_meetsZone 35 = .ok (.aload_n 0, 1) := by decide +kernel
theorem dX3_meetsZone_36 : decode cX3_meetsZone 36 = .ok (.getfield 15, 3) := by decide +kernel
theorem dX3_meetsZone_39 : decode cX3_meetsZone 39 = .ok (.aload_n 2, 1) := by decide +kernel
theorem dX3_meetsZone_40 : decode cX3_meetsZone 40 = .ok (.iload 4, 2) := by decide +kernel
theorem dX3_meetsZone_42 : decode cX3_meetsZone 42 = .ok (.invokevirtual 64, 3) := by decide +kernel
theorem dX3_meetsZone_45 : decode cX3_meetsZone 45 = .ok (.aload_n 1, 1) := by decide +kernel
theorem dX3_meetsZone_46 : decode cX3_meetsZone 46 = .ok (.getfield 76, 3) := by decide +kernel
theorem dX3_meetsZone_49 : decode cX3_meetsZone 49 = .ok (.iload 6, 2) := by decide +kernel
theorem dX3_meetsZone_51 : decode cX3_meetsZone 51 = .ok (.invokevirtual 79, 3) := by decide +kernel
theorem dX3_meetsZone_54 : decode cX3_meetsZone 54 = .ok (.ifCond .eq 5, 3) := by decide +kernel
theorem dX3_meetsZone_57 : decode cX3_meetsZone 57 = .ok (.iconst 1, 1) := by decide +kernel
theorem dX3_meetsZone_58 : decode cX3_meetsZone 58 = .ok (.ireturn, 1) := by decide +kernel
theorem dX3_meetsZone_59 : decode cX3_meetsZone 59 = .ok (.iinc 6 1, 3) := by decide +kernel
theorem dX3_meetsZone_62 : decode cX3_meetsZone 62 = .ok (.goto (-36), 3) := by decide +kernel
theorem dX3_meetsZone_65 : decode cX3_meetsZone 65 = .ok (.iinc 4 1, 3) := by decide +kernel
theorem dX3_meetsZone_68 : decode cX3_meetsZone 68 = .ok (.goto (-65), 3) := by decide +kernel
theorem dX3_meetsZone_71 : decode cX3_meetsZone 71 = .ok (.iconst 0, 1) := by decide +kernel
theorem dX3_meetsZone_72 : decode cX3_meetsZone 72 = .ok (.ireturn, 1) := by decide +kernel
theorem dX3_meetsOthers_0 : decode cX3_meetsOthers 0 = .ok (.iconst 0, 1) := by decide +kernel
theorem dX3_meetsOthers_1 : decode cX3_meetsOthers 1 = .ok (.istore 4, 2) := by decide +kernel
theorem dX3_meetsOthers_3 : decode cX3_meetsOthers 3 = .ok (.iload 4, 2) := by decide +kernel
theorem dX3_meetsOthers_5 : decode cX3_meetsOthers 5 = .ok (.aload_n 0, 1) := by decide +kernel
theorem dX3_meetsOthers_6 : decode cX3_meetsOthers 6 = .ok (.getfield 19, 3) := by decide +kernel
theorem dX3_meetsOthers_9 : decode cX3_meetsOthers 9 = .ok (.getfield 83, 3) := by decide +kernel
theorem dX3_meetsOthers_12 : decode cX3_meetsOthers 12 = .ok (.if_icmp .ge 60, 3) := by decide +kernel
theorem dX3_meetsOthers_15 : decode cX3_meetsOthers 15 = .ok (.aload_n 0, 1) := by decide +kernel
theorem dX3_meetsOthers_16 : decode cX3_meetsOthers 16 = .ok (.getfield 19, 3) := by decide +kernel
theorem dX3_meetsOthers_19 : decode cX3_meetsOthers 19 = .ok (.getfield 86, 3) := by decide +kernel
theorem dX3_meetsOthers_22 : decode cX3_meetsOthers 22 = .ok (.iload 4, 2) := by decide +kernel
theorem dX3_meetsOthers_24 : decode cX3_meetsOthers 24 = .ok (.aaload, 1) := by decide +kernel
theorem dX3_meetsOthers_25 : decode cX3_meetsOthers 25 = .ok (.astore 5, 2) := by decide +kernel
theorem dX3_meetsOthers_27 : decode cX3_meetsOthers 27 = .ok (.aload 5, 2) := by decide +kernel
theorem dX3_meetsOthers_29 : decode cX3_meetsOthers 29 = .ok (.getfield 90, 3) := by decide +kernel
theorem dX3_meetsOthers_32 : decode cX3_meetsOthers 32 = .ok (.iload_n 1, 1) := by decide +kernel
theorem dX3_meetsOthers_33 : decode cX3_meetsOthers 33 = .ok (.if_icmp .eq 33, 3) := by decide +kernel
theorem dX3_meetsOthers_36 : decode cX3_meetsOthers 36 = .ok (.aload 5, 2) := by decide +kernel
theorem dX3_meetsOthers_38 : decode cX3_meetsOthers 38 = .ok (.invokevirtual 95, 3) := by decide +kernel
theorem dX3_meetsOthers_41 : decode cX3_meetsOthers 41 = .ok (.ifCond .eq 25, 3) := by decide +kernel
theorem dX3_meetsOthers_44 : decode cX3_meetsOthers 44 = .ok (.aload 5, 2) := by decide +kernel
theorem dX3_meetsOthers_46 : decode cX3_meetsOthers 46 = .ok (.aload_n 2, 1) := by decide +kernel
theorem dX3_meetsOthers_47 : decode cX3_meetsOthers 47 = .ok (.iload_n 3, 1) := by decide +kernel
theorem dX3_meetsOthers_48 : decode cX3_meetsOthers 48 = .ok (.invokevirtual 99, 3) := by decide +kernel
theorem dX3_meetsOthers_51 : decode cX3_meetsOthers 51 = .ok (.ifCond .eq 15, 3) := by decide +kernel
theorem dX3_meetsOthers_54 : decode cX3_meetsOthers 54 = .ok (.aload 5, 2) := by decide +kernel
theorem dX3_meetsOthers_56 : decode cX3_meetsOthers 56 = .ok (.aload_n 2, 1) := by decide +kernel
theorem dX3_meetsOthers_57 : decode cX3_meetsOthers 57 = .ok (.iload_n 3, 1) := by decide +kernel
theorem dX3_meetsOthers_58 : decode cX3_meetsOthers 58 = .ok (.invokevirtual 103, 3) := by decide +kernel
theorem dX3_meetsOthers_61 : decode cX3_meetsOthers 61 = .ok (.ifCond .eq 5, 3) := by decide +kernel
theorem dX3_meetsOthers_64 : decode cX3_meetsOthers 64 = .ok (.iconst 1, 1) := by decide +kernel
theorem dX3_meetsOthers_65 : decode cX3_meetsOthers 65 = .ok (.ireturn, 1) := by decide +kernel
theorem dX3_meetsOthers_66 : decode cX3_meetsOthers 66 = .ok (.iinc 4 1, 3) := by decide +kernel
theorem dX3_meetsOthers_69 : decode cX3_meetsOthers 69 = .ok (.goto (-66), 3) := by decide +kernel
theorem dX3_meetsOthers_72 : decode cX3_meetsOthers 72 = .ok (.iconst 0, 1) := by decide +kernel
theorem dX3_meetsOthers_73 : decode cX3_meetsOthers 73 = .ok (.ireturn, 1) := by decide +kernel
theorem dX3_meetsItself_0 : decode cX3_meetsItself 0 = .ok (.iconst 0, 1) := by decide +kernel
theorem dX3_meetsItself_1 : decode cX3_meetsItself 1 = .ok (.istore 4, 2) := by decide +kernel
theorem dX3_meetsItself_3 : decode cX3_meetsItself 3 = .ok (.iload 4, 2) := by decide +kernel
theorem dX3_meetsItself_5 : decode cX3_meetsItself 5 = .ok (.aload_n 0, 1) := by decide +kernel
theorem dX3_meetsItself_6 : decode cX3_meetsItself 6 = .ok (.getfield 19, 3) := by decide +kernel
theorem dX3_meetsItself_9 : decode cX3_meetsItself 9 = .ok (.getfield 83, 3) := by decide +kernel
theorem dX3_meetsItself_12 : decode cX3_meetsItself 12 = .ok (.if_icmp .ge 50, 3) := by decide +kernel
theorem dX3_meetsItself_15 : decode cX3_meetsItself 15 = .ok (.aload_n 0, 1) := by decide +kernel
theorem dX3_meetsItself_16 : decode cX3_meetsItself 16 = .ok (.getfield 19, 3) := by decide +kernel
theorem dX3_meetsItself_19 : decode cX3_meetsItself 19 = .ok (.getfield 86, 3) := by decide +kernel
theorem dX3_meetsItself_22 : decode cX3_meetsItself 22 = .ok (.iload 4, 2) := by decide +kernel
theorem dX3_meetsItself_24 : decode cX3_meetsItself 24 = .ok (.aaload, 1) := by decide +kernel
theorem dX3_meetsItself_25 : decode cX3_meetsItself 25 = .ok (.astore 5, 2) := by decide +kernel
theorem dX3_meetsItself_27 : decode cX3_meetsItself 27 = .ok (.aload 5, 2) := by decide +kernel
theorem dX3_meetsItself_29 : decode cX3_meetsItself 29 = .ok (.getfield 90, 3) := by decide +kernel
theorem dX3_meetsItself_32 : decode cX3_meetsItself 32 = .ok (.iload_n 1, 1) := by decide +kernel
theorem dX3_meetsItself_33 : decode cX3_meetsItself 33 = .ok (.if_icmp .ne 23, 3) := by decide +kernel
theorem dX3_meetsItself_36 : decode cX3_meetsItself 36 = .ok (.aload 5, 2) := by decide +kernel
theorem dX3_meetsItself_38 : decode cX3_meetsItself 38 = .ok (.invokevirtual 95, 3) := by decide +kernel
theorem dX3_meetsItself_41 : decode cX3_meetsItself 41 = .ok (.ifCond .eq 15, 3) := by decide +kernel
theorem dX3_meetsItself_44 : decode cX3_meetsItself 44 = .ok (.aload 5, 2) := by decide +kernel
theorem dX3_meetsItself_46 : decode cX3_meetsItself 46 = .ok (.aload_n 2, 1) := by decide +kernel
theorem dX3_meetsItself_47 : decode cX3_meetsItself 47 = .ok (.iload_n 3, 1) := by decide +kernel
theorem dX3_meetsItself_48 : decode cX3_meetsItself 48 = .ok (.invokevirtual 99, 3) := by decide +kernel
theorem dX3_meetsItself_51 : decode cX3_meetsItself 51 = .ok (.ifCond .eq 5, 3) := by decide +kernel
theorem dX3_meetsItself_54 : decode cX3_meetsItself 54 = .ok (.iconst 1, 1) := by decide +kernel
theorem dX3_meetsItself_55 : decode cX3_meetsItself 55 = .ok (.ireturn, 1) := by decide +kernel
theorem dX3_meetsItself_56 : decode cX3_meetsItself 56 = .ok (.iinc 4 1, 3) := by decide +kernel
theorem dX3_meetsItself_59 : decode cX3_meetsItself 59 = .ok (.goto (-56), 3) := by decide +kernel
theorem dX3_meetsItself_62 : decode cX3_meetsItself 62 = .ok (.iconst 0, 1) := by decide +kernel
theorem dX3_meetsItself_63 : decode cX3_meetsItself 63 = .ok (.ireturn, 1) := by decide +kernel
theorem dX3_isTooLoud_0 : decode cX3_isTooLoud 0 = .ok (.aload_n 0, 1) := by decide +kernel
theorem dX3_isTooLoud_1 : decode cX3_isTooLoud 1 = .ok (.iload_n 3, 1) := by decide +kernel
theorem dX3_isTooLoud_2 : decode cX3_isTooLoud 2 = .ok (.sipush 1440, 3) := by decide +kernel
theorem dX3_isTooLoud_5 : decode cX3_isTooLoud 5 = .ok (.idiv, 1) := by decide +kernel
theorem dX3_isTooLoud_6 : decode cX3_isTooLoud 6 = .ok (.invokevirtual 106, 3) := by decide +kernel
theorem dX3_isTooLoud_9 : decode cX3_isTooLoud 9 = .ok (.aload_n 0, 1) := by decide +kernel
theorem dX3_isTooLoud_10 : decode cX3_isTooLoud 10 = .ok (.aload_n 1, 1) := by decide +kernel
theorem dX3_isTooLoud_11 : decode cX3_isTooLoud 11 = .ok (.aload_n 2, 1) := by decide +kernel
theorem dX3_isTooLoud_12 : decode cX3_isTooLoud 12 = .ok (.invokevirtual 110, 3) := by decide +kernel
theorem dX3_isTooLoud_15 : decode cX3_isTooLoud 15 = .ok (.iconst 0, 1) := by decide +kernel
theorem dX3_isTooLoud_16 : decode cX3_isTooLoud 16 = .ok (.istore 4, 2) := by decide +kernel
theorem dX3_isTooLoud_18 : decode cX3_isTooLoud 18 = .ok (.iload 4, 2) := by decide +kernel
theorem dX3_isTooLoud_20 : decode cX3_isTooLoud 20 = .ok (.aload_n 2, 1) := by decide +kernel
theorem dX3_isTooLoud_21 : decode cX3_isTooLoud 21 = .ok (.getfield 59, 3) := by decide +kernel
theorem dX3_isTooLoud_24 : decode cX3_isTooLoud 24 = .ok (.if_icmp .ge 39, 3) := by decide +kernel
theorem dX3_isTooLoud_27 : decode cX3_isTooLoud 27 = .ok (.aload_n 2, 1) := by decide +kernel
theorem dX3_isTooLoud_28 : decode cX3_isTooLoud 28 = .ok (.iload 4, 2) := by decide +kernel
theorem dX3_isTooLoud_30 : decode cX3_isTooLoud 30 = .ok (.invokevirtual 64, 3) := by decide +kernel
theorem dX3_isTooLoud_33 : decode cX3_isTooLoud 33 = .ok (.istore 5, 2) := by decide +kernel
theorem dX3_isTooLoud_35 : decode cX3_isTooLoud 35 = .ok (.iload 5, 2) := by decide +kernel
theorem dX3_isTooLoud_37 : decode cX3_isTooLoud 37 = .ok (.invokestatic 68, 3) := by decide +kernel
theorem dX3_isTooLoud_40 : decode cX3_isTooLoud 40 = .ok (.ifCond .eq 17, 3) := by decide +kernel
theorem dX3_isTooLoud_43 : decode cX3_isTooLoud 43 = .ok (.aload_n 0, 1) := by decide +kernel
theorem dX3_isTooLoud_44 : decode cX3_isTooLoud 44 = .ok (.getfield 9, 3) := by decide +kernel
theorem dX3_isTooLoud_47 : decode cX3_isTooLoud 47 = .ok (.iload 5, 2) := by decide +kernel
theorem dX3_isTooLoud_49 : decode cX3_isTooLoud 49 = .ok (.iaload, 1) := by decide +kernel
theorem dX3_isTooLoud_50 : decode cX3_isTooLoud 50 = .ok (.bipush 60, 2) := by decide +kernel
theorem dX3_isTooLoud_52 : decode cX3_isTooLoud 52 = .ok (.if_icmp .le 5, 3) := by decide +kernel
theorem dX3_isTooLoud_55 : decode cX3_isTooLoud 55 = .ok (.iconst 1, 1) := by decide +kernel
theorem dX3_isTooLoud_56 : decode cX3_isTooLoud 56 = .ok (.ireturn, 1) := by decide +kernel
theorem dX3_isTooLoud_57 : decode cX3_isTooLoud 57 = .ok (.iinc 4 1, 3) := by decide +kernel
theorem dX3_isTooLoud_60 : decode cX3_isTooLoud 60 = .ok (.goto (-42), 3) := by decide +kernel
theorem dX3_isTooLoud_63 : decode cX3_isTooLoud 63 = .ok (.iconst 0, 1) := by decide +kernel
theorem dX3_isTooLoud_64 : decode cX3_isTooLoud 64 = .ok (.ireturn, 1) := by decide +kernel
theorem dX3_plannedNoise_0 : decode cX3_plannedNoise 0 = .ok (.aload_n 0, 1) := by decide +kernel
theorem dX3_plannedNoise_1 : decode cX3_plannedNoise 1 = .ok (.iload_n 2, 1) := by decide +kernel
theorem dX3_plannedNoise_2 : decode cX3_plannedNoise 2 = .ok (.invokevirtual 106, 3) := by decide +kernel
theorem dX3_plannedNoise_5 : decode cX3_plannedNoise 5 = .ok (.aload_n 0, 1) := by decide +kernel
theorem dX3_plannedNoise_6 : decode cX3_plannedNoise 6 = .ok (.getfield 9, 3) := by decide +kernel
theorem dX3_plannedNoise_9 : decode cX3_plannedNoise 9 = .ok (.iload_n 1, 1) := by decide +kernel
theorem dX3_plannedNoise_10 : decode cX3_plannedNoise 10 = .ok (.iaload, 1) := by decide +kernel
theorem dX3_plannedNoise_11 : decode cX3_plannedNoise 11 = .ok (.ireturn, 1) := by decide +kernel
theorem dX3_planDay_0 : decode cX3_planDay 0 = .ok (.aload_n 0, 1) := by decide +kernel
theorem dX3_planDay_1 : decode cX3_planDay 1 = .ok (.getfield 9, 3) := by decide +kernel
theorem dX3_planDay_4 : decode cX3_planDay 4 = .ok (.iconst 0, 1) := by decide +kernel
theorem dX3_planDay_5 : decode cX3_planDay 5 = .ok (.invokestatic 114, 3) := by decide +kernel
theorem dX3_planDay_8 : decode cX3_planDay 8 = .ok (.iconst 0, 1) := by decide +kernel
theorem dX3_planDay_9 : decode cX3_planDay 9 = .ok (.istore_n 2, 1) := by decide +kernel
theorem dX3_planDay_10 : decode cX3_planDay 10 = .ok (.iload_n 2, 1) := by decide +kernel
theorem dX3_planDay_11 : decode cX3_planDay 11 = .ok (.aload_n 0, 1) := by decide +kernel
theorem dX3_planDay_12 : decode cX3_planDay 12 = .ok (.getfield 19, 3) := by decide +kernel
theorem dX3_planDay_15 : decode cX3_planDay 15 = .ok (.getfield 83, 3) := by decide +kernel
theorem dX3_planDay_18 : decode cX3_planDay 18 = .ok (.if_icmp .ge 61, 3) := by decide +kernel
theorem dX3_planDay_21 : decode cX3_planDay 21 = .ok (.aload_n 0, 1) := by decide +kernel
theorem dX3_planDay_22 : decode cX3_planDay 22 = .ok (.getfield 19, 3) := by decide +kernel
theorem dX3_planDay_25 : decode cX3_planDay 25 = .ok (.getfield 86, 3) := by decide +kernel
theorem dX3_planDay_28 : decode cX3_planDay 28 = .ok (.iload_n 2, 1) := by decide +kernel
theorem dX3_planDay_29 : decode cX3_planDay 29 = .ok (.aaload, 1) := by decide +kernel
theorem dX3_planDay_30 : decode cX3_planDay 30 = .ok (.astore_n 3, 1) := by decide +kernel
theorem dX3_planDay_31 : decode cX3_planDay 31 = .ok (.aload_n 3, 1) := by decide +kernel
theorem dX3_planDay_32 : decode cX3_planDay 32 = .ok (.iload_n 1, 1) := by decide +kernel
theorem dX3_planDay_33 : decode cX3_planDay 33 = .ok (.invokevirtual 120, 3) := by decide +kernel
theorem dX3_planDay_36 : decode cX3_planDay 36 = .ok (.ifCond .eq 37, 3) := by decide +kernel
theorem dX3_planDay_39 : decode cX3_planDay 39 = .ok (.aload_n 0, 1) := by decide +kernel
theorem dX3_planDay_40 : decode cX3_planDay 40 = .ok (.getfield 19, 3) := by decide +kernel
theorem dX3_planDay_43 : decode cX3_planDay 43 = .ok (.aload_n 3, 1) := by decide +kernel
theorem dX3_planDay_44 : decode cX3_planDay 44 = .ok (.getfield 90, 3) := by decide +kernel
theorem dX3_planDay_47 : decode cX3_planDay 47 = .ok (.invokevirtual 123, 3) := by decide +kernel
theorem dX3_planDay_50 : decode cX3_planDay 50 = .ok (.ifCond .eq 23, 3) := by decide +kernel
theorem dX3_planDay_53 : decode cX3_planDay 53 = .ok (.aload_n 0, 1) := by decide +kernel
theorem dX3_planDay_54 : decode cX3_planDay 54 = .ok (.aload_n 0, 1) := by decide +kernel
theorem dX3_planDay_55 : decode cX3_planDay 55 = .ok (.getfield 19, 3) := by decide +kernel
theorem dX3_planDay_58 : decode cX3_planDay 58 = .ok (.getfield 23, 3) := by decide +kernel
theorem dX3_planDay_61 : decode cX3_planDay 61 = .ok (.aload_n 3, 1) := by decide +kernel
theorem dX3_planDay_62 : decode cX3_planDay 62 = .ok (.getfield 90, 3) := by decide +kernel
theorem dX3_planDay_65 : decode cX3_planDay 65 = .ok (.aaload, 1) := by decide +kernel
theorem dX3_planDay_66 : decode cX3_planDay 66 = .ok (.aload_n 3, 1) := by decide +kernel
theorem dX3_planDay_67 : decode cX3_planDay 67 = .ok (.getfield 126, 3) := by decide +kernel
theorem dX3_planDay_70 : decode cX3_planDay 70 = .ok (.invokevirtual 110, 3) := by decide +kernel
theorem dX3_planDay_73 : decode cX3_planDay 73 = .ok (.iinc 2 1, 3) := by decide +kernel
theorem dX3_planDay_76 : decode cX3_planDay 76 = .ok (.goto (-66), 3) := by decide +kernel
theorem dX3_planDay_79 : decode cX3_planDay 79 = .ok (.return_, 1) := by decide +kernel
theorem dX3_plan_0 : decode cX3_plan 0 = .ok (.iconst 0, 1) := by decide +kernel
theorem dX3_plan_1 : decode cX3_plan 1 = .ok (.istore_n 3, 1) := by decide +kernel
theorem dX3_plan_2 : decode cX3_plan 2 = .ok (.iload_n 3, 1) := by decide +kernel
theorem dX3_plan_3 : decode cX3_plan 3 = .ok (.aload_n 2, 1) := by decide +kernel
theorem dX3_plan_4 : decode cX3_plan 4 = .ok (.getfield 59, 3) := by decide +kernel
theorem dX3_plan_7 : decode cX3_plan 7 = .ok (.if_icmp .ge 49, 3) := by decide +kernel
theorem dX3_plan_10 : decode cX3_plan 10 = .ok (.aload_n 2, 1) := by decide +kernel
theorem dX3_plan_11 : decode cX3_plan 11 = .ok (.iload_n 3, 1) := by decide +kernel
theorem dX3_plan_12 : decode cX3_plan 12 = .ok (.invokevirtual 64, 3) := by decide +kernel
theorem dX3_plan_15 : decode cX3_plan 15 = .ok (.istore 4, 2) := by decide +kernel
theorem dX3_plan_17 : decode cX3_plan 17 = .ok (.iload 4, 2) := by decide +kernel
theorem dX3_plan_19 : decode cX3_plan 19 = .ok (.invokestatic 68, 3) := by decide +kernel
theorem dX3_plan_22 : decode cX3_plan 22 = .ok (.ifCond .eq 28, 3) := by decide +kernel
theorem dX3_plan_25 : decode cX3_plan 25 = .ok (.aload_n 0, 1) := by decide +kernel
theorem dX3_plan_26 : decode cX3_plan 26 = .ok (.getfield 9, 3) := by decide +kernel
theorem dX3_plan_29 : decode cX3_plan 29 = .ok (.iload 4, 2) := by decide +kernel
theorem dX3_plan_31 : decode cX3_plan 31 = .ok (.dup2, 1) := by decide +kernel
theorem dX3_plan_32 : decode cX3_plan 32 = .ok (.iaload, 1) := by decide +kernel
theorem dX3_plan_33 : decode cX3_plan 33 = .ok (.aload_n 1, 1) := by decide +kernel
theorem dX3_plan_34 : decode cX3_plan 34 = .ok (.getfield 130, 3) := by decide +kernel
theorem dX3_plan_37 : decode cX3_plan 37 = .ok (.aload_n 0, 1) := by decide +kernel
theorem dX3_plan_38 : decode cX3_plan 38 = .ok (.getfield 15, 3) := by decide +kernel
theorem dX3_plan_41 : decode cX3_plan 41 = .ok (.getfield 133, 3) := by decide +kernel
theorem dX3_plan_44 : decode cX3_plan 44 = .ok (.iload 4, 2) := by decide +kernel
theorem dX3_plan_46 : decode cX3_plan 46 = .ok (.iaload, 1) := by decide +kernel
theorem dX3_plan_47 : decode cX3_plan 47 = .ok (.imul, 1) := by decide +kernel
theorem dX3_plan_48 : decode cX3_plan 48 = .ok (.iadd, 1) := by decide +kernel
theorem dX3_plan_49 : decode cX3_plan 49 = .ok (.iastore, 1) := by decide +kernel
theorem dX3_plan_50 : decode cX3_plan 50 = .ok (.iinc 3 1, 3) := by decide +kernel
theorem dX3_plan_53 : decode cX3_plan 53 = .ok (.goto (-51), 3) := by decide +kernel
theorem dX3_plan_56 : decode cX3_plan 56 = .ok (.return_, 1) := by decide +kernel
theorem dX4_init_0 : decode cX4_init 0 = .ok (.aload_n 0, 1) := by decide +kernel
theorem dX4_init_1 : decode cX4_init 1 = .ok (.invokespecial 3, 3) := by decide +kernel
theorem dX4_init_4 : decode cX4_init 4 = .ok (.aload_n 0, 1) := by decide +kernel
theorem dX4_init_5 : decode cX4_init 5 = .ok (.bipush 10, 2) := by decide +kernel
theorem dX4_init_7 : decode cX4_init 7 = .ok (.newarray .int, 2) := by decide +kernel
theorem dX4_init_9 : decode cX4_init 9 = .ok (.putfield 9, 3) := by decide +kernel
theorem dX4_init_12 : decode cX4_init 12 = .ok (.return_, 1) := by decide +kernel
theorem dX4_first_0 : decode cX4_first 0 = .ok (.aload_n 0, 1) := by decide +kernel
theorem dX4_first_1 : decode cX4_first 1 = .ok (.getfield 15, 3) := by decide +kernel
theorem dX4_first_4 : decode cX4_first 4 = .ok (.ifCond .le 12, 3) := by decide +kernel
theorem dX4_first_7 : decode cX4_first 7 = .ok (.aload_n 0, 1) := by decide +kernel
theorem dX4_first_8 : decode cX4_first 8 = .ok (.getfield 9, 3) := by decide +kernel
theorem dX4_first_11 : decode cX4_first 11 = .ok (.iconst 0, 1) := by decide +kernel
theorem dX4_first_12 : decode cX4_first 12 = .ok (.iaload, 1) := by decide +kernel
theorem dX4_first_13 : decode cX4_first 13 = .ok (.goto 4, 3) := by decide +kernel
theorem dX4_first_16 : decode cX4_first 16 = .ok (.iconst (-1), 1) := by decide +kernel
end
section
theorem dX4_first_17 : decode cX4_first 17 = .ok (.ireturn, 1) := by decide +kernel
theorem dX4_last_0 : decode cX4_last 0 = .ok (.aload_n 0, 1) := by decide +kernel
theorem dX4_last_1 : decode cX4_last 1 = .ok (.getfield 15, 3) := by decide +kernel
theorem dX4_last_4 : decode cX4_last 4 = .ok (.ifCond .le 26, 3) := by decide +kernel
theorem dX4_last_7 : decode cX4_last 7 = .ok (.aload_n 0, 1) := by decide +kernel
theorem dX4_last_8 : decode cX4_last 8 = .ok (.getfield 15, 3) := by decide +kernel
theorem dX4_last_11 : decode cX4_last 11 = .ok (.bipush 10, 2) := by decide +kernel
theorem dX4_last_13 : decode cX4_last 13 = .ok (.if_icmp .gt 17, 3) := by decide +kernel
theorem dX4_last_16 : decode cX4_last 16 = .ok (.aload_n 0, 1) := by decide +kernel
theorem dX4_last_17 : decode cX4_last 17 = .ok (.getfield 9, 3) := by decide +kernel
theorem dX4_last_20 : decode cX4_last 20 = .ok (.aload_n 0, 1) := by decide +kernel
theorem dX4_last_21 : decode cX4_last 21 = .ok (.getfield 15, 3) := by decide +kernel
theorem dX4_last_24 : decode cX4_last 24 = .ok (.iconst 1, 1) := by decide +kernel
theorem dX4_last_25 : decode cX4_last 25 = .ok (.isub, 1) := by decide +kernel
theorem dX4_last_26 : decode cX4_last 26 = .ok (.iaload, 1) := by decide +kernel
theorem dX4_last_27 : decode cX4_last 27 = .ok (.goto 4, 3) := by decide +kernel
theorem dX4_last_30 : decode cX4_last 30 = .ok (.iconst (-1), 1) := by decide +kernel
theorem dX4_last_31 : decode cX4_last 31 = .ok (.ireturn, 1) := by decide +kernel
theorem dX4_at_0 : decode cX4_at 0 = .ok (.iload_n 1, 1) := by decide +kernel
theorem dX4_at_1 : decode cX4_at 1 = .ok (.ifCond .lt 26, 3) := by decide +kernel
theorem dX4_at_4 : decode cX4_at 4 = .ok (.iload_n 1, 1) := by decide +kernel
theorem dX4_at_5 : decode cX4_at 5 = .ok (.aload_n 0, 1) := by decide +kernel
theorem dX4_at_6 : decode cX4_at 6 = .ok (.getfield 15, 3) := by decide +kernel
theorem dX4_at_9 : decode cX4_at 9 = .ok (.if_icmp .ge 18, 3) := by decide +kernel
theorem dX4_at_12 : decode cX4_at 12 = .ok (.iload_n 1, 1) := by decide +kernel
theorem dX4_at_13 : decode cX4_at 13 = .ok (.bipush 10, 2) := by decide +kernel
theorem dX4_at_15 : decode cX4_at 15 = .ok (.if_icmp .ge 12, 3) := by decide +kernel
theorem dX4_at_18 : decode cX4_at 18 = .ok (.aload_n 0, 1) := by decide +kernel
theorem dX4_at_19 : decode cX4_at 19 = .ok (.getfield 9, 3) := by decide +kernel
theorem dX4_at_22 : decode cX4_at 22 = .ok (.iload_n 1, 1) := by decide +kernel
theorem dX4_at_23 : decode cX4_at 23 = .ok (.iaload, 1) := by decide +kernel
theorem dX4_at_24 : decode cX4_at 24 = .ok (.goto 4, 3) := by decide +kernel
theorem dX4_at_27 : decode cX4_at 27 = .ok (.iconst (-1), 1) := by decide +kernel
theorem dX4_at_28 : decode cX4_at 28 = .ok (.ireturn, 1) := by decide +kernel
theorem dX4_endFrom_0 : decode cX4_endFrom 0 = .ok (.iload_n 1, 1) := by decide +kernel
theorem dX4_endFrom_1 : decode cX4_endFrom 1 = .ok (.iconst 2, 1) := by decide +kernel
theorem dX4_endFrom_2 : decode cX4_endFrom 2 = .ok (.aload_n 0, 1) := by decide +kernel
theorem dX4_endFrom_3 : decode cX4_endFrom 3 = .ok (.getfield 15, 3) := by decide +kernel
theorem dX4_endFrom_6 : decode cX4_endFrom 6 = .ok (.iconst 1, 1) := by decide +kernel
theorem dX4_endFrom_7 : decode cX4_endFrom 7 = .ok (.isub, 1) := by decide +kernel
theorem dX4_endFrom_8 : decode cX4_endFrom 8 = .ok (.imul, 1) := by decide +kernel
theorem dX4_endFrom_9 : decode cX4_endFrom 9 = .ok (.iadd, 1) := by decide +kernel
theorem dX4_endFrom_10 : decode cX4_endFrom 10 = .ok (.ireturn, 1) := by decide +kernel
theorem dX4_copyFrom_0 : decode cX4_copyFrom 0 = .ok (.aload_n 1, 1) := by decide +kernel
theorem dX4_copyFrom_1 : decode cX4_copyFrom 1 = .ok (.getfield 9, 3) := by decide +kernel
theorem dX4_copyFrom_4 : decode cX4_copyFrom 4 = .ok (.iconst 0, 1) := by decide +kernel
theorem dX4_copyFrom_5 : decode cX4_copyFrom 5 = .ok (.aload_n 0, 1) := by decide +kernel
theorem dX4_copyFrom_6 : decode cX4_copyFrom 6 = .ok (.getfield 9, 3) := by decide +kernel
theorem dX4_copyFrom_9 : decode cX4_copyFrom 9 = .ok (.iconst 0, 1) := by decide +kernel
theorem dX4_copyFrom_10 : decode cX4_copyFrom 10 = .ok (.bipush 10, 2) := by decide +kernel
theorem dX4_copyFrom_12 : decode cX4_copyFrom 12 = .ok (.invokestatic 19, 3) := by decide +kernel
theorem dX4_copyFrom_15 : decode cX4_copyFrom 15 = .ok (.aload_n 0, 1) := by decide +kernel
theorem dX4_copyFrom_16 : decode cX4_copyFrom 16 = .ok (.aload_n 1, 1) := by decide +kernel
theorem dX4_copyFrom_17 : decode cX4_copyFrom 17 = .ok (.getfield 15, 3) := by decide +kernel
theorem dX4_copyFrom_20 : decode cX4_copyFrom 20 = .ok (.putfield 15, 3) := by decide +kernel
theorem dX4_copyFrom_23 : decode cX4_copyFrom 23 = .ok (.return_, 1) := by decide +kernel
theorem dX5_init_0 : decode cX5_init 0 = .ok (.aload_n 0, 1) := by decide +kernel
theorem dX5_init_1 : decode cX5_init 1 = .ok (.invokespecial 3, 3) := by decide +kernel
theorem dX5_init_4 : decode cX5_init 4 = .ok (.aload_n 0, 1) := by decide +kernel
theorem dX5_init_5 : decode cX5_init 5 = .ok (.bipush 25, 2) := by decide +kernel
theorem dX5_init_7 : decode cX5_init 7 = .ok (.newarray .boolean, 2) := by decide +kernel
theorem dX5_init_9 : decode cX5_init 9 = .ok (.putfield 9, 3) := by decide +kernel
theorem dX5_init_12 : decode cX5_init 12 = .ok (.aload_n 0, 1) := by decide +kernel
theorem dX5_init_13 : decode cX5_init 13 = .ok (.bipush 25, 2) := by decide +kernel
theorem dX5_init_15 : decode cX5_init 15 = .ok (.newarray .int, 2) := by decide +kernel
theorem dX5_init_17 : decode cX5_init 17 = .ok (.putfield 15, 3) := by decide +kernel
theorem dX5_init_20 : decode cX5_init 20 = .ok (.aload_n 0, 1) := by decide +kernel
theorem dX5_init_21 : decode cX5_init 21 = .ok (.aload_n 1, 1) := by decide +kernel
theorem dX5_init_22 : decode cX5_init 22 = .ok (.putfield 19, 3) := by decide +kernel
theorem dX5_init_25 : decode cX5_init 25 = .ok (.return_, 1) := by decide +kernel
theorem dX5_fewestMoves_0 : decode cX5_fewestMoves 0 = .ok (.aload_n 0, 1) := by decide +kernel
theorem dX5_fewestMoves_1 : decode cX5_fewestMoves 1 = .ok (.aload_n 1, 1) := by decide +kernel
theorem dX5_fewestMoves_2 : decode cX5_fewestMoves 2 = .ok (.iload_n 2, 1) := by decide +kernel
theorem dX5_fewestMoves_3 : decode cX5_fewestMoves 3 = .ok (.iload_n 3, 1) := by decide +kernel
theorem dX5_fewestMoves_4 : decode cX5_fewestMoves 4 = .ok (.iconst 0, 1) := by decide +kernel
theorem dX5_fewestMoves_5 : decode cX5_fewestMoves 5 = .ok (.invokevirtual 23, 3) := by decide +kernel
theorem dX5_fewestMoves_8 : decode cX5_fewestMoves 8 = .ok (.ireturn, 1) := by decide +kernel
theorem dX5_leastCharge_0 : decode cX5_leastCharge 0 = .ok (.aload_n 0, 1) := by decide +kernel
theorem dX5_leastCharge_1 : decode cX5_leastCharge 1 = .ok (.aload_n 1, 1) := by decide +kernel
theorem dX5_leastCharge_2 : decode cX5_leastCharge 2 = .ok (.iload_n 2, 1) := by decide +kernel
theorem dX5_leastCharge_3 : decode cX5_leastCharge 3 = .ok (.iload_n 3, 1) := by decide +kernel
theorem dX5_leastCharge_4 : decode cX5_leastCharge 4 = .ok (.iconst 1, 1) := by decide +kernel
theorem dX5_leastCharge_5 : decode cX5_leastCharge 5 = .ok (.invokevirtual 23, 3) := by decide +kernel
theorem dX5_leastCharge_8 : decode cX5_leastCharge 8 = .ok (.ireturn, 1) := by decide +kernel
theorem dX5_least_0 : decode cX5_least 0 = .ok (.iconst 0, 1) := by decide +kernel
theorem dX5_least_1 : decode cX5_least 1 = .ok (.istore 5, 2) := by decide +kernel
theorem dX5_least_3 : decode cX5_least 3 = .ok (.iload 5, 2) := by decide +kernel
theorem dX5_least_5 : decode cX5_least 5 = .ok (.bipush 25, 2) := by decide +kernel
theorem dX5_least_7 : decode cX5_least 7 = .ok (.if_icmp .ge 51, 3) := by decide +kernel
theorem dX5_least_10 : decode cX5_least 10 = .ok (.aload_n 0, 1) := by decide +kernel
theorem dX5_least_11 : decode cX5_least 11 = .ok (.getfield 9, 3) := by decide +kernel
theorem dX5_least_14 : decode cX5_least 14 = .ok (.iload 5, 2) := by decide +kernel
theorem dX5_least_16 : decode cX5_least 16 = .ok (.aload_n 0, 1) := by decide +kernel
theorem dX5_least_17 : decode cX5_least 17 = .ok (.getfield 19, 3) := by decide +kernel
theorem dX5_least_20 : decode cX5_least 20 = .ok (.getfield 27, 3) := by decide +kernel
theorem dX5_least_23 : decode cX5_least 23 = .ok (.iload 5, 2) := by decide +kernel
theorem dX5_least_25 : decode cX5_least 25 = .ok (.baload, 1) := by decide +kernel
theorem dX5_least_26 : decode cX5_least 26 = .ok (.ifCond .ne 24, 3) := by decide +kernel
theorem dX5_least_29 : decode cX5_least 29 = .ok (.aload_n 0, 1) := by decide +kernel
theorem dX5_least_30 : decode cX5_least 30 = .ok (.getfield 19, 3) := by decide +kernel
theorem dX5_least_33 : decode cX5_least 33 = .ok (.iload 5, 2) := by decide +kernel
theorem dX5_least_35 : decode cX5_least 35 = .ok (.aload_n 1, 1) := by decide +kernel
theorem dX5_least_36 : decode cX5_least 36 = .ok (.getfield 32, 3) := by decide +kernel
theorem dX5_least_39 : decode cX5_least 39 = .ok (.iload_n 3, 1) := by decide +kernel
theorem dX5_least_40 : decode cX5_least 40 = .ok (.invokevirtual 38, 3) := by decide +kernel
theorem dX5_least_43 : decode cX5_least 43 = .ok (.ifCond .ne 7, 3) := by decide +kernel
theorem dX5_least_46 : decode cX5_least 46 = .ok (.iconst 1, 1) := by decide +kernel
theorem dX5_least_47 : decode cX5_least 47 = .ok (.goto 4, 3) := by decide +kernel
theorem dX5_least_50 : decode cX5_least 50 = .ok (.iconst 0, 1) := by decide +kernel
theorem dX5_least_51 : decode cX5_least 51 = .ok (.bastore, 1) := by decide +kernel
theorem dX5_least_52 : decode cX5_least 52 = .ok (.iinc 5 1, 3) := by decide +kernel
theorem dX5_least_55 : decode cX5_least 55 = .ok (.goto (-52), 3) := by decide +kernel
theorem dX5_least_58 : decode cX5_least 58 = .ok (.aload_n 0, 1) := by decide +kernel
theorem dX5_least_59 : decode cX5_least 59 = .ok (.getfield 15, 3) := by decide +kernel
theorem dX5_least_62 : decode cX5_least 62 = .ok (.ldc 42, 2) := by decide +kernel
theorem dX5_least_64 : decode cX5_least 64 = .ok (.invokestatic 43, 3) := by decide +kernel
theorem dX5_least_67 : decode cX5_least 67 = .ok (.aload_n 1, 1) := by decide +kernel
theorem dX5_least_68 : decode cX5_least 68 = .ok (.getfield 49, 3) := by decide +kernel
theorem dX5_least_71 : decode cX5_least 71 = .ok (.invokestatic 52, 3) := by decide +kernel
theorem dX5_least_74 : decode cX5_least 74 = .ok (.ifCond .eq 13, 3) := by decide +kernel
theorem dX5_least_77 : decode cX5_least 77 = .ok (.aload_n 0, 1) := by decide +kernel
theorem dX5_least_78 : decode cX5_least 78 = .ok (.getfield 15, 3) := by decide +kernel
theorem dX5_least_81 : decode cX5_least 81 = .ok (.aload_n 1, 1) := by decide +kernel
theorem dX5_least_82 : decode cX5_least 82 = .ok (.getfield 49, 3) := by decide +kernel
theorem dX5_least_85 : decode cX5_least 85 = .ok (.iconst 0, 1) := by decide +kernel
theorem dX5_least_86 : decode cX5_least 86 = .ok (.iastore, 1) := by decide +kernel
theorem dX5_least_87 : decode cX5_least 87 = .ok (.iconst 1, 1) := by decide +kernel
theorem dX5_least_88 : decode cX5_least 88 = .ok (.istore 5, 2) := by decide +kernel
theorem dX5_least_90 : decode cX5_least 90 = .ok (.iconst 0, 1) := by decide +kernel
theorem dX5_least_91 : decode cX5_least 91 = .ok (.istore 6, 2) := by decide +kernel
theorem dX5_least_93 : decode cX5_least 93 = .ok (.iload 6, 2) := by decide +kernel
theorem dX5_least_95 : decode cX5_least 95 = .ok (.bipush 25, 2) := by decide +kernel
theorem dX5_least_97 : decode cX5_least 97 = .ok (.if_icmp .ge 22, 3) := by decide +kernel
theorem dX5_least_100 : decode cX5_least 100 = .ok (.iload 5, 2) := by decide +kernel
theorem dX5_least_102 : decode cX5_least 102 = .ok (.ifCond .eq 17, 3) := by decide +kernel
theorem dX5_least_105 : decode cX5_least 105 = .ok (.aload_n 0, 1) := by decide +kernel
theorem dX5_least_106 : decode cX5_least 106 = .ok (.iload 4, 2) := by decide +kernel
theorem dX5_least_108 : decode cX5_least 108 = .ok (.invokevirtual 56, 3) := by decide +kernel
theorem dX5_least_111 : decode cX5_least 111 = .ok (.istore 5, 2) := by decide +kernel
theorem dX5_least_113 : decode cX5_least 113 = .ok (.iinc 6 1, 3) := by decide +kernel
theorem dX5_least_116 : decode cX5_least 116 = .ok (.goto (-23), 3) := by decide +kernel
theorem dX5_least_119 : decode cX5_least 119 = .ok (.aload_n 0, 1) := by decide +kernel
theorem dX5_least_120 : decode cX5_least 120 = .ok (.getfield 15, 3) := by decide +kernel
theorem dX5_least_123 : decode cX5_least 123 = .ok (.iload_n 2, 1) := by decide +kernel
theorem dX5_least_124 : decode cX5_least 124 = .ok (.iaload, 1) := by decide +kernel
theorem dX5_least_125 : decode cX5_least 125 = .ok (.ldc 42, 2) := by decide +kernel
theorem dX5_least_127 : decode cX5_least 127 = .ok (.if_icmp .ge 12, 3) := by decide +kernel
theorem dX5_least_130 : decode cX5_least 130 = .ok (.aload_n 0, 1) := by decide +kernel
theorem dX5_least_131 : decode cX5_least 131 = .ok (.getfield 15, 3) := by decide +kernel
theorem dX5_least_134 : decode cX5_least 134 = .ok (.iload_n 2, 1) := by decide +kernel
theorem dX5_least_135 : decode cX5_least 135 = .ok (.iaload, 1) := by decide +kernel
theorem dX5_least_136 : decode cX5_least 136 = .ok (.goto 4, 3) := by decide +kernel
theorem dX5_least_139 : decode cX5_least 139 = .ok (.iconst (-1), 1) := by decide +kernel
theorem dX5_least_140 : decode cX5_least 140 = .ok (.ireturn, 1) := by decide +kernel
theorem dX5_spreadAll_0 : decode cX5_spreadAll 0 = .ok (.iconst 0, 1) := by decide +kernel
theorem dX5_spreadAll_1 : decode cX5_spreadAll 1 = .ok (.istore_n 2, 1) := by decide +kernel
theorem dX5_spreadAll_2 : decode cX5_spreadAll 2 = .ok (.iconst 0, 1) := by decide +kernel
theorem dX5_spreadAll_3 : decode cX5_spreadAll 3 = .ok (.istore_n 3, 1) := by decide +kernel
theorem dX5_spreadAll_4 : decode cX5_spreadAll 4 = .ok (.iload_n 3, 1) := by decide +kernel
theorem dX5_spreadAll_5 : decode cX5_spreadAll 5 = .ok (.bipush 25, 2) := by decide +kernel
theorem dX5_spreadAll_7 : decode cX5_spreadAll 7 = .ok (.if_icmp .ge 48, 3) := by decide +kernel
theorem dX5_spreadAll_10 : decode cX5_spreadAll 10 = .ok (.iconst 0, 1) := by decide +kernel
theorem dX5_spreadAll_11 : decode cX5_spreadAll 11 = .ok (.istore 4, 2) := by decide +kernel
theorem dX5_spreadAll_13 : decode cX5_spreadAll 13 = .ok (.iload 4, 2) := by decide +kernel
theorem dX5_spreadAll_15 : decode cX5_spreadAll 15 = .ok (.iconst 4, 1) := by decide +kernel
theorem dX5_spreadAll_16 : decode cX5_spreadAll 16 = .ok (.if_icmp .ge 33, 3) := by decide +kernel
theorem dX5_spreadAll_19 : decode cX5_spreadAll 19 = .ok (.aload_n 0, 1) := by decide +kernel
theorem dX5_spreadAll_20 : decode cX5_spreadAll 20 = .ok (.getfield 15, 3) := by decide +kernel
theorem dX5_spreadAll_23 : decode cX5_spreadAll 23 = .ok (.iload_n 3, 1) := by decide +kernel
theorem dX5_spreadAll_24 : decode cX5_spreadAll 24 = .ok (.iaload, 1) := by decide +kernel
theorem dX5_spreadAll_25 : decode cX5_spreadAll 25 = .ok (.ldc 42, 2) := by decide +kernel
theorem dX5_spreadAll_27 : decode cX5_spreadAll 27 = .ok (.if_icmp .ge 16, 3) := by decide +kernel
theorem dX5_spreadAll_30 : decode cX5_spreadAll 30 = .ok (.aload_n 0, 1) := by decide +kernel
theorem dX5_spreadAll_31 : decode cX5_spreadAll 31 = .ok (.iload_n 3, 1) := by decide +kernel
theorem dX5_spreadAll_32 : decode cX5_spreadAll 32 = .ok (.iload 4, 2) := by decide +kernel
theorem dX5_spreadAll_34 : decode cX5_spreadAll 34 = .ok (.iload_n 1, 1) := by decide +kernel
theorem dX5_spreadAll_35 : decode cX5_spreadAll 35 = .ok (.invokevirtual 60, 3) := by decide +kernel
theorem dX5_spreadAll_38 : decode cX5_spreadAll 38 = .ok (.ifCond .eq 5, 3) := by decide +kernel
theorem dX5_spreadAll_41 : decode cX5_spreadAll 41 = .ok (.iconst 1, 1) := by decide +kernel
theorem dX5_spreadAll_42 : decode cX5_spreadAll 42 = .ok (.istore_n 2, 1) := by decide +kernel
theorem dX5_spreadAll_43 : decode cX5_spreadAll 43 = .ok (.iinc 4 1, 3) := by decide +kernel
theorem dX5_spreadAll_46 : decode cX5_spreadAll 46 = .ok (.goto (-33), 3) := by decide +kernel
theorem dX5_spreadAll_49 : decode cX5_spreadAll 49 = .ok (.iinc 3 1, 3) := by decide +kernel
theorem dX5_spreadAll_52 : decode cX5_spreadAll 52 = .ok (.goto (-48), 3) := by decide +kernel
theorem dX5_spreadAll_55 : decode cX5_spreadAll 55 = .ok (.iload_n 2, 1) := by decide +kernel
theorem dX5_spreadAll_56 : decode cX5_spreadAll 56 = .ok (.ireturn, 1) := by decide +kernel
theorem dX5_spread_0 : decode cX5_spread 0 = .ok (.iload_n 1, 1) := by decide +kernel
theorem dX5_spread_1 : decode cX5_spread 1 = .ok (.iload_n 2, 1) := by decide +kernel
theorem dX5_spread_2 : decode cX5_spread 2 = .ok (.invokestatic 64, 3) := by decide +kernel
theorem dX5_spread_5 : decode cX5_spread 5 = .ok (.istore 4, 2) := by decide +kernel
theorem dX5_spread_7 : decode cX5_spread 7 = .ok (.iload 4, 2) := by decide +kernel
theorem dX5_spread_9 : decode cX5_spread 9 = .ok (.invokestatic 52, 3) := by decide +kernel
theorem dX5_spread_12 : decode cX5_spread 12 = .ok (.ifCond .eq 13, 3) := by decide +kernel
theorem dX5_spread_15 : decode cX5_spread 15 = .ok (.aload_n 0, 1) := by decide +kernel
theorem dX5_spread_16 : decode cX5_spread 16 = .ok (.getfield 9, 3) := by decide +kernel
theorem dX5_spread_19 : decode cX5_spread 19 = .ok (.iload 4, 2) := by decide +kernel
theorem dX5_spread_21 : decode cX5_spread 21 = .ok (.baload, 1) := by decide +kernel
theorem dX5_spread_22 : decode cX5_spread 22 = .ok (.ifCond .ne 5, 3) := by decide +kernel
theorem dX5_spread_25 : decode cX5_spread 25 = .ok (.iconst 0, 1) := by decide +kernel
theorem dX5_spread_26 : decode cX5_spread 26 = .ok (.ireturn, 1) := by decide +kernel
theorem dX5_spread_27 : decode cX5_spread 27 = .ok (.aload_n 0, 1) := by decide +kernel
theorem dX5_spread_28 : decode cX5_spread 28 = .ok (.getfield 15, 3) := by decide +kernel
theorem dX5_spread_31 : decode cX5_spread 31 = .ok (.iload_n 1, 1) := by decide +kernel
theorem dX5_spread_32 : decode cX5_spread 32 = .ok (.iaload, 1) := by decide +kernel
theorem dX5_spread_33 : decode cX5_spread 33 = .ok (.iload_n 3, 1) := by decide +kernel
theorem dX5_spread_34 : decode cX5_spread 34 = .ok (.ifCond .eq 14, 3) := by decide +kernel
theorem dX5_spread_37 : decode cX5_spread 37 = .ok (.aload_n 0, 1) := by decide +kernel
theorem dX5_spread_38 : decode cX5_spread 38 = .ok (.getfield 19, 3) := by decide +kernel
theorem dX5_spread_41 : decode cX5_spread 41 = .ok (.iload_n 2, 1) := by decide +kernel
theorem dX5_spread_42 : decode cX5_spread 42 = .ok (.invokevirtual 68, 3) := by decide +kernel
theorem dX5_spread_45 : decode cX5_spread 45 = .ok (.goto 4, 3) := by decide +kernel
theorem dX5_spread_48 : decode cX5_spread 48 = .ok (.iconst 1, 1) := by decide +kernel
theorem dX5_spread_49 : decode cX5_spread 49 = .ok (.iadd, 1) := by decide +kernel
theorem dX5_spread_50 : decode cX5_spread 50 = .ok (.istore 5, 2) := by decide +kernel
theorem dX5_spread_52 : decode cX5_spread 52 = .ok (.iload 5, 2) := by decide +kernel
theorem dX5_spread_54 : decode cX5_spread 54 = .ok (.aload_n 0, 1) := by decide +kernel
theorem dX5_spread_55 : decode cX5_spread 55 = .ok (.getfield 15, 3) := by decide +kernel
theorem dX5_spread_58 : decode cX5_spread 58 = .ok (.iload 4, 2) := by decide +kernel
theorem dX5_spread_60 : decode cX5_spread 60 = .ok (.iaload, 1) := by decide +kernel
theorem dX5_spread_61 : decode cX5_spread 61 = .ok (.if_icmp .lt 5, 3) := by decide +kernel
theorem dX5_spread_64 : decode cX5_spread 64 = .ok (.iconst 0, 1) := by decide +kernel
theorem dX5_spread_65 : decode cX5_spread 65 = .ok (.ireturn, 1) := by decide +kernel
theorem dX5_spread_66 : decode cX5_spread 66 = .ok (.aload_n 0, 1) := by decide +kernel
theorem dX5_spread_67 : decode cX5_spread 67 = .ok (.getfield 15, 3) := by decide +kernel
theorem dX5_spread_70 : decode cX5_spread 70 = .ok (.iload 4, 2) := by decide +kernel
theorem dX5_spread_72 : decode cX5_spread 72 = .ok (.iload 5, 2) := by decide +kernel
theorem dX5_spread_74 : decode cX5_spread 74 = .ok (.iastore, 1) := by decide +kernel
theorem dX5_spread_75 : decode cX5_spread 75 = .ok (.iconst 1, 1) := by decide +kernel
theorem dX5_spread_76 : decode cX5_spread 76 = .ok (.ireturn, 1) := by decide +kernel
theorem dX6_init_0 : decode cX6_init 0 = .ok (.aload_n 0, 1) := by decide +kernel
theorem dX6_init_1 : decode cX6_init 1 = .ok (.invokespecial 3, 3) := by decide +kernel
theorem dX6_init_4 : decode cX6_init 4 = .ok (.aload_n 0, 1) := by decide +kernel
theorem dX6_init_5 : decode cX6_init 5 = .ok (.bipush 6, 2) := by decide +kernel
theorem dX6_init_7 : decode cX6_init 7 = .ok (.anewarray 9, 3) := by decide +kernel
theorem dX6_init_10 : decode cX6_init 10 = .ok (.putfield 11, 3) := by decide +kernel
theorem dX6_init_13 : decode cX6_init 13 = .ok (.aload_n 0, 1) := by decide +kernel
theorem dX6_init_14 : decode cX6_init 14 = .ok (.bipush 12, 2) := by decide +kernel
theorem dX6_init_16 : decode cX6_init 16 = .ok (.anewarray 17, 3) := by decide +kernel
theorem dX6_init_19 : decode cX6_init 19 = .ok (.putfield 19, 3) := by decide +kernel
theorem dX6_init_22 : decode cX6_init 22 = .ok (.aload_n 0, 1) := by decide +kernel
theorem dX6_init_23 : decode cX6_init 23 = .ok (.bipush 25, 2) := by decide +kernel
theorem dX6_init_25 : decode cX6_init 25 = .ok (.newarray .int, 2) := by decide +kernel
theorem dX6_init_27 : decode cX6_init 27 = .ok (.putfield 23, 3) := by decide +kernel
theorem dX6_init_30 : decode cX6_init 30 = .ok (.aload_n 0, 1) := by decide +kernel
theorem dX6_init_31 : decode cX6_init 31 = .ok (.aload_n 1, 1) := by decide +kernel
theorem dX6_init_32 : decode cX6_init 32 = .ok (.putfield 27, 3) := by decide +kernel
theorem dX6_init_35 : decode cX6_init 35 = .ok (.iconst 0, 1) := by decide +kernel
theorem dX6_init_36 : decode cX6_init 36 = .ok (.istore_n 2, 1) := by decide +kernel
theorem dX6_init_37 : decode cX6_init 37 = .ok (.iload_n 2, 1) := by decide +kernel
theorem dX6_init_38 : decode cX6_init 38 = .ok (.bipush 6, 2) := by decide +kernel
theorem dX6_init_40 : decode cX6_init 40 = .ok (.if_icmp .ge 22, 3) := by decide +kernel
theorem dX6_init_43 : decode cX6_init 43 = .ok (.aload_n 0, 1) := by decide +kernel
theorem dX6_init_44 : decode cX6_init 44 = .ok (.getfield 11, 3) := by decide +kernel
theorem dX6_init_47 : decode cX6_init 47 = .ok (.iload_n 2, 1) := by decide +kernel
theorem dX6_init_48 : decode cX6_init 48 = .ok (.new 9, 3) := by decide +kernel
theorem dX6_init_51 : decode cX6_init 51 = .ok (.dup, 1) := by decide +kernel
theorem dX6_init_52 : decode cX6_init 52 = .ok (.invokespecial 31, 3) := by decide +kernel
theorem dX6_init_55 : decode cX6_init 55 = .ok (.aastore, 1) := by decide +kernel
theorem dX6_init_56 : decode cX6_init 56 = .ok (.iinc 2 1, 3) := by decide +kernel
theorem dX6_init_59 : decode cX6_init 59 = .ok (.goto (-22), 3) := by decide +kernel
theorem dX6_init_62 : decode cX6_init 62 = .ok (.iconst 0, 1) := by decide +kernel
theorem dX6_init_63 : decode cX6_init 63 = .ok (.istore_n 2, 1) := by decide +kernel
theorem dX6_init_64 : decode cX6_init 64 = .ok (.iload_n 2, 1) := by decide +kernel
theorem dX6_init_65 : decode cX6_init 65 = .ok (.bipush 12, 2) := by decide +kernel
theorem dX6_init_67 : decode cX6_init 67 = .ok (.if_icmp .ge 22, 3) := by decide +kernel
theorem dX6_init_70 : decode cX6_init 70 = .ok (.aload_n 0, 1) := by decide +kernel
theorem dX6_init_71 : decode cX6_init 71 = .ok (.getfield 19, 3) := by decide +kernel
theorem dX6_init_74 : decode cX6_init 74 = .ok (.iload_n 2, 1) := by decide +kernel
theorem dX6_init_75 : decode cX6_init 75 = .ok (.new 17, 3) := by decide +kernel
theorem dX6_init_78 : decode cX6_init 78 = .ok (.dup, 1) := by decide +kernel
theorem dX6_init_79 : decode cX6_init 79 = .ok (.invokespecial 32, 3) := by decide +kernel
theorem dX6_init_82 : decode cX6_init 82 = .ok (.aastore, 1) := by decide +kernel
theorem dX6_init_83 : decode cX6_init 83 = .ok (.iinc 2 1, 3) := by decide +kernel
theorem dX6_init_86 : decode cX6_init 86 = .ok (.goto (-22), 3) := by decide +kernel
theorem dX6_init_89 : decode cX6_init 89 = .ok (.return_, 1) := by decide +kernel
theorem dX6_copyFrom_0 : decode cX6_copyFrom 0 = .ok (.aload_n 0, 1) := by decide +kernel
theorem dX6_copyFrom_1 : decode cX6_copyFrom 1 = .ok (.aload_n 1, 1) := by decide +kernel
theorem dX6_copyFrom_2 : decode cX6_copyFrom 2 = .ok (.getfield 33, 3) := by decide +kernel
theorem dX6_copyFrom_5 : decode cX6_copyFrom 5 = .ok (.putfield 33, 3) := by decide +kernel
theorem dX6_copyFrom_8 : decode cX6_copyFrom 8 = .ok (.iconst 0, 1) := by decide +kernel
theorem dX6_copyFrom_9 : decode cX6_copyFrom 9 = .ok (.istore_n 2, 1) := by decide +kernel
theorem dX6_copyFrom_10 : decode cX6_copyFrom 10 = .ok (.iload_n 2, 1) := by decide +kernel
theorem dX6_copyFrom_11 : decode cX6_copyFrom 11 = .ok (.aload_n 0, 1) := by decide +kernel
theorem dX6_copyFrom_12 : decode cX6_copyFrom 12 = .ok (.getfield 33, 3) := by decide +kernel
theorem dX6_copyFrom_15 : decode cX6_copyFrom 15 = .ok (.if_icmp .ge 24, 3) := by decide +kernel
theorem dX6_copyFrom_18 : decode cX6_copyFrom 18 = .ok (.aload_n 0, 1) := by decide +kernel
theorem dX6_copyFrom_19 : decode cX6_copyFrom 19 = .ok (.getfield 11, 3) := by decide +kernel
theorem dX6_copyFrom_22 : decode cX6_copyFrom 22 = .ok (.iload_n 2, 1) := by decide +kernel
theorem dX6_copyFrom_23 : decode cX6_copyFrom 23 = .ok (.aaload, 1) := by decide +kernel
theorem dX6_copyFrom_24 : decode cX6_copyFrom 24 = .ok (.aload_n 1, 1) := by decide +kernel
theorem dX6_copyFrom_25 : decode cX6_copyFrom 25 = .ok (.getfield 11, 3) := by decide +kernel
theorem dX6_copyFrom_28 : decode cX6_copyFrom 28 = .ok (.iload_n 2, 1) := by decide +kernel
theorem dX6_copyFrom_29 : decode cX6_copyFrom 29 = .ok (.aaload, 1) := by decide +kernel
theorem dX6_copyFrom_30 : decode cX6_copyFrom 30 = .ok (.invokevirtual 37, 3) := by decide +kernel
theorem dX6_copyFrom_33 : decode cX6_copyFrom 33 = .ok (.iinc 2 1, 3) := by decide +kernel
theorem dX6_copyFrom_36 : decode cX6_copyFrom 36 = .ok (.goto (-26), 3) := by decide +kernel
theorem dX6_copyFrom_39 : decode cX6_copyFrom 39 = .ok (.aload_n 0, 1) := by decide +kernel
theorem dX6_copyFrom_40 : decode cX6_copyFrom 40 = .ok (.aload_n 1, 1) := by decide +kernel
theorem dX6_copyFrom_41 : decode cX6_copyFrom 41 = .ok (.getfield 41, 3) := by decide +kernel
theorem dX6_copyFrom_44 : decode cX6_copyFrom 44 = .ok (.putfield 41, 3) := by decide +kernel
theorem dX6_copyFrom_47 : decode cX6_copyFrom 47 = .ok (.iconst 0, 1) := by decide +kernel
theorem dX6_copyFrom_48 : decode cX6_copyFrom 48 = .ok (.istore_n 2, 1) := by decide +kernel
theorem dX6_copyFrom_49 : decode cX6_copyFrom 49 = .ok (.iload_n 2, 1) := by decide +kernel
theorem dX6_copyFrom_50 : decode cX6_copyFrom 50 = .ok (.aload_n 0, 1) := by decide +kernel
theorem dX6_copyFrom_51 : decode cX6_copyFrom 51 = .ok (.getfield 41, 3) := by decide +kernel
theorem dX6_copyFrom_54 : decode cX6_copyFrom 54 = .ok (.if_icmp .ge 24, 3) := by decide +kernel
theorem dX6_copyFrom_57 : decode cX6_copyFrom 57 = .ok (.aload_n 0, 1) := by decide +kernel
theorem dX6_copyFrom_58 : decode cX6_copyFrom 58 = .ok (.getfield 19, 3) := by decide +kernel
theorem dX6_copyFrom_61 : decode cX6_copyFrom 61 = .ok (.iload_n 2, 1) := by decide +kernel
theorem dX6_copyFrom_62 : decode cX6_copyFrom 62 = .ok (.aaload, 1) := by decide +kernel
theorem dX6_copyFrom_63 : decode cX6_copyFrom 63 = .ok (.aload_n 1, 1) := by decide +kernel
theorem dX6_copyFrom_64 : decode cX6_copyFrom 64 = .ok (.getfield 19, 3) := by decide +kernel
theorem dX6_copyFrom_67 : decode cX6_copyFrom 67 = .ok (.iload_n 2, 1) := by decide +kernel
theorem dX6_copyFrom_68 : decode cX6_copyFrom 68 = .ok (.aaload, 1) := by decide +kernel
theorem dX6_copyFrom_69 : decode cX6_copyFrom 69 = .ok (.invokevirtual 44, 3) := by decide +kernel
theorem dX6_copyFrom_72 : decode cX6_copyFrom 72 = .ok (.iinc 2 1, 3) := by decide +kernel
theorem dX6_copyFrom_75 : decode cX6_copyFrom 75 = .ok (.goto (-26), 3) := by decide +kernel
theorem dX6_copyFrom_78 : decode cX6_copyFrom 78 = .ok (.aload_n 1, 1) := by decide +kernel
theorem dX6_copyFrom_79 : decode cX6_copyFrom 79 = .ok (.getfield 23, 3) := by decide +kernel
theorem dX6_copyFrom_82 : decode cX6_copyFrom 82 = .ok (.iconst 0, 1) := by decide +kernel
theorem dX6_copyFrom_83 : decode cX6_copyFrom 83 = .ok (.aload_n 0, 1) := by decide +kernel
theorem dX6_copyFrom_84 : decode cX6_copyFrom 84 = .ok (.getfield 23, 3) := by decide +kernel
theorem dX6_copyFrom_87 : decode cX6_copyFrom 87 = .ok (.iconst 0, 1) := by decide +kernel
theorem dX6_copyFrom_88 : decode cX6_copyFrom 88 = .ok (.bipush 25, 2) := by decide +kernel
theorem dX6_copyFrom_90 : decode cX6_copyFrom 90 = .ok (.invokestatic 47, 3) := by decide +kernel
theorem dX6_copyFrom_93 : decode cX6_copyFrom 93 = .ok (.aload_n 0, 1) := by decide +kernel
theorem dX6_copyFrom_94 : decode cX6_copyFrom 94 = .ok (.aload_n 1, 1) := by decide +kernel
theorem dX6_copyFrom_95 : decode cX6_copyFrom 95 = .ok (.getfield 53, 3) := by decide +kernel
theorem dX6_copyFrom_98 : decode cX6_copyFrom 98 = .ok (.putfield 53, 3) := by decide +kernel
theorem dX6_copyFrom_101 : decode cX6_copyFrom 101 = .ok (.aload_n 0, 1) := by decide +kernel
theorem dX6_copyFrom_102 : decode cX6_copyFrom 102 = .ok (.aload_n 1, 1) := by decide +kernel
theorem dX6_copyFrom_103 : decode cX6_copyFrom 103 = .ok (.getfield 56, 3) := by decide +kernel
theorem dX6_copyFrom_106 : decode cX6_copyFrom 106 = .ok (.putfield 56, 3) := by decide +kernel
theorem dX6_copyFrom_109 : decode cX6_copyFrom 109 = .ok (.aload_n 0, 1) := by decide +kernel
theorem dX6_copyFrom_110 : decode cX6_copyFrom 110 = .ok (.aload_n 1, 1) := by decide +kernel
theorem dX6_copyFrom_111 : decode cX6_copyFrom 111 = .ok (.getfield 59, 3) := by decide +kernel
theorem dX6_copyFrom_114 : decode cX6_copyFrom 114 = .ok (.putfield 59, 3) := by decide +kernel
theorem dX6_copyFrom_117 : decode cX6_copyFrom 117 = .ok (.return_, 1) := by decide +kernel
theorem dX6_isCraft_0 : decode cX6_isCraft 0 = .ok (.iload_n 1, 1) := by decide +kernel
theorem dX6_isCraft_1 : decode cX6_isCraft 1 = .ok (.ifCond .lt 15, 3) := by decide +kernel
theorem dX6_isCraft_4 : decode cX6_isCraft 4 = .ok (.iload_n 1, 1) := by decide +kernel
theorem dX6_isCraft_5 : decode cX6_isCraft 5 = .ok (.aload_n 0, 1) := by decide +kernel
theorem dX6_isCraft_6 : decode cX6_isCraft 6 = .ok (.getfield 33, 3) := by decide +kernel
theorem dX6_isCraft_9 : decode cX6_isCraft 9 = .ok (.if_icmp .ge 7, 3) := by decide +kernel
theorem dX6_isCraft_12 : decode cX6_isCraft 12 = .ok (.iconst 1, 1) := by decide +kernel
theorem dX6_isCraft_13 : decode cX6_isCraft 13 = .ok (.goto 4, 3) := by decide +kernel
theorem dX6_isCraft_16 : decode cX6_isCraft 16 = .ok (.iconst 0, 1) := by decide +kernel
theorem dX6_isCraft_17 : decode cX6_isCraft 17 = .ok (.ireturn, 1) := by decide +kernel
theorem dX6_play_0 : decode cX6_play 0 = .ok (.iconst 0, 1) := by decide +kernel
theorem dX6_play_1 : decode cX6_play 1 = .ok (.istore_n 2, 1) := by decide +kernel
theorem dX6_play_2 : decode cX6_play 2 = .ok (.iload_n 2, 1) := by decide +kernel
theorem dX6_play_3 : decode cX6_play 3 = .ok (.iload_n 1, 1) := by decide +kernel
theorem dX6_play_4 : decode cX6_play 4 = .ok (.if_icmp .ge 137, 3) := by decide +kernel
theorem dX6_play_7 : decode cX6_play 7 = .ok (.aload_n 0, 1) := by decide +kernel
theorem dX6_play_8 : decode cX6_play 8 = .ok (.dup, 1) := by decide +kernel
theorem dX6_play_9 : decode cX6_play 9 = .ok (.getfield 59, 3) := by decide +kernel
theorem dX6_play_12 : decode cX6_play 12 = .ok (.iconst 1, 1) := by decide +kernel
theorem dX6_play_13 : decode cX6_play 13 = .ok (.iadd, 1) := by decide +kernel
theorem dX6_play_14 : decode cX6_play 14 = .ok (.putfield 59, 3) := by decide +kernel
theorem dX6_play_17 : decode cX6_play 17 = .ok (.aload_n 0, 1) := by decide +kernel
theorem dX6_play_18 : decode cX6_play 18 = .ok (.getfield 59, 3) := by decide +kernel
theorem dX6_play_21 : decode cX6_play 21 = .ok (.sipush 1440, 3) := by decide +kernel
theorem dX6_play_24 : decode cX6_play 24 = .ok (.irem, 1) := by decide +kernel
theorem dX6_play_25 : decode cX6_play 25 = .ok (.ifCond .ne 11, 3) := by decide +kernel
theorem dX6_play_28 : decode cX6_play 28 = .ok (.aload_n 0, 1) := by decide +kernel
theorem dX6_play_29 : decode cX6_play 29 = .ok (.getfield 23, 3) := by decide +kernel
theorem dX6_play_32 : decode cX6_play 32 = .ok (.iconst 0, 1) := by decide +kernel
theorem dX6_play_33 : decode cX6_play 33 = .ok (.invokestatic 62, 3) := by decide +kernel
theorem dX6_play_36 : decode cX6_play 36 = .ok (.iconst 0, 1) := by decide +kernel
theorem dX6_play_37 : decode cX6_play 37 = .ok (.istore_n 3, 1) := by decide +kernel
theorem dX6_play_38 : decode cX6_play 38 = .ok (.iload_n 3, 1) := by decide +kernel
theorem dX6_play_39 : decode cX6_play 39 = .ok (.aload_n 0, 1) := by decide +kernel
theorem dX6_play_40 : decode cX6_play 40 = .ok (.getfield 41, 3) := by decide +kernel
theorem dX6_play_43 : decode cX6_play 43 = .ok (.if_icmp .ge 14, 3) := by decide +kernel
theorem dX6_play_46 : decode cX6_play 46 = .ok (.aload_n 0, 1) := by decide +kernel
theorem dX6_play_47 : decode cX6_play 47 = .ok (.iload_n 3, 1) := by decide +kernel
theorem dX6_play_48 : decode cX6_play 48 = .ok (.invokevirtual 68, 3) := by decide +kernel
theorem dX6_play_51 : decode cX6_play 51 = .ok (.iinc 3 1, 3) := by decide +kernel
theorem dX6_play_54 : decode cX6_play 54 = .ok (.goto (-16), 3) := by decide +kernel
theorem dX6_play_57 : decode cX6_play 57 = .ok (.iconst 0, 1) := by decide +kernel
theorem dX6_play_58 : decode cX6_play 58 = .ok (.istore_n 3, 1) := by decide +kernel
theorem dX6_play_59 : decode cX6_play 59 = .ok (.iload_n 3, 1) := by decide +kernel
theorem dX6_play_60 : decode cX6_play 60 = .ok (.aload_n 0, 1) := by decide +kernel
theorem dX6_play_61 : decode cX6_play 61 = .ok (.getfield 33, 3) := by decide +kernel
theorem dX6_play_64 : decode cX6_play 64 = .ok (.if_icmp .ge 32, 3) := by decide +kernel
theorem dX6_play_67 : decode cX6_play 67 = .ok (.aload_n 0, 1) := by decide +kernel
theorem dX6_play_68 : decode cX6_play 68 = .ok (.aload_n 0, 1) := by decide +kernel
theorem dX6_play_69 : decode cX6_play 69 = .ok (.getfield 11, 3) := by decide +kernel
theorem dX6_play_72 : decode cX6_play 72 = .ok (.iload_n 3, 1) := by decide +kernel
theorem dX6_play_73 : decode cX6_play 73 = .ok (.aaload, 1) := by decide +kernel
theorem dX6_play_74 : decode cX6_play 74 = .ok (.invokevirtual 72, 3) := by decide +kernel
theorem dX6_play_77 : decode cX6_play 77 = .ok (.ifCond .eq 13, 3) := by decide +kernel
theorem dX6_play_80 : decode cX6_play 80 = .ok (.aload_n 0, 1) := by decide +kernel
theorem dX6_play_81 : decode cX6_play 81 = .ok (.aload_n 0, 1) := by decide +kernel
theorem dX6_play_82 : decode cX6_play 82 = .ok (.getfield 11, 3) := by decide +kernel
theorem dX6_play_85 : decode cX6_play 85 = .ok (.iload_n 3, 1) := by decide +kernel
theorem dX6_play_86 : decode cX6_play 86 = .ok (.aaload, 1) := by decide +kernel
theorem dX6_play_87 : decode cX6_play 87 = .ok (.invokevirtual 76, 3) := by decide +kernel
theorem dX6_play_90 : decode cX6_play 90 = .ok (.iinc 3 1, 3) := by decide +kernel
theorem dX6_play_93 : decode cX6_play 93 = .ok (.goto (-34), 3) := by decide +kernel
theorem dX6_play_96 : decode cX6_play 96 = .ok (.aload_n 0, 1) := by decide +kernel
theorem dX6_play_97 : decode cX6_play 97 = .ok (.dup, 1) := by decide +kernel
theorem dX6_play_98 : decode cX6_play 98 = .ok (.getfield 56, 3) := by decide +kernel
theorem dX6_play_101 : decode cX6_play 101 = .ok (.aload_n 0, 1) := by decide +kernel
theorem dX6_play_102 : decode cX6_play 102 = .ok (.invokevirtual 79, 3) := by decide +kernel
theorem dX6_play_105 : decode cX6_play 105 = .ok (.iadd, 1) := by decide +kernel
theorem dX6_play_106 : decode cX6_play 106 = .ok (.putfield 56, 3) := by decide +kernel
theorem dX6_play_109 : decode cX6_play 109 = .ok (.iconst 0, 1) := by decide +kernel
theorem dX6_play_110 : decode cX6_play 110 = .ok (.istore_n 3, 1) := by decide +kernel
theorem dX6_play_111 : decode cX6_play 111 = .ok (.iload_n 3, 1) := by decide +kernel
theorem dX6_play_112 : decode cX6_play 112 = .ok (.aload_n 0, 1) := by decide +kernel
theorem dX6_play_113 : decode cX6_play 113 = .ok (.getfield 33, 3) := by decide +kernel
theorem dX6_play_116 : decode cX6_play 116 = .ok (.if_icmp .ge 19, 3) := by decide +kernel
theorem dX6_play_119 : decode cX6_play 119 = .ok (.aload_n 0, 1) := by decide +kernel
theorem dX6_play_120 : decode cX6_play 120 = .ok (.aload_n 0, 1) := by decide +kernel
theorem dX6_play_121 : decode cX6_play 121 = .ok (.getfield 11, 3) := by decide +kernel
theorem dX6_play_124 : decode cX6_play 124 = .ok (.iload_n 3, 1) := by decide +kernel
theorem dX6_play_125 : decode cX6_play 125 = .ok (.aaload, 1) := by decide +kernel
theorem dX6_play_126 : decode cX6_play 126 = .ok (.invokevirtual 83, 3) := by decide +kernel
theorem dX6_play_129 : decode cX6_play 129 = .ok (.iinc 3 1, 3) := by decide +kernel
theorem dX6_play_132 : decode cX6_play 132 = .ok (.goto (-21), 3) := by decide +kernel
theorem dX6_play_135 : decode cX6_play 135 = .ok (.iinc 2 1, 3) := by decide +kernel
theorem dX6_play_138 : decode cX6_play 138 = .ok (.goto (-136), 3) := by decide +kernel
theorem dX6_play_141 : decode cX6_play 141 = .ok (.return_, 1) := by decide +kernel
theorem dX6_startOrMissIfDue_0 : decode cX6_startOrMissIfDue 0 = .ok (.aload_n 0, 1) := by decide +kernel
theorem dX6_startOrMissIfDue_1 : decode cX6_startOrMissIfDue 1 = .ok (.getfield 19, 3) := by decide +kernel
theorem dX6_startOrMissIfDue_4 : decode cX6_startOrMissIfDue 4 = .ok (.iload_n 1, 1) := by decide +kernel
theorem dX6_startOrMissIfDue_5 : decode cX6_startOrMissIfDue 5 = .ok (.aaload, 1) := by decide +kernel
theorem dX6_startOrMissIfDue_6 : decode cX6_startOrMissIfDue 6 = .ok (.astore_n 2, 1) := by decide +kernel
theorem dX6_startOrMissIfDue_7 : decode cX6_startOrMissIfDue 7 = .ok (.aload_n 2, 1) := by decide +kernel
theorem dX6_startOrMissIfDue_8 : decode cX6_startOrMissIfDue 8 = .ok (.getfield 86, 3) := by decide +kernel
theorem dX6_startOrMissIfDue_11 : decode cX6_startOrMissIfDue 11 = .ok (.ifCond .ne 25, 3) := by decide +kernel
theorem dX6_startOrMissIfDue_14 : decode cX6_startOrMissIfDue 14 = .ok (.aload_n 2, 1) := by decide +kernel
theorem dX6_startOrMissIfDue_15 : decode cX6_startOrMissIfDue 15 = .ok (.getfield 89, 3) := by decide +kernel
theorem dX6_startOrMissIfDue_18 : decode cX6_startOrMissIfDue 18 = .ok (.aload_n 0, 1) := by decide +kernel
theorem dX6_startOrMissIfDue_19 : decode cX6_startOrMissIfDue 19 = .ok (.getfield 59, 3) := by decide +kernel
theorem dX6_startOrMissIfDue_22 : decode cX6_startOrMissIfDue 22 = .ok (.if_icmp .ne 14, 3) := by decide +kernel
theorem dX6_startOrMissIfDue_25 : decode cX6_startOrMissIfDue 25 = .ok (.aload_n 0, 1) := by decide +kernel
theorem dX6_startOrMissIfDue_26 : decode cX6_startOrMissIfDue 26 = .ok (.aload_n 2, 1) := by decide +kernel
theorem dX6_startOrMissIfDue_27 : decode cX6_startOrMissIfDue 27 = .ok (.getfield 92, 3) := by decide +kernel
theorem dX6_startOrMissIfDue_30 : decode cX6_startOrMissIfDue 30 = .ok (.invokevirtual 95, 3) := by decide +kernel
theorem dX6_startOrMissIfDue_33 : decode cX6_startOrMissIfDue 33 = .ok (.ifCond .ne 4, 3) := by decide +kernel
theorem dX6_startOrMissIfDue_36 : decode cX6_startOrMissIfDue 36 = .ok (.return_, 1) := by decide +kernel
theorem dX6_startOrMissIfDue_37 : decode cX6_startOrMissIfDue 37 = .ok (.aload_n 0, 1) := by decide +kernel
theorem dX6_startOrMissIfDue_38 : decode cX6_startOrMissIfDue 38 = .ok (.getfield 11, 3) := by decide +kernel
theorem dX6_startOrMissIfDue_41 : decode cX6_startOrMissIfDue 41 = .ok (.aload_n 2, 1) := by decide +kernel
theorem dX6_startOrMissIfDue_42 : decode cX6_startOrMissIfDue 42 = .ok (.getfield 92, 3) := by decide +kernel
theorem dX6_startOrMissIfDue_45 : decode cX6_startOrMissIfDue 45 = .ok (.aaload, 1) := by decide +kernel
theorem dX6_startOrMissIfDue_46 : decode cX6_startOrMissIfDue 46 = .ok (.astore_n 3, 1) := by decide +kernel
theorem dX6_startOrMissIfDue_47 : decode cX6_startOrMissIfDue 47 = .ok (.aload_n 3, 1) := by decide +kernel
theorem dX6_startOrMissIfDue_48 : decode cX6_startOrMissIfDue 48 = .ok (.getfield 99, 3) := by decide +kernel
theorem dX6_startOrMissIfDue_51 : decode cX6_startOrMissIfDue 51 = .ok (.ifCond .ne 21, 3) := by decide +kernel
theorem dX6_startOrMissIfDue_54 : decode cX6_startOrMissIfDue 54 = .ok (.aload_n 3, 1) := by decide +kernel
theorem dX6_startOrMissIfDue_55 : decode cX6_startOrMissIfDue 55 = .ok (.getfield 100, 3) := by decide +kernel
theorem dX6_startOrMissIfDue_58 : decode cX6_startOrMissIfDue 58 = .ok (.aload_n 2, 1) := by decide +kernel
theorem dX6_startOrMissIfDue_59 : decode cX6_startOrMissIfDue 59 = .ok (.getfield 103, 3) := by decide +kernel
theorem dX6_startOrMissIfDue_62 : decode cX6_startOrMissIfDue 62 = .ok (.invokevirtual 107, 3) := by decide +kernel
theorem dX6_startOrMissIfDue_65 : decode cX6_startOrMissIfDue 65 = .ok (.if_icmp .ne 7, 3) := by decide +kernel
theorem dX6_startOrMissIfDue_68 : decode cX6_startOrMissIfDue 68 = .ok (.iconst 1, 1) := by decide +kernel
theorem dX6_startOrMissIfDue_69 : decode cX6_startOrMissIfDue 69 = .ok (.goto 4, 3) := by decide +kernel
theorem dX6_startOrMissIfDue_72 : decode cX6_startOrMissIfDue 72 = .ok (.iconst 0, 1) := by decide +kernel
theorem dX6_startOrMissIfDue_73 : decode cX6_startOrMissIfDue 73 = .ok (.istore 4, 2) := by decide +kernel
theorem dX6_startOrMissIfDue_75 : decode cX6_startOrMissIfDue 75 = .ok (.iload 4, 2) := by decide +kernel
theorem dX6_startOrMissIfDue_77 : decode cX6_startOrMissIfDue 77 = .ok (.ifCond .eq 18, 3) := by decide +kernel
theorem dX6_startOrMissIfDue_80 : decode cX6_startOrMissIfDue 80 = .ok (.aload_n 3, 1) := by decide +kernel
theorem dX6_startOrMissIfDue_81 : decode cX6_startOrMissIfDue 81 = .ok (.getfield 112, 3) := by decide +kernel
theorem dX6_startOrMissIfDue_84 : decode cX6_startOrMissIfDue 84 = .ok (.iconst 2, 1) := by decide +kernel
theorem dX6_startOrMissIfDue_85 : decode cX6_startOrMissIfDue 85 = .ok (.if_icmp .lt 10, 3) := by decide +kernel
theorem dX6_startOrMissIfDue_88 : decode cX6_startOrMissIfDue 88 = .ok (.aload_n 3, 1) := by decide +kernel
theorem dX6_startOrMissIfDue_89 : decode cX6_startOrMissIfDue 89 = .ok (.getfield 115, 3) := by decide +kernel
theorem dX6_startOrMissIfDue_92 : decode cX6_startOrMissIfDue 92 = .ok (.ifCond .ne 9, 3) := by decide +kernel
theorem dX6_startOrMissIfDue_95 : decode cX6_startOrMissIfDue 95 = .ok (.aload_n 2, 1) := by decide +kernel
theorem dX6_startOrMissIfDue_96 : decode cX6_startOrMissIfDue 96 = .ok (.iconst 4, 1) := by decide +kernel
theorem dX6_startOrMissIfDue_97 : decode cX6_startOrMissIfDue 97 = .ok (.putfield 86, 3) := by decide +kernel
theorem dX6_startOrMissIfDue_100 : decode cX6_startOrMissIfDue 100 = .ok (.return_, 1) := by decide +kernel
theorem dX6_startOrMissIfDue_101 : decode cX6_startOrMissIfDue 101 = .ok (.aload_n 2, 1) := by decide +kernel
theorem dX6_startOrMissIfDue_102 : decode cX6_startOrMissIfDue 102 = .ok (.iconst 1, 1) := by decide +kernel
theorem dX6_startOrMissIfDue_103 : decode cX6_startOrMissIfDue 103 = .ok (.putfield 86, 3) := by decide +kernel
theorem dX6_startOrMissIfDue_106 : decode cX6_startOrMissIfDue 106 = .ok (.aload_n 3, 1) := by decide +kernel
theorem dX6_startOrMissIfDue_107 : decode cX6_startOrMissIfDue 107 = .ok (.iconst 1, 1) := by decide +kernel
theorem dX6_startOrMissIfDue_108 : decode cX6_startOrMissIfDue 108 = .ok (.putfield 99, 3) := by decide +kernel
theorem dX6_startOrMissIfDue_111 : decode cX6_startOrMissIfDue 111 = .ok (.aload_n 3, 1) := by decide +kernel
theorem dX6_startOrMissIfDue_112 : decode cX6_startOrMissIfDue 112 = .ok (.iload_n 1, 1) := by decide +kernel
theorem dX6_startOrMissIfDue_113 : decode cX6_startOrMissIfDue 113 = .ok (.putfield 119, 3) := by decide +kernel
theorem dX6_startOrMissIfDue_116 : decode cX6_startOrMissIfDue 116 = .ok (.aload_n 3, 1) := by decide +kernel
theorem dX6_startOrMissIfDue_117 : decode cX6_startOrMissIfDue 117 = .ok (.dup, 1) := by decide +kernel
theorem dX6_startOrMissIfDue_118 : decode cX6_startOrMissIfDue 118 = .ok (.getfield 112, 3) := by decide +kernel
theorem dX6_startOrMissIfDue_121 : decode cX6_startOrMissIfDue 121 = .ok (.iconst 2, 1) := by decide +kernel
theorem dX6_startOrMissIfDue_122 : decode cX6_startOrMissIfDue 122 = .ok (.isub, 1) := by decide +kernel
theorem dX6_startOrMissIfDue_123 : decode cX6_startOrMissIfDue 123 = .ok (.putfield 112, 3) := by decide +kernel
theorem dX6_startOrMissIfDue_126 : decode cX6_startOrMissIfDue 126 = .ok (.aload_n 0, 1) := by decide +kernel
theorem dX6_startOrMissIfDue_127 : decode cX6_startOrMissIfDue 127 = .ok (.aload_n 3, 1) := by decide +kernel
theorem dX6_startOrMissIfDue_128 : decode cX6_startOrMissIfDue 128 = .ok (.invokevirtual 122, 3) := by decide +kernel
theorem dX6_startOrMissIfDue_131 : decode cX6_startOrMissIfDue 131 = .ok (.return_, 1) := by decide +kernel
theorem dX6_isToMove_0 : decode cX6_isToMove 0 = .ok (.aload_n 1, 1) := by decide +kernel
theorem dX6_isToMove_1 : decode cX6_isToMove 1 = .ok (.getfield 99, 3) := by decide +kernel
theorem dX6_isToMove_4 : decode cX6_isToMove 4 = .ok (.iconst 1, 1) := by decide +kernel
theorem dX6_isToMove_5 : decode cX6_isToMove 5 = .ok (.if_icmp .ne 21, 3) := by decide +kernel
theorem dX6_isToMove_8 : decode cX6_isToMove 8 = .ok (.aload_n 1, 1) := by decide +kernel
theorem dX6_isToMove_9 : decode cX6_isToMove 9 = .ok (.getfield 119, 3) := by decide +kernel
theorem dX6_isToMove_12 : decode cX6_isToMove 12 = .ok (.ifCond .lt 14, 3) := by decide +kernel
theorem dX6_isToMove_15 : decode cX6_isToMove 15 = .ok (.aload_n 1, 1) := by decide +kernel
theorem dX6_isToMove_16 : decode cX6_isToMove 16 = .ok (.getfield 119, 3) := by decide +kernel
theorem dX6_isToMove_19 : decode cX6_isToMove 19 = .ok (.aload_n 0, 1) := by decide +kernel
theorem dX6_isToMove_20 : decode cX6_isToMove 20 = .ok (.getfield 41, 3) := by decide +kernel
theorem dX6_isToMove_23 : decode cX6_isToMove 23 = .ok (.if_icmp .lt 5, 3) := by decide +kernel
theorem dX6_isToMove_26 : decode cX6_isToMove 26 = .ok (.iconst 0, 1) := by decide +kernel
theorem dX6_isToMove_27 : decode cX6_isToMove 27 = .ok (.ireturn, 1) := by decide +kernel
theorem dX6_isToMove_28 : decode cX6_isToMove 28 = .ok (.aload_n 0, 1) := by decide +kernel
theorem dX6_isToMove_29 : decode cX6_isToMove 29 = .ok (.getfield 59, 3) := by decide +kernel
theorem dX6_isToMove_32 : decode cX6_isToMove 32 = .ok (.aload_n 0, 1) := by decide +kernel
theorem dX6_isToMove_33 : decode cX6_isToMove 33 = .ok (.getfield 19, 3) := by decide +kernel
theorem dX6_isToMove_36 : decode cX6_isToMove 36 = .ok (.aload_n 1, 1) := by decide +kernel
theorem dX6_isToMove_37 : decode cX6_isToMove 37 = .ok (.getfield 119, 3) := by decide +kernel
theorem dX6_isToMove_40 : decode cX6_isToMove 40 = .ok (.aaload, 1) := by decide +kernel
theorem dX6_isToMove_41 : decode cX6_isToMove 41 = .ok (.getfield 89, 3) := by decide +kernel
theorem dX6_isToMove_44 : decode cX6_isToMove 44 = .ok (.isub, 1) := by decide +kernel
theorem dX6_isToMove_45 : decode cX6_isToMove 45 = .ok (.istore_n 2, 1) := by decide +kernel
theorem dX6_isToMove_46 : decode cX6_isToMove 46 = .ok (.iload_n 2, 1) := by decide +kernel
theorem dX6_isToMove_47 : decode cX6_isToMove 47 = .ok (.iconst 2, 1) := by decide +kernel
theorem dX6_isToMove_48 : decode cX6_isToMove 48 = .ok (.if_icmp .lt 13, 3) := by decide +kernel
theorem dX6_isToMove_51 : decode cX6_isToMove 51 = .ok (.iload_n 2, 1) := by decide +kernel
theorem dX6_isToMove_52 : decode cX6_isToMove 52 = .ok (.iconst 2, 1) := by decide +kernel
theorem dX6_isToMove_53 : decode cX6_isToMove 53 = .ok (.irem, 1) := by decide +kernel
theorem dX6_isToMove_54 : decode cX6_isToMove 54 = .ok (.ifCond .ne 7, 3) := by decide +kernel
theorem dX6_isToMove_57 : decode cX6_isToMove 57 = .ok (.iconst 1, 1) := by decide +kernel
theorem dX6_isToMove_58 : decode cX6_isToMove 58 = .ok (.goto 4, 3) := by decide +kernel
theorem dX6_isToMove_61 : decode cX6_isToMove 61 = .ok (.iconst 0, 1) := by decide +kernel
theorem dX6_isToMove_62 : decode cX6_isToMove 62 = .ok (.ireturn, 1) := by decide +kernel
theorem dX6_move_0 : decode cX6_move 0 = .ok (.aload_n 0, 1) := by decide +kernel
theorem dX6_move_1 : decode cX6_move 1 = .ok (.getfield 19, 3) := by decide +kernel
theorem dX6_move_4 : decode cX6_move 4 = .ok (.aload_n 1, 1) := by decide +kernel
theorem dX6_move_5 : decode cX6_move 5 = .ok (.getfield 119, 3) := by decide +kernel
theorem dX6_move_8 : decode cX6_move 8 = .ok (.aaload, 1) := by decide +kernel
theorem dX6_move_9 : decode cX6_move 9 = .ok (.astore_n 2, 1) := by decide +kernel
theorem dX6_move_10 : decode cX6_move 10 = .ok (.aload_n 2, 1) := by decide +kernel
theorem dX6_move_11 : decode cX6_move 11 = .ok (.getfield 86, 3) := by decide +kernel
theorem dX6_move_14 : decode cX6_move 14 = .ok (.iconst 1, 1) := by decide +kernel
theorem dX6_move_15 : decode cX6_move 15 = .ok (.if_icmp .ne 15, 3) := by decide +kernel
theorem dX6_move_18 : decode cX6_move 18 = .ok (.aload_n 1, 1) := by decide +kernel
theorem dX6_move_19 : decode cX6_move 19 = .ok (.getfield 115, 3) := by decide +kernel
theorem dX6_move_22 : decode cX6_move 22 = .ok (.ifCond .ne 8, 3) := by decide +kernel
theorem dX6_move_25 : decode cX6_move 25 = .ok (.aload_n 2, 1) := by decide +kernel
theorem dX6_move_26 : decode cX6_move 26 = .ok (.iconst 5, 1) := by decide +kernel
theorem dX6_move_27 : decode cX6_move 27 = .ok (.putfield 86, 3) := by decide +kernel
theorem dX6_move_30 : decode cX6_move 30 = .ok (.aload_n 2, 1) := by decide +kernel
theorem dX6_move_31 : decode cX6_move 31 = .ok (.getfield 86, 3) := by decide +kernel
theorem dX6_move_34 : decode cX6_move 34 = .ok (.iconst 5, 1) := by decide +kernel
theorem dX6_move_35 : decode cX6_move 35 = .ok (.if_icmp .ne 7, 3) := by decide +kernel
theorem dX6_move_38 : decode cX6_move 38 = .ok (.iconst 1, 1) := by decide +kernel
theorem dX6_move_39 : decode cX6_move 39 = .ok (.goto 4, 3) := by decide +kernel
theorem dX6_move_42 : decode cX6_move 42 = .ok (.iconst 0, 1) := by decide +kernel
theorem dX6_move_43 : decode cX6_move 43 = .ok (.istore_n 3, 1) := by decide +kernel
theorem dX6_move_44 : decode cX6_move 44 = .ok (.aload_n 0, 1) := by decide +kernel
theorem dX6_move_45 : decode cX6_move 45 = .ok (.getfield 59, 3) := by decide +kernel
theorem dX6_move_48 : decode cX6_move 48 = .ok (.aload_n 2, 1) := by decide +kernel
theorem dX6_move_49 : decode cX6_move 49 = .ok (.getfield 89, 3) := by decide +kernel
theorem dX6_move_52 : decode cX6_move 52 = .ok (.isub, 1) := by decide +kernel
theorem dX6_move_53 : decode cX6_move 53 = .ok (.iconst 2, 1) := by decide +kernel
theorem dX6_move_54 : decode cX6_move 54 = .ok (.idiv, 1) := by decide +kernel
theorem dX6_move_55 : decode cX6_move 55 = .ok (.istore 4, 2) := by decide +kernel
theorem dX6_move_57 : decode cX6_move 57 = .ok (.iload_n 3, 1) := by decide +kernel
theorem dX6_move_58 : decode cX6_move 58 = .ok (.ifCond .eq 10, 3) := by decide +kernel
theorem dX6_move_61 : decode cX6_move 61 = .ok (.aload_n 1, 1) := by decide +kernel
theorem dX6_move_62 : decode cX6_move 62 = .ok (.invokevirtual 125, 3) := by decide +kernel
theorem dX6_move_65 : decode cX6_move 65 = .ok (.goto 12, 3) := by decide +kernel
theorem dX6_move_68 : decode cX6_move 68 = .ok (.aload_n 2, 1) := by decide +kernel
theorem dX6_move_69 : decode cX6_move 69 = .ok (.getfield 103, 3) := by decide +kernel
theorem dX6_move_72 : decode cX6_move 72 = .ok (.iload 4, 2) := by decide +kernel
theorem dX6_move_74 : decode cX6_move 74 = .ok (.invokevirtual 128, 3) := by decide +kernel
theorem dX6_move_77 : decode cX6_move 77 = .ok (.istore 5, 2) := by decide +kernel
theorem dX6_move_79 : decode cX6_move 79 = .ok (.iload 5, 2) := by decide +kernel
theorem dX6_move_81 : decode cX6_move 81 = .ok (.aload_n 1, 1) := by decide +kernel
theorem dX6_move_82 : decode cX6_move 82 = .ok (.getfield 100, 3) := by decide +kernel
theorem dX6_move_85 : decode cX6_move 85 = .ok (.if_icmp .eq 20, 3) := by decide +kernel
theorem dX6_move_88 : decode cX6_move 88 = .ok (.aload_n 0, 1) := by decide +kernel
theorem dX6_move_89 : decode cX6_move 89 = .ok (.aload_n 1, 1) := by decide +kernel
theorem dX6_move_90 : decode cX6_move 90 = .ok (.aload_n 2, 1) := by decide +kernel
theorem dX6_move_91 : decode cX6_move 91 = .ok (.iload 5, 2) := by decide +kernel
theorem dX6_move_93 : decode cX6_move 93 = .ok (.invokevirtual 132, 3) := by decide +kernel
theorem dX6_move_96 : decode cX6_move 96 = .ok (.ifCond .ne 4, 3) := by decide +kernel
theorem dX6_move_99 : decode cX6_move 99 = .ok (.return_, 1) := by decide +kernel
theorem dX6_move_100 : decode cX6_move 100 = .ok (.aload_n 0, 1) := by decide +kernel
theorem dX6_move_101 : decode cX6_move 101 = .ok (.aload_n 1, 1) := by decide +kernel
theorem dX6_move_102 : decode cX6_move 102 = .ok (.invokevirtual 122, 3) := by decide +kernel
theorem dX6_move_105 : decode cX6_move 105 = .ok (.iload_n 3, 1) := by decide +kernel
theorem dX6_move_106 : decode cX6_move 106 = .ok (.ifCond .eq 22, 3) := by decide +kernel
theorem dX6_move_109 : decode cX6_move 109 = .ok (.aload_n 1, 1) := by decide +kernel
theorem dX6_move_110 : decode cX6_move 110 = .ok (.getfield 100, 3) := by decide +kernel
theorem dX6_move_113 : decode cX6_move 113 = .ok (.aload_n 1, 1) := by decide +kernel
theorem dX6_move_114 : decode cX6_move 114 = .ok (.getfield 136, 3) := by decide +kernel
theorem dX6_move_117 : decode cX6_move 117 = .ok (.if_icmp .ne 11, 3) := by decide +kernel
theorem dX6_move_120 : decode cX6_move 120 = .ok (.aload_n 1, 1) := by decide +kernel
theorem dX6_move_121 : decode cX6_move 121 = .ok (.aload_n 0, 1) := by decide +kernel
theorem dX6_move_122 : decode cX6_move 122 = .ok (.getfield 59, 3) := by decide +kernel
theorem dX6_move_125 : decode cX6_move 125 = .ok (.invokevirtual 139, 3) := by decide +kernel
theorem dX6_move_128 : decode cX6_move 128 = .ok (.iload_n 3, 1) := by decide +kernel
theorem dX6_move_129 : decode cX6_move 129 = .ok (.ifCond .ne 30, 3) := by decide +kernel
theorem dX6_move_132 : decode cX6_move 132 = .ok (.iload 4, 2) := by decide +kernel
theorem dX6_move_134 : decode cX6_move 134 = .ok (.aload_n 2, 1) := by decide +kernel
theorem dX6_move_135 : decode cX6_move 135 = .ok (.getfield 103, 3) := by decide +kernel
theorem dX6_move_138 : decode cX6_move 138 = .ok (.getfield 142, 3) := by decide +kernel
theorem dX6_move_141 : decode cX6_move 141 = .ok (.iconst 1, 1) := by decide +kernel
theorem dX6_move_142 : decode cX6_move 142 = .ok (.isub, 1) := by decide +kernel
theorem dX6_move_143 : decode cX6_move 143 = .ok (.if_icmp .ne 16, 3) := by decide +kernel
theorem dX6_move_146 : decode cX6_move 146 = .ok (.aload_n 1, 1) := by decide +kernel
theorem dX6_move_147 : decode cX6_move 147 = .ok (.aload_n 0, 1) := by decide +kernel
theorem dX6_move_148 : decode cX6_move 148 = .ok (.getfield 59, 3) := by decide +kernel
theorem dX6_move_151 : decode cX6_move 151 = .ok (.invokevirtual 139, 3) := by decide +kernel
theorem dX6_move_154 : decode cX6_move 154 = .ok (.aload_n 2, 1) := by decide +kernel
theorem dX6_move_155 : decode cX6_move 155 = .ok (.iconst 2, 1) := by decide +kernel
theorem dX6_move_156 : decode cX6_move 156 = .ok (.putfield 86, 3) := by decide +kernel
theorem dX6_move_159 : decode cX6_move 159 = .ok (.return_, 1) := by decide +kernel
theorem dX6_movesInto_0 : decode cX6_movesInto 0 = .ok (.aload_n 0, 1) := by decide +kernel
theorem dX6_movesInto_1 : decode cX6_movesInto 1 = .ok (.getfield 27, 3) := by decide +kernel
theorem dX6_movesInto_4 : decode cX6_movesInto 4 = .ok (.aload_n 1, 1) := by decide +kernel
theorem dX6_movesInto_5 : decode cX6_movesInto 5 = .ok (.getfield 100, 3) := by decide +kernel
theorem dX6_movesInto_8 : decode cX6_movesInto 8 = .ok (.iload_n 3, 1) := by decide +kernel
theorem dX6_movesInto_9 : decode cX6_movesInto 9 = .ok (.invokestatic 145, 3) := by decide +kernel
theorem dX6_movesInto_12 : decode cX6_movesInto 12 = .ok (.invokevirtual 151, 3) := by decide +kernel
theorem dX6_movesInto_15 : decode cX6_movesInto 15 = .ok (.istore 4, 2) := by decide +kernel
theorem dX6_movesInto_17 : decode cX6_movesInto 17 = .ok (.iload_n 3, 1) := by decide +kernel
theorem dX6_movesInto_18 : decode cX6_movesInto 18 = .ok (.invokestatic 154, 3) := by decide +kernel
theorem dX6_movesInto_21 : decode cX6_movesInto 21 = .ok (.ifCond .eq 12, 3) := by decide +kernel
theorem dX6_movesInto_24 : decode cX6_movesInto 24 = .ok (.iload 4, 2) := by decide +kernel
theorem dX6_movesInto_26 : decode cX6_movesInto 26 = .ok (.aload_n 1, 1) := by decide +kernel
theorem dX6_movesInto_27 : decode cX6_movesInto 27 = .ok (.getfield 112, 3) := by decide +kernel
theorem dX6_movesInto_30 : decode cX6_movesInto 30 = .ok (.if_icmp .le 15, 3) := by decide +kernel
theorem dX6_movesInto_33 : decode cX6_movesInto 33 = .ok (.aload_n 1, 1) := by decide +kernel
theorem dX6_movesInto_34 : decode cX6_movesInto 34 = .ok (.invokevirtual 157, 3) := by decide +kernel
theorem dX6_movesInto_37 : decode cX6_movesInto 37 = .ok (.aload_n 2, 1) := by decide +kernel
theorem dX6_movesInto_38 : decode cX6_movesInto 38 = .ok (.bipush 6, 2) := by decide +kernel
theorem dX6_movesInto_40 : decode cX6_movesInto 40 = .ok (.putfield 86, 3) := by decide +kernel
theorem dX6_movesInto_43 : decode cX6_movesInto 43 = .ok (.iconst 0, 1) := by decide +kernel
theorem dX6_movesInto_44 : decode cX6_movesInto 44 = .ok (.ireturn, 1) := by decide +kernel
theorem dX6_movesInto_45 : decode cX6_movesInto 45 = .ok (.aload_n 1, 1) := by decide +kernel
theorem dX6_movesInto_46 : decode cX6_movesInto 46 = .ok (.dup, 1) := by decide +kernel
theorem dX6_movesInto_47 : decode cX6_movesInto 47 = .ok (.getfield 112, 3) := by decide +kernel
theorem dX6_movesInto_50 : decode cX6_movesInto 50 = .ok (.iload 4, 2) := by decide +kernel
theorem dX6_movesInto_52 : decode cX6_movesInto 52 = .ok (.isub, 1) := by decide +kernel
theorem dX6_movesInto_53 : decode cX6_movesInto 53 = .ok (.putfield 112, 3) := by decide +kernel
theorem dX6_movesInto_56 : decode cX6_movesInto 56 = .ok (.aload_n 1, 1) := by decide +kernel
theorem dX6_movesInto_57 : decode cX6_movesInto 57 = .ok (.iload_n 3, 1) := by decide +kernel
theorem dX6_movesInto_58 : decode cX6_movesInto 58 = .ok (.putfield 100, 3) := by decide +kernel
theorem dX6_movesInto_61 : decode cX6_movesInto 61 = .ok (.iconst 1, 1) := by decide +kernel
theorem dX6_movesInto_62 : decode cX6_movesInto 62 = .ok (.ireturn, 1) := by decide +kernel
theorem dX6_comeIn_0 : decode cX6_comeIn 0 = .ok (.aload_n 1, 1) := by decide +kernel
theorem dX6_comeIn_1 : decode cX6_comeIn 1 = .ok (.getfield 100, 3) := by decide +kernel
theorem dX6_comeIn_4 : decode cX6_comeIn 4 = .ok (.invokestatic 154, 3) := by decide +kernel
theorem dX6_comeIn_7 : decode cX6_comeIn 7 = .ok (.ifCond .ne 4, 3) := by decide +kernel
theorem dX6_comeIn_10 : decode cX6_comeIn 10 = .ok (.return_, 1) := by decide +kernel
theorem dX6_comeIn_11 : decode cX6_comeIn 11 = .ok (.aload_n 1, 1) := by decide +kernel
theorem dX6_comeIn_12 : decode cX6_comeIn 12 = .ok (.getfield 160, 3) := by decide +kernel
theorem dX6_comeIn_15 : decode cX6_comeIn 15 = .ok (.aload_n 0, 1) := by decide +kernel
theorem dX6_comeIn_16 : decode cX6_comeIn 16 = .ok (.getfield 27, 3) := by decide +kernel
theorem dX6_comeIn_19 : decode cX6_comeIn 19 = .ok (.getfield 163, 3) := by decide +kernel
theorem dX6_comeIn_22 : decode cX6_comeIn 22 = .ok (.aload_n 1, 1) := by decide +kernel
theorem dX6_comeIn_23 : decode cX6_comeIn 23 = .ok (.getfield 100, 3) := by decide +kernel
theorem dX6_comeIn_26 : decode cX6_comeIn 26 = .ok (.iaload, 1) := by decide +kernel
theorem dX6_comeIn_27 : decode cX6_comeIn 27 = .ok (.imul, 1) := by decide +kernel
theorem dX6_comeIn_28 : decode cX6_comeIn 28 = .ok (.istore_n 2, 1) := by decide +kernel
theorem dX6_comeIn_29 : decode cX6_comeIn 29 = .ok (.aload_n 0, 1) := by decide +kernel
theorem dX6_comeIn_30 : decode cX6_comeIn 30 = .ok (.getfield 23, 3) := by decide +kernel
theorem dX6_comeIn_33 : decode cX6_comeIn 33 = .ok (.aload_n 1, 1) := by decide +kernel
theorem dX6_comeIn_34 : decode cX6_comeIn 34 = .ok (.getfield 100, 3) := by decide +kernel
theorem dX6_comeIn_37 : decode cX6_comeIn 37 = .ok (.dup2, 1) := by decide +kernel
theorem dX6_comeIn_38 : decode cX6_comeIn 38 = .ok (.iaload, 1) := by decide +kernel
theorem dX6_comeIn_39 : decode cX6_comeIn 39 = .ok (.iload_n 2, 1) := by decide +kernel
theorem dX6_comeIn_40 : decode cX6_comeIn 40 = .ok (.iadd, 1) := by decide +kernel
theorem dX6_comeIn_41 : decode cX6_comeIn 41 = .ok (.iastore, 1) := by decide +kernel
theorem dX6_comeIn_42 : decode cX6_comeIn 42 = .ok (.aload_n 0, 1) := by decide +kernel
theorem dX6_comeIn_43 : decode cX6_comeIn 43 = .ok (.dup, 1) := by decide +kernel
theorem dX6_comeIn_44 : decode cX6_comeIn 44 = .ok (.getfield 53, 3) := by decide +kernel
theorem dX6_comeIn_47 : decode cX6_comeIn 47 = .ok (.iload_n 2, 1) := by decide +kernel
theorem dX6_comeIn_48 : decode cX6_comeIn 48 = .ok (.iadd, 1) := by decide +kernel
theorem dX6_comeIn_49 : decode cX6_comeIn 49 = .ok (.putfield 53, 3) := by decide +kernel
theorem dX6_comeIn_52 : decode cX6_comeIn 52 = .ok (.aload_n 0, 1) := by decide +kernel
theorem dX6_comeIn_53 : decode cX6_comeIn 53 = .ok (.getfield 27, 3) := by decide +kernel
theorem dX6_comeIn_56 : decode cX6_comeIn 56 = .ok (.aload_n 1, 1) := by decide +kernel
theorem dX6_comeIn_57 : decode cX6_comeIn 57 = .ok (.getfield 100, 3) := by decide +kernel
theorem dX6_comeIn_60 : decode cX6_comeIn 60 = .ok (.aload_n 1, 1) := by decide +kernel
theorem dX6_comeIn_61 : decode cX6_comeIn 61 = .ok (.getfield 166, 3) := by decide +kernel
theorem dX6_comeIn_64 : decode cX6_comeIn 64 = .ok (.aload_n 0, 1) := by decide +kernel
theorem dX6_comeIn_65 : decode cX6_comeIn 65 = .ok (.getfield 59, 3) := by decide +kernel
theorem dX6_comeIn_68 : decode cX6_comeIn 68 = .ok (.invokevirtual 169, 3) := by decide +kernel
theorem dX6_comeIn_71 : decode cX6_comeIn 71 = .ok (.ifCond .eq 13, 3) := by decide +kernel
theorem dX6_comeIn_74 : decode cX6_comeIn 74 = .ok (.aload_n 1, 1) := by decide +kernel
theorem dX6_comeIn_75 : decode cX6_comeIn 75 = .ok (.dup, 1) := by decide +kernel
theorem dX6_comeIn_76 : decode cX6_comeIn 76 = .ok (.getfield 173, 3) := by decide +kernel
theorem dX6_comeIn_79 : decode cX6_comeIn 79 = .ok (.iconst 1, 1) := by decide +kernel
theorem dX6_comeIn_80 : decode cX6_comeIn 80 = .ok (.iadd, 1) := by decide +kernel
theorem dX6_comeIn_81 : decode cX6_comeIn 81 = .ok (.putfield 173, 3) := by decide +kernel
theorem dX6_comeIn_84 : decode cX6_comeIn 84 = .ok (.return_, 1) := by decide +kernel
theorem dX6_pairsNear_0 : decode cX6_pairsNear 0 = .ok (.iconst 0, 1) := by decide +kernel
theorem dX6_pairsNear_1 : decode cX6_pairsNear 1 = .ok (.istore_n 1, 1) := by decide +kernel
theorem dX6_pairsNear_2 : decode cX6_pairsNear 2 = .ok (.iconst 0, 1) := by decide +kernel
theorem dX6_pairsNear_3 : decode cX6_pairsNear 3 = .ok (.istore_n 2, 1) := by decide +kernel
theorem dX6_pairsNear_4 : decode cX6_pairsNear 4 = .ok (.iload_n 2, 1) := by decide +kernel
theorem dX6_pairsNear_5 : decode cX6_pairsNear 5 = .ok (.aload_n 0, 1) := by decide +kernel
theorem dX6_pairsNear_6 : decode cX6_pairsNear 6 = .ok (.getfield 33, 3) := by decide +kernel
theorem dX6_pairsNear_9 : decode cX6_pairsNear 9 = .ok (.if_icmp .ge 77, 3) := by decide +kernel
theorem dX6_pairsNear_12 : decode cX6_pairsNear 12 = .ok (.iload_n 2, 1) := by decide +kernel
theorem dX6_pairsNear_13 : decode cX6_pairsNear 13 = .ok (.iconst 1, 1) := by decide +kernel
theorem dX6_pairsNear_14 : decode cX6_pairsNear 14 = .ok (.iadd, 1) := by decide +kernel
theorem dX6_pairsNear_15 : decode cX6_pairsNear 15 = .ok (.istore_n 3, 1) := by decide +kernel
theorem dX6_pairsNear_16 : decode cX6_pairsNear 16 = .ok (.iload_n 3, 1) := by decide +kernel
theorem dX6_pairsNear_17 : decode cX6_pairsNear 17 = .ok (.aload_n 0, 1) := by decide +kernel
theorem dX6_pairsNear_18 : decode cX6_pairsNear 18 = .ok (.getfield 33, 3) := by decide +kernel
theorem dX6_pairsNear_21 : decode cX6_pairsNear 21 = .ok (.if_icmp .ge 59, 3) := by decide +kernel
theorem dX6_pairsNear_24 : decode cX6_pairsNear 24 = .ok (.aload_n 0, 1) := by decide +kernel
theorem dX6_pairsNear_25 : decode cX6_pairsNear 25 = .ok (.getfield 11, 3) := by decide +kernel
theorem dX6_pairsNear_28 : decode cX6_pairsNear 28 = .ok (.iload_n 2, 1) := by decide +kernel
theorem dX6_pairsNear_29 : decode cX6_pairsNear 29 = .ok (.aaload, 1) := by decide +kernel
theorem dX6_pairsNear_30 : decode cX6_pairsNear 30 = .ok (.getfield 99, 3) := by decide +kernel
theorem dX6_pairsNear_33 : decode cX6_pairsNear 33 = .ok (.iconst 1, 1) := by decide +kernel
theorem dX6_pairsNear_34 : decode cX6_pairsNear 34 = .ok (.if_icmp .ne 40, 3) := by decide +kernel
theorem dX6_pairsNear_37 : decode cX6_pairsNear 37 = .ok (.aload_n 0, 1) := by decide +kernel
theorem dX6_pairsNear_38 : decode cX6_pairsNear 38 = .ok (.getfield 11, 3) := by decide +kernel
theorem dX6_pairsNear_41 : decode cX6_pairsNear 41 = .ok (.iload_n 3, 1) := by decide +kernel
theorem dX6_pairsNear_42 : decode cX6_pairsNear 42 = .ok (.aaload, 1) := by decide +kernel
theorem dX6_pairsNear_43 : decode cX6_pairsNear 43 = .ok (.getfield 99, 3) := by decide +kernel
theorem dX6_pairsNear_46 : decode cX6_pairsNear 46 = .ok (.iconst 1, 1) := by decide +kernel
theorem dX6_pairsNear_47 : decode cX6_pairsNear 47 = .ok (.if_icmp .ne 27, 3) := by decide +kernel
theorem dX6_pairsNear_50 : decode cX6_pairsNear 50 = .ok (.aload_n 0, 1) := by decide +kernel
theorem dX6_pairsNear_51 : decode cX6_pairsNear 51 = .ok (.getfield 11, 3) := by decide +kernel
theorem dX6_pairsNear_54 : decode cX6_pairsNear 54 = .ok (.iload_n 2, 1) := by decide +kernel
theorem dX6_pairsNear_55 : decode cX6_pairsNear 55 = .ok (.aaload, 1) := by decide +kernel
theorem dX6_pairsNear_56 : decode cX6_pairsNear 56 = .ok (.getfield 100, 3) := by decide +kernel
theorem dX6_pairsNear_59 : decode cX6_pairsNear 59 = .ok (.aload_n 0, 1) := by decide +kernel
theorem dX6_pairsNear_60 : decode cX6_pairsNear 60 = .ok (.getfield 11, 3) := by decide +kernel
theorem dX6_pairsNear_63 : decode cX6_pairsNear 63 = .ok (.iload_n 3, 1) := by decide +kernel
theorem dX6_pairsNear_64 : decode cX6_pairsNear 64 = .ok (.aaload, 1) := by decide +kernel
theorem dX6_pairsNear_65 : decode cX6_pairsNear 65 = .ok (.getfield 100, 3) := by decide +kernel
theorem dX6_pairsNear_68 : decode cX6_pairsNear 68 = .ok (.if_icmp .ne 6, 3) := by decide +kernel
theorem dX6_pairsNear_71 : decode cX6_pairsNear 71 = .ok (.iinc 1 1, 3) := by decide +kernel
theorem dX6_pairsNear_74 : decode cX6_pairsNear 74 = .ok (.iinc 3 1, 3) := by decide +kernel
theorem dX6_pairsNear_77 : decode cX6_pairsNear 77 = .ok (.goto (-61), 3) := by decide +kernel
theorem dX6_pairsNear_80 : decode cX6_pairsNear 80 = .ok (.iinc 2 1, 3) := by decide +kernel
theorem dX6_pairsNear_83 : decode cX6_pairsNear 83 = .ok (.goto (-79), 3) := by decide +kernel
theorem dX6_pairsNear_86 : decode cX6_pairsNear 86 = .ok (.iload_n 1, 1) := by decide +kernel
theorem dX6_pairsNear_87 : decode cX6_pairsNear 87 = .ok (.ireturn, 1) := by decide +kernel
theorem dX6_chargeIfLying_0 : decode cX6_chargeIfLying 0 = .ok (.aload_n 1, 1) := by decide +kernel
theorem dX6_chargeIfLying_1 : decode cX6_chargeIfLying 1 = .ok (.getfield 99, 3) := by decide +kernel
theorem dX6_chargeIfLying_4 : decode cX6_chargeIfLying 4 = .ok (.ifCond .ne 31, 3) := by decide +kernel
theorem dX6_chargeIfLying_7 : decode cX6_chargeIfLying 7 = .ok (.aload_n 1, 1) := by decide +kernel
theorem dX6_chargeIfLying_8 : decode cX6_chargeIfLying 8 = .ok (.getfield 176, 3) := by decide +kernel
theorem dX6_chargeIfLying_11 : decode cX6_chargeIfLying 11 = .ok (.aload_n 0, 1) := by decide +kernel
theorem dX6_chargeIfLying_12 : decode cX6_chargeIfLying 12 = .ok (.getfield 59, 3) := by decide +kernel
theorem dX6_chargeIfLying_15 : decode cX6_chargeIfLying 15 = .ok (.if_icmp .eq 20, 3) := by decide +kernel
theorem dX6_chargeIfLying_18 : decode cX6_chargeIfLying 18 = .ok (.aload_n 1, 1) := by decide +kernel
theorem dX6_chargeIfLying_19 : decode cX6_chargeIfLying 19 = .ok (.aload_n 1, 1) := by decide +kernel
theorem dX6_chargeIfLying_20 : decode cX6_chargeIfLying 20 = .ok (.getfield 179, 3) := by decide +kernel
theorem dX6_chargeIfLying_23 : decode cX6_chargeIfLying 23 = .ok (.aload_n 1, 1) := by decide +kernel
theorem dX6_chargeIfLying_24 : decode cX6_chargeIfLying 24 = .ok (.getfield 112, 3) := by decide +kernel
theorem dX6_chargeIfLying_27 : decode cX6_chargeIfLying 27 = .ok (.iconst 3, 1) := by decide +kernel
theorem dX6_chargeIfLying_28 : decode cX6_chargeIfLying 28 = .ok (.iadd, 1) := by decide +kernel
theorem dX6_chargeIfLying_29 : decode cX6_chargeIfLying 29 = .ok (.invokestatic 182, 3) := by decide +kernel
theorem dX6_chargeIfLying_32 : decode cX6_chargeIfLying 32 = .ok (.putfield 112, 3) := by decide +kernel
theorem dX6_chargeIfLying_35 : decode cX6_chargeIfLying 35 = .ok (.return_, 1) := by decide +kernel
theorem dX6_flyingIn_0 : decode cX6_flyingIn 0 = .ok (.iconst 0, 1) := by decide +kernel
theorem dX6_flyingIn_1 : decode cX6_flyingIn 1 = .ok (.istore_n 2, 1) := by decide +kernel
theorem dX6_flyingIn_2 : decode cX6_flyingIn 2 = .ok (.iconst 0, 1) := by decide +kernel
theorem dX6_flyingIn_3 : decode cX6_flyingIn 3 = .ok (.istore_n 3, 1) := by decide +kernel
theorem dX6_flyingIn_4 : decode cX6_flyingIn 4 = .ok (.iload_n 3, 1) := by decide +kernel
theorem dX6_flyingIn_5 : decode cX6_flyingIn 5 = .ok (.aload_n 0, 1) := by decide +kernel
theorem dX6_flyingIn_6 : decode cX6_flyingIn 6 = .ok (.getfield 33, 3) := by decide +kernel
theorem dX6_flyingIn_9 : decode cX6_flyingIn 9 = .ok (.if_icmp .ge 38, 3) := by decide +kernel
theorem dX6_flyingIn_12 : decode cX6_flyingIn 12 = .ok (.aload_n 0, 1) := by decide +kernel
theorem dX6_flyingIn_13 : decode cX6_flyingIn 13 = .ok (.getfield 11, 3) := by decide +kernel
theorem dX6_flyingIn_16 : decode cX6_flyingIn 16 = .ok (.iload_n 3, 1) := by decide +kernel
theorem dX6_flyingIn_17 : decode cX6_flyingIn 17 = .ok (.aaload, 1) := by decide +kernel
theorem dX6_flyingIn_18 : decode cX6_flyingIn 18 = .ok (.getfield 99, 3) := by decide +kernel
theorem dX6_flyingIn_21 : decode cX6_flyingIn 21 = .ok (.iconst 1, 1) := by decide +kernel
theorem dX6_flyingIn_22 : decode cX6_flyingIn 22 = .ok (.if_icmp .ne 19, 3) := by decide +kernel
theorem dX6_flyingIn_25 : decode cX6_flyingIn 25 = .ok (.aload_n 0, 1) := by decide +kernel
theorem dX6_flyingIn_26 : decode cX6_flyingIn 26 = .ok (.getfield 11, 3) := by decide +kernel
theorem dX6_flyingIn_29 : decode cX6_flyingIn 29 = .ok (.iload_n 3, 1) := by decide +kernel
theorem dX6_flyingIn_30 : decode cX6_flyingIn 30 = .ok (.aaload, 1) := by decide +kernel
theorem dX6_flyingIn_31 : decode cX6_flyingIn 31 = .ok (.getfield 100, 3) := by decide +kernel
theorem dX6_flyingIn_34 : decode cX6_flyingIn 34 = .ok (.iload_n 1, 1) := by decide +kernel
theorem dX6_flyingIn_35 : decode cX6_flyingIn 35 = .ok (.if_icmp .ne 6, 3) := by decide +kernel
theorem dX6_flyingIn_38 : decode cX6_flyingIn 38 = .ok (.iinc 2 1, 3) := by decide +kernel
theorem dX6_flyingIn_41 : decode cX6_flyingIn 41 = .ok (.iinc 3 1, 3) := by decide +kernel
theorem dX6_flyingIn_44 : decode cX6_flyingIn 44 = .ok (.goto (-40), 3) := by decide +kernel
theorem dX6_flyingIn_47 : decode cX6_flyingIn 47 = .ok (.iload_n 2, 1) := by decide +kernel
theorem dX6_flyingIn_48 : decode cX6_flyingIn 48 = .ok (.ireturn, 1) := by decide +kernel
theorem dX6_flightsIn_0 : decode cX6_flightsIn 0 = .ok (.iconst 0, 1) := by decide +kernel
theorem dX6_flightsIn_1 : decode cX6_flightsIn 1 = .ok (.istore_n 2, 1) := by decide +kernel
theorem dX6_flightsIn_2 : decode cX6_flightsIn 2 = .ok (.iconst 0, 1) := by decide +kernel
theorem dX6_flightsIn_3 : decode cX6_flightsIn 3 = .ok (.istore_n 3, 1) := by decide +kernel
theorem dX6_flightsIn_4 : decode cX6_flightsIn 4 = .ok (.iload_n 3, 1) := by decide +kernel
theorem dX6_flightsIn_5 : decode cX6_flightsIn 5 = .ok (.aload_n 0, 1) := by decide +kernel
theorem dX6_flightsIn_6 : decode cX6_flightsIn 6 = .ok (.getfield 41, 3) := by decide +kernel
theorem dX6_flightsIn_9 : decode cX6_flightsIn 9 = .ok (.if_icmp .ge 25, 3) := by decide +kernel
theorem dX6_flightsIn_12 : decode cX6_flightsIn 12 = .ok (.aload_n 0, 1) := by decide +kernel
theorem dX6_flightsIn_13 : decode cX6_flightsIn 13 = .ok (.getfield 19, 3) := by decide +kernel
theorem dX6_flightsIn_16 : decode cX6_flightsIn 16 = .ok (.iload_n 3, 1) := by decide +kernel
theorem dX6_flightsIn_17 : decode cX6_flightsIn 17 = .ok (.aaload, 1) := by decide +kernel
theorem dX6_flightsIn_18 : decode cX6_flightsIn 18 = .ok (.getfield 86, 3) := by decide +kernel
theorem dX6_flightsIn_21 : decode cX6_flightsIn 21 = .ok (.iload_n 1, 1) := by decide +kernel
theorem dX6_flightsIn_22 : decode cX6_flightsIn 22 = .ok (.if_icmp .ne 6, 3) := by decide +kernel
theorem dX6_flightsIn_25 : decode cX6_flightsIn 25 = .ok (.iinc 2 1, 3) := by decide +kernel
theorem dX6_flightsIn_28 : decode cX6_flightsIn 28 = .ok (.iinc 3 1, 3) := by decide +kernel
theorem dX6_flightsIn_31 : decode cX6_flightsIn 31 = .ok (.goto (-27), 3) := by decide +kernel
theorem dX6_flightsIn_34 : decode cX6_flightsIn 34 = .ok (.iload_n 2, 1) := by decide +kernel
theorem dX6_flightsIn_35 : decode cX6_flightsIn 35 = .ok (.ireturn, 1) := by decide +kernel
theorem dX6_allBreaches_0 : decode cX6_allBreaches 0 = .ok (.iconst 0, 1) := by decide +kernel
theorem dX6_allBreaches_1 : decode cX6_allBreaches 1 = .ok (.istore_n 1, 1) := by decide +kernel
theorem dX6_allBreaches_2 : decode cX6_allBreaches 2 = .ok (.iconst 0, 1) := by decide +kernel
theorem dX6_allBreaches_3 : decode cX6_allBreaches 3 = .ok (.istore_n 2, 1) := by decide +kernel
theorem dX6_allBreaches_4 : decode cX6_allBreaches 4 = .ok (.iload_n 2, 1) := by decide +kernel
theorem dX6_allBreaches_5 : decode cX6_allBreaches 5 = .ok (.aload_n 0, 1) := by decide +kernel
theorem dX6_allBreaches_6 : decode cX6_allBreaches 6 = .ok (.getfield 33, 3) := by decide +kernel
theorem dX6_allBreaches_9 : decode cX6_allBreaches 9 = .ok (.if_icmp .ge 21, 3) := by decide +kernel
theorem dX6_allBreaches_12 : decode cX6_allBreaches 12 = .ok (.iload_n 1, 1) := by decide +kernel
theorem dX6_allBreaches_13 : decode cX6_allBreaches 13 = .ok (.aload_n 0, 1) := by decide +kernel
theorem dX6_allBreaches_14 : decode cX6_allBreaches 14 = .ok (.getfield 11, 3) := by decide +kernel
theorem dX6_allBreaches_17 : decode cX6_allBreaches 17 = .ok (.iload_n 2, 1) := by decide +kernel
theorem dX6_allBreaches_18 : decode cX6_allBreaches 18 = .ok (.aaload, 1) := by decide +kernel
theorem dX6_allBreaches_19 : decode cX6_allBreaches 19 = .ok (.getfield 173, 3) := by decide +kernel
theorem dX6_allBreaches_22 : decode cX6_allBreaches 22 = .ok (.iadd, 1) := by decide +kernel
theorem dX6_allBreaches_23 : decode cX6_allBreaches 23 = .ok (.istore_n 1, 1) := by decide +kernel
theorem dX6_allBreaches_24 : decode cX6_allBreaches 24 = .ok (.iinc 2 1, 3) := by decide +kernel
theorem dX6_allBreaches_27 : decode cX6_allBreaches 27 = .ok (.goto (-23), 3) := by decide +kernel
theorem dX6_allBreaches_30 : decode cX6_allBreaches 30 = .ok (.iload_n 1, 1) := by decide +kernel
theorem dX6_allBreaches_31 : decode cX6_allBreaches 31 = .ok (.ireturn, 1) := by decide +kernel
theorem dX7_init_0 : decode cX7_init 0 = .ok (.aload_n 0, 1) := by decide +kernel
theorem dX7_init_1 : decode cX7_init 1 = .ok (.invokespecial 3, 3) := by decide +kernel
theorem dX7_init_4 : decode cX7_init 4 = .ok (.return_, 1) := by decide +kernel
theorem dX7_shuts_0 : decode cX7_shuts 0 = .ok (.aload_n 0, 1) := by decide +kernel
theorem dX7_shuts_1 : decode cX7_shuts 1 = .ok (.getfield 9, 3) := by decide +kernel
theorem dX7_shuts_4 : decode cX7_shuts 4 = .ok (.iload_n 1, 1) := by decide +kernel
theorem dX7_shuts_5 : decode cX7_shuts 5 = .ok (.if_icmp .ne 11, 3) := by decide +kernel
theorem dX7_shuts_8 : decode cX7_shuts 8 = .ok (.iload_n 2, 1) := by decide +kernel
theorem dX7_shuts_9 : decode cX7_shuts 9 = .ok (.aload_n 0, 1) := by decide +kernel
theorem dX7_shuts_10 : decode cX7_shuts 10 = .ok (.getfield 15, 3) := by decide +kernel
theorem dX7_shuts_13 : decode cX7_shuts 13 = .ok (.if_icmp .lt 5, 3) := by decide +kernel
theorem dX7_shuts_16 : decode cX7_shuts 16 = .ok (.iconst 0, 1) := by decide +kernel
theorem dX7_shuts_17 : decode cX7_shuts 17 = .ok (.ireturn, 1) := by decide +kernel
theorem dX7_shuts_18 : decode cX7_shuts 18 = .ok (.iload_n 3, 1) := by decide +kernel
theorem dX7_shuts_19 : decode cX7_shuts 19 = .ok (.bipush 60, 2) := by decide +kernel
theorem dX7_shuts_21 : decode cX7_shuts 21 = .ok (.idiv, 1) := by decide +kernel
theorem dX7_shuts_22 : decode cX7_shuts 22 = .ok (.bipush 24, 2) := by decide +kernel
theorem dX7_shuts_24 : decode cX7_shuts 24 = .ok (.irem, 1) := by decide +kernel
theorem dX7_shuts_25 : decode cX7_shuts 25 = .ok (.istore 4, 2) := by decide +kernel
theorem dX7_shuts_27 : decode cX7_shuts 27 = .ok (.aload_n 0, 1) := by decide +kernel
theorem dX7_shuts_28 : decode cX7_shuts 28 = .ok (.getfield 18, 3) := by decide +kernel
theorem dX7_shuts_31 : decode cX7_shuts 31 = .ok (.aload_n 0, 1) := by decide +kernel
theorem dX7_shuts_32 : decode cX7_shuts 32 = .ok (.getfield 21, 3) := by decide +kernel
theorem dX7_shuts_35 : decode cX7_shuts 35 = .ok (.if_icmp .ge 27, 3) := by decide +kernel
theorem dX7_shuts_38 : decode cX7_shuts 38 = .ok (.iload 4, 2) := by decide +kernel
theorem dX7_shuts_40 : decode cX7_shuts 40 = .ok (.aload_n 0, 1) := by decide +kernel
theorem dX7_shuts_41 : decode cX7_shuts 41 = .ok (.getfield 18, 3) := by decide +kernel
theorem dX7_shuts_44 : decode cX7_shuts 44 = .ok (.if_icmp .lt 16, 3) := by decide +kernel
theorem dX7_shuts_47 : decode cX7_shuts 47 = .ok (.iload 4, 2) := by decide +kernel
theorem dX7_shuts_49 : decode cX7_shuts 49 = .ok (.aload_n 0, 1) := by decide +kernel
theorem dX7_shuts_50 : decode cX7_shuts 50 = .ok (.getfield 21, 3) := by decide +kernel
theorem dX7_shuts_53 : decode cX7_shuts 53 = .ok (.if_icmp .ge 7, 3) := by decide +kernel
theorem dX7_shuts_56 : decode cX7_shuts 56 = .ok (.iconst 1, 1) := by decide +kernel
theorem dX7_shuts_57 : decode cX7_shuts 57 = .ok (.goto 4, 3) := by decide +kernel
theorem dX7_shuts_60 : decode cX7_shuts 60 = .ok (.iconst 0, 1) := by decide +kernel
theorem dX7_shuts_61 : decode cX7_shuts 61 = .ok (.ireturn, 1) := by decide +kernel
theorem dX7_shuts_62 : decode cX7_shuts 62 = .ok (.iload 4, 2) := by decide +kernel
theorem dX7_shuts_64 : decode cX7_shuts 64 = .ok (.aload_n 0, 1) := by decide +kernel
theorem dX7_shuts_65 : decode cX7_shuts 65 = .ok (.getfield 18, 3) := by decide +kernel
theorem dX7_shuts_68 : decode cX7_shuts 68 = .ok (.if_icmp .ge 12, 3) := by decide +kernel
theorem dX7_shuts_71 : decode cX7_shuts 71 = .ok (.iload 4, 2) := by decide +kernel
theorem dX7_shuts_73 : decode cX7_shuts 73 = .ok (.aload_n 0, 1) := by decide +kernel
theorem dX7_shuts_74 : decode cX7_shuts 74 = .ok (.getfield 21, 3) := by decide +kernel
theorem dX7_shuts_77 : decode cX7_shuts 77 = .ok (.if_icmp .ge 7, 3) := by decide +kernel
theorem dX7_shuts_80 : decode cX7_shuts 80 = .ok (.iconst 1, 1) := by decide +kernel
theorem dX7_shuts_81 : decode cX7_shuts 81 = .ok (.goto 4, 3) := by decide +kernel
theorem dX7_shuts_84 : decode cX7_shuts 84 = .ok (.iconst 0, 1) := by decide +kernel
theorem dX7_shuts_85 : decode cX7_shuts 85 = .ok (.ireturn, 1) := by decide +kernel
theorem dX8_init_0 : decode cX8_init 0 = .ok (.aload_n 0, 1) := by decide +kernel
theorem dX8_init_1 : decode cX8_init 1 = .ok (.invokespecial 1, 3) := by decide +kernel
theorem dX8_init_4 : decode cX8_init 4 = .ok (.aload_n 0, 1) := by decide +kernel
theorem dX8_init_5 : decode cX8_init 5 = .ok (.new 7, 3) := by decide +kernel
theorem dX8_init_8 : decode cX8_init 8 = .ok (.dup, 1) := by decide +kernel
theorem dX8_init_9 : decode cX8_init 9 = .ok (.invokespecial 9, 3) := by decide +kernel
theorem dX8_init_12 : decode cX8_init 12 = .ok (.putfield 10, 3) := by decide +kernel
theorem dX8_init_15 : decode cX8_init 15 = .ok (.aload_n 0, 1) := by decide +kernel
theorem dX8_init_16 : decode cX8_init 16 = .ok (.new 16, 3) := by decide +kernel
theorem dX8_init_19 : decode cX8_init 19 = .ok (.dup, 1) := by decide +kernel
theorem dX8_init_20 : decode cX8_init 20 = .ok (.aload_n 0, 1) := by decide +kernel
theorem dX8_init_21 : decode cX8_init 21 = .ok (.getfield 10, 3) := by decide +kernel
theorem dX8_init_24 : decode cX8_init 24 = .ok (.invokespecial 18, 3) := by decide +kernel
theorem dX8_init_27 : decode cX8_init 27 = .ok (.putfield 21, 3) := by decide +kernel
theorem dX8_init_30 : decode cX8_init 30 = .ok (.aload_n 0, 1) := by decide +kernel
theorem dX8_init_31 : decode cX8_init 31 = .ok (.new 16, 3) := by decide +kernel
theorem dX8_init_34 : decode cX8_init 34 = .ok (.dup, 1) := by decide +kernel
theorem dX8_init_35 : decode cX8_init 35 = .ok (.aload_n 0, 1) := by decide +kernel
theorem dX8_init_36 : decode cX8_init 36 = .ok (.getfield 10, 3) := by decide +kernel
theorem dX8_init_39 : decode cX8_init 39 = .ok (.invokespecial 18, 3) := by decide +kernel
theorem dX8_init_42 : decode cX8_init 42 = .ok (.putfield 25, 3) := by decide +kernel
theorem dX8_init_45 : decode cX8_init 45 = .ok (.aload_n 0, 1) := by decide +kernel
theorem dX8_init_46 : decode cX8_init 46 = .ok (.new 28, 3) := by decide +kernel
theorem dX8_init_49 : decode cX8_init 49 = .ok (.dup, 1) := by decide +kernel
theorem dX8_init_50 : decode cX8_init 50 = .ok (.invokespecial 30, 3) := by decide +kernel
theorem dX8_init_53 : decode cX8_init 53 = .ok (.putfield 31, 3) := by decide +kernel
end
section
theorem dX8_init_56 : decode cX8_init 56 = .ok (.aload_n 0, 1) := by decide +kernel
theorem dX8_init_57 : decode cX8_init 57 = .ok (.new 35, 3) := by decide +kernel
theorem dX8_init_60 : decode cX8_init 60 = .ok (.dup, 1) := by decide +kernel
theorem dX8_init_61 : decode cX8_init 61 = .ok (.aload_n 0, 1) := by decide +kernel
theorem dX8_init_62 : decode cX8_init 62 = .ok (.getfield 10, 3) := by decide +kernel
theorem dX8_init_65 : decode cX8_init 65 = .ok (.aload_n 0, 1) := by decide +kernel
theorem dX8_init_66 : decode cX8_init 66 = .ok (.getfield 21, 3) := by decide +kernel
theorem dX8_init_69 : decode cX8_init 69 = .ok (.invokespecial 37, 3) := by decide +kernel
theorem dX8_init_72 : decode cX8_init 72 = .ok (.putfield 40, 3) := by decide +kernel
theorem dX8_init_75 : decode cX8_init 75 = .ok (.aload_n 0, 1) := by decide +kernel
theorem dX8_init_76 : decode cX8_init 76 = .ok (.new 44, 3) := by decide +kernel
theorem dX8_init_79 : decode cX8_init 79 = .ok (.dup, 1) := by decide +kernel
theorem dX8_init_80 : decode cX8_init 80 = .ok (.aload_n 0, 1) := by decide +kernel
theorem dX8_init_81 : decode cX8_init 81 = .ok (.getfield 10, 3) := by decide +kernel
theorem dX8_init_84 : decode cX8_init 84 = .ok (.invokespecial 46, 3) := by decide +kernel
theorem dX8_init_87 : decode cX8_init 87 = .ok (.putfield 47, 3) := by decide +kernel
theorem dX8_init_90 : decode cX8_init 90 = .ok (.return_, 1) := by decide +kernel
theorem dX8_houses_0 : decode cX8_houses 0 = .ok (.iload_n 1, 1) := by decide +kernel
theorem dX8_houses_1 : decode cX8_houses 1 = .ok (.invokestatic 51, 3) := by decide +kernel
theorem dX8_houses_4 : decode cX8_houses 4 = .ok (.iload_n 2, 1) := by decide +kernel
theorem dX8_houses_5 : decode cX8_houses 5 = .ok (.ifCond .lt 13, 3) := by decide +kernel
theorem dX8_houses_8 : decode cX8_houses 8 = .ok (.iload_n 2, 1) := by decide +kernel
theorem dX8_houses_9 : decode cX8_houses 9 = .ok (.bipush 9, 2) := by decide +kernel
theorem dX8_houses_11 : decode cX8_houses 11 = .ok (.if_icmp .gt 7, 3) := by decide +kernel
theorem dX8_houses_14 : decode cX8_houses 14 = .ok (.iconst 1, 1) := by decide +kernel
theorem dX8_houses_15 : decode cX8_houses 15 = .ok (.goto 4, 3) := by decide +kernel
theorem dX8_houses_18 : decode cX8_houses 18 = .ok (.iconst 0, 1) := by decide +kernel
theorem dX8_houses_19 : decode cX8_houses 19 = .ok (.invokestatic 55, 3) := by decide +kernel
theorem dX8_houses_22 : decode cX8_houses 22 = .ok (.aload_n 0, 1) := by decide +kernel
theorem dX8_houses_23 : decode cX8_houses 23 = .ok (.getfield 10, 3) := by decide +kernel
theorem dX8_houses_26 : decode cX8_houses 26 = .ok (.getfield 59, 3) := by decide +kernel
theorem dX8_houses_29 : decode cX8_houses 29 = .ok (.iload_n 1, 1) := by decide +kernel
theorem dX8_houses_30 : decode cX8_houses 30 = .ok (.iaload, 1) := by decide +kernel
theorem dX8_houses_31 : decode cX8_houses 31 = .ok (.istore_n 3, 1) := by decide +kernel
theorem dX8_houses_32 : decode cX8_houses 32 = .ok (.aload_n 0, 1) := by decide +kernel
theorem dX8_houses_33 : decode cX8_houses 33 = .ok (.getfield 10, 3) := by decide +kernel
theorem dX8_houses_36 : decode cX8_houses 36 = .ok (.getfield 59, 3) := by decide +kernel
theorem dX8_houses_39 : decode cX8_houses 39 = .ok (.iload_n 1, 1) := by decide +kernel
theorem dX8_houses_40 : decode cX8_houses 40 = .ok (.iload_n 2, 1) := by decide +kernel
theorem dX8_houses_41 : decode cX8_houses 41 = .ok (.iastore, 1) := by decide +kernel
theorem dX8_houses_42 : decode cX8_houses 42 = .ok (.iload_n 3, 1) := by decide +kernel
theorem dX8_houses_43 : decode cX8_houses 43 = .ok (.ireturn, 1) := by decide +kernel
theorem dX8_tower_0 : decode cX8_tower 0 = .ok (.iload_n 1, 1) := by decide +kernel
theorem dX8_tower_1 : decode cX8_tower 1 = .ok (.invokestatic 51, 3) := by decide +kernel
theorem dX8_tower_4 : decode cX8_tower 4 = .ok (.aload_n 0, 1) := by decide +kernel
theorem dX8_tower_5 : decode cX8_tower 5 = .ok (.getfield 10, 3) := by decide +kernel
theorem dX8_tower_8 : decode cX8_tower 8 = .ok (.getfield 63, 3) := by decide +kernel
theorem dX8_tower_11 : decode cX8_tower 11 = .ok (.iload_n 1, 1) := by decide +kernel
theorem dX8_tower_12 : decode cX8_tower 12 = .ok (.iaload, 1) := by decide +kernel
theorem dX8_tower_13 : decode cX8_tower 13 = .ok (.iconst (-1), 1) := by decide +kernel
theorem dX8_tower_14 : decode cX8_tower 14 = .ok (.if_icmp .ne 7, 3) := by decide +kernel
theorem dX8_tower_17 : decode cX8_tower 17 = .ok (.iconst 1, 1) := by decide +kernel
theorem dX8_tower_18 : decode cX8_tower 18 = .ok (.goto 4, 3) := by decide +kernel
theorem dX8_tower_21 : decode cX8_tower 21 = .ok (.iconst 0, 1) := by decide +kernel
theorem dX8_tower_22 : decode cX8_tower 22 = .ok (.invokestatic 66, 3) := by decide +kernel
theorem dX8_tower_25 : decode cX8_tower 25 = .ok (.aload_n 0, 1) := by decide +kernel
theorem dX8_tower_26 : decode cX8_tower 26 = .ok (.getfield 10, 3) := by decide +kernel
theorem dX8_tower_29 : decode cX8_tower 29 = .ok (.getfield 69, 3) := by decide +kernel
theorem dX8_tower_32 : decode cX8_tower 32 = .ok (.iload_n 1, 1) := by decide +kernel
theorem dX8_tower_33 : decode cX8_tower 33 = .ok (.baload, 1) := by decide +kernel
theorem dX8_tower_34 : decode cX8_tower 34 = .ok (.istore_n 3, 1) := by decide +kernel
theorem dX8_tower_35 : decode cX8_tower 35 = .ok (.aload_n 0, 1) := by decide +kernel
theorem dX8_tower_36 : decode cX8_tower 36 = .ok (.getfield 10, 3) := by decide +kernel
theorem dX8_tower_39 : decode cX8_tower 39 = .ok (.getfield 69, 3) := by decide +kernel
theorem dX8_tower_42 : decode cX8_tower 42 = .ok (.iload_n 1, 1) := by decide +kernel
theorem dX8_tower_43 : decode cX8_tower 43 = .ok (.iload_n 2, 1) := by decide +kernel
theorem dX8_tower_44 : decode cX8_tower 44 = .ok (.bastore, 1) := by decide +kernel
theorem dX8_tower_45 : decode cX8_tower 45 = .ok (.iload_n 3, 1) := by decide +kernel
theorem dX8_tower_46 : decode cX8_tower 46 = .ok (.ireturn, 1) := by decide +kernel
theorem dX8_pad_0 : decode cX8_pad 0 = .ok (.iload_n 1, 1) := by decide +kernel
theorem dX8_pad_1 : decode cX8_pad 1 = .ok (.invokestatic 51, 3) := by decide +kernel
theorem dX8_pad_4 : decode cX8_pad 4 = .ok (.aload_n 0, 1) := by decide +kernel
theorem dX8_pad_5 : decode cX8_pad 5 = .ok (.getfield 10, 3) := by decide +kernel
theorem dX8_pad_8 : decode cX8_pad 8 = .ok (.getfield 69, 3) := by decide +kernel
theorem dX8_pad_11 : decode cX8_pad 11 = .ok (.iload_n 1, 1) := by decide +kernel
theorem dX8_pad_12 : decode cX8_pad 12 = .ok (.baload, 1) := by decide +kernel
theorem dX8_pad_13 : decode cX8_pad 13 = .ok (.ifCond .ne 20, 3) := by decide +kernel
theorem dX8_pad_16 : decode cX8_pad 16 = .ok (.aload_n 0, 1) := by decide +kernel
theorem dX8_pad_17 : decode cX8_pad 17 = .ok (.getfield 10, 3) := by decide +kernel
theorem dX8_pad_20 : decode cX8_pad 20 = .ok (.getfield 63, 3) := by decide +kernel
theorem dX8_pad_23 : decode cX8_pad 23 = .ok (.iload_n 1, 1) := by decide +kernel
theorem dX8_pad_24 : decode cX8_pad 24 = .ok (.iaload, 1) := by decide +kernel
theorem dX8_pad_25 : decode cX8_pad 25 = .ok (.iconst (-1), 1) := by decide +kernel
theorem dX8_pad_26 : decode cX8_pad 26 = .ok (.if_icmp .ne 7, 3) := by decide +kernel
theorem dX8_pad_29 : decode cX8_pad 29 = .ok (.iconst 1, 1) := by decide +kernel
theorem dX8_pad_30 : decode cX8_pad 30 = .ok (.goto 4, 3) := by decide +kernel
theorem dX8_pad_33 : decode cX8_pad 33 = .ok (.iconst 0, 1) := by decide +kernel
theorem dX8_pad_34 : decode cX8_pad 34 = .ok (.invokestatic 55, 3) := by decide +kernel
theorem dX8_pad_37 : decode cX8_pad 37 = .ok (.aload_n 0, 1) := by decide +kernel
theorem dX8_pad_38 : decode cX8_pad 38 = .ok (.getfield 10, 3) := by decide +kernel
theorem dX8_pad_41 : decode cX8_pad 41 = .ok (.getfield 73, 3) := by decide +kernel
theorem dX8_pad_44 : decode cX8_pad 44 = .ok (.iconst 5, 1) := by decide +kernel
theorem dX8_pad_45 : decode cX8_pad 45 = .ok (.if_icmp .ge 7, 3) := by decide +kernel
theorem dX8_pad_48 : decode cX8_pad 48 = .ok (.iconst 1, 1) := by decide +kernel
theorem dX8_pad_49 : decode cX8_pad 49 = .ok (.goto 4, 3) := by decide +kernel
theorem dX8_pad_52 : decode cX8_pad 52 = .ok (.iconst 0, 1) := by decide +kernel
theorem dX8_pad_53 : decode cX8_pad 53 = .ok (.invokestatic 66, 3) := by decide +kernel
theorem dX8_pad_56 : decode cX8_pad 56 = .ok (.aload_n 0, 1) := by decide +kernel
theorem dX8_pad_57 : decode cX8_pad 57 = .ok (.getfield 10, 3) := by decide +kernel
theorem dX8_pad_60 : decode cX8_pad 60 = .ok (.iload_n 1, 1) := by decide +kernel
theorem dX8_pad_61 : decode cX8_pad 61 = .ok (.invokevirtual 77, 3) := by decide +kernel
theorem dX8_pad_64 : decode cX8_pad 64 = .ok (.ireturn, 1) := by decide +kernel
theorem dX8_zone_0 : decode cX8_zone 0 = .ok (.iload_n 1, 1) := by decide +kernel
theorem dX8_zone_1 : decode cX8_zone 1 = .ok (.invokestatic 51, 3) := by decide +kernel
theorem dX8_zone_4 : decode cX8_zone 4 = .ok (.iload_n 2, 1) := by decide +kernel
theorem dX8_zone_5 : decode cX8_zone 5 = .ok (.ifCond .lt 23, 3) := by decide +kernel
theorem dX8_zone_8 : decode cX8_zone 8 = .ok (.iload_n 2, 1) := by decide +kernel
theorem dX8_zone_9 : decode cX8_zone 9 = .ok (.bipush 24, 2) := by decide +kernel
theorem dX8_zone_11 : decode cX8_zone 11 = .ok (.if_icmp .ge 17, 3) := by decide +kernel
theorem dX8_zone_14 : decode cX8_zone 14 = .ok (.iload_n 3, 1) := by decide +kernel
theorem dX8_zone_15 : decode cX8_zone 15 = .ok (.ifCond .lt 13, 3) := by decide +kernel
theorem dX8_zone_18 : decode cX8_zone 18 = .ok (.iload_n 3, 1) := by decide +kernel
theorem dX8_zone_19 : decode cX8_zone 19 = .ok (.bipush 24, 2) := by decide +kernel
theorem dX8_zone_21 : decode cX8_zone 21 = .ok (.if_icmp .ge 7, 3) := by decide +kernel
theorem dX8_zone_24 : decode cX8_zone 24 = .ok (.iconst 1, 1) := by decide +kernel
theorem dX8_zone_25 : decode cX8_zone 25 = .ok (.goto 4, 3) := by decide +kernel
theorem dX8_zone_28 : decode cX8_zone 28 = .ok (.iconst 0, 1) := by decide +kernel
theorem dX8_zone_29 : decode cX8_zone 29 = .ok (.invokestatic 55, 3) := by decide +kernel
theorem dX8_zone_32 : decode cX8_zone 32 = .ok (.iload 4, 2) := by decide +kernel
theorem dX8_zone_34 : decode cX8_zone 34 = .ok (.iconst 1, 1) := by decide +kernel
theorem dX8_zone_35 : decode cX8_zone 35 = .ok (.if_icmp .lt 13, 3) := by decide +kernel
theorem dX8_zone_38 : decode cX8_zone 38 = .ok (.iload 4, 2) := by decide +kernel
theorem dX8_zone_40 : decode cX8_zone 40 = .ok (.iconst 4, 1) := by decide +kernel
theorem dX8_zone_41 : decode cX8_zone 41 = .ok (.if_icmp .gt 7, 3) := by decide +kernel
theorem dX8_zone_44 : decode cX8_zone 44 = .ok (.iconst 1, 1) := by decide +kernel
theorem dX8_zone_45 : decode cX8_zone 45 = .ok (.goto 4, 3) := by decide +kernel
theorem dX8_zone_48 : decode cX8_zone 48 = .ok (.iconst 0, 1) := by decide +kernel
theorem dX8_zone_49 : decode cX8_zone 49 = .ok (.invokestatic 55, 3) := by decide +kernel
theorem dX8_zone_52 : decode cX8_zone 52 = .ok (.aload_n 0, 1) := by decide +kernel
theorem dX8_zone_53 : decode cX8_zone 53 = .ok (.getfield 10, 3) := by decide +kernel
theorem dX8_zone_56 : decode cX8_zone 56 = .ok (.getfield 81, 3) := by decide +kernel
theorem dX8_zone_59 : decode cX8_zone 59 = .ok (.bipush 6, 2) := by decide +kernel
theorem dX8_zone_61 : decode cX8_zone 61 = .ok (.if_icmp .ge 7, 3) := by decide +kernel
theorem dX8_zone_64 : decode cX8_zone 64 = .ok (.iconst 1, 1) := by decide +kernel
theorem dX8_zone_65 : decode cX8_zone 65 = .ok (.goto 4, 3) := by decide +kernel
theorem dX8_zone_68 : decode cX8_zone 68 = .ok (.iconst 0, 1) := by decide +kernel
theorem dX8_zone_69 : decode cX8_zone 69 = .ok (.invokestatic 66, 3) := by decide +kernel
theorem dX8_zone_72 : decode cX8_zone 72 = .ok (.aload_n 0, 1) := by decide +kernel
theorem dX8_zone_73 : decode cX8_zone 73 = .ok (.getfield 10, 3) := by decide +kernel
theorem dX8_zone_76 : decode cX8_zone 76 = .ok (.iload_n 1, 1) := by decide +kernel
theorem dX8_zone_77 : decode cX8_zone 77 = .ok (.iload_n 2, 1) := by decide +kernel
theorem dX8_zone_78 : decode cX8_zone 78 = .ok (.iload_n 3, 1) := by decide +kernel
theorem dX8_zone_79 : decode cX8_zone 79 = .ok (.iload 4, 2) := by decide +kernel
theorem dX8_zone_81 : decode cX8_zone 81 = .ok (.invokevirtual 84, 3) := by decide +kernel
theorem dX8_zone_84 : decode cX8_zone 84 = .ok (.ireturn, 1) := by decide +kernel
theorem dX8_wind_0 : decode cX8_wind 0 = .ok (.iload_n 1, 1) := by decide +kernel
theorem dX8_wind_1 : decode cX8_wind 1 = .ok (.ifCond .lt 21, 3) := by decide +kernel
theorem dX8_wind_4 : decode cX8_wind 4 = .ok (.iload_n 1, 1) := by decide +kernel
theorem dX8_wind_5 : decode cX8_wind 5 = .ok (.iconst 4, 1) := by decide +kernel
theorem dX8_wind_6 : decode cX8_wind 6 = .ok (.if_icmp .ge 16, 3) := by decide +kernel
theorem dX8_wind_9 : decode cX8_wind 9 = .ok (.iload_n 2, 1) := by decide +kernel
theorem dX8_wind_10 : decode cX8_wind 10 = .ok (.ifCond .lt 12, 3) := by decide +kernel
theorem dX8_wind_13 : decode cX8_wind 13 = .ok (.iload_n 2, 1) := by decide +kernel
theorem dX8_wind_14 : decode cX8_wind 14 = .ok (.iconst 3, 1) := by decide +kernel
theorem dX8_wind_15 : decode cX8_wind 15 = .ok (.if_icmp .gt 7, 3) := by decide +kernel
theorem dX8_wind_18 : decode cX8_wind 18 = .ok (.iconst 1, 1) := by decide +kernel
theorem dX8_wind_19 : decode cX8_wind 19 = .ok (.goto 4, 3) := by decide +kernel
theorem dX8_wind_22 : decode cX8_wind 22 = .ok (.iconst 0, 1) := by decide +kernel
theorem dX8_wind_23 : decode cX8_wind 23 = .ok (.invokestatic 55, 3) := by decide +kernel
theorem dX8_wind_26 : decode cX8_wind 26 = .ok (.aload_n 0, 1) := by decide +kernel
theorem dX8_wind_27 : decode cX8_wind 27 = .ok (.getfield 10, 3) := by decide +kernel
theorem dX8_wind_30 : decode cX8_wind 30 = .ok (.getfield 88, 3) := by decide +kernel
theorem dX8_wind_33 : decode cX8_wind 33 = .ok (.istore_n 3, 1) := by decide +kernel
theorem dX8_wind_34 : decode cX8_wind 34 = .ok (.aload_n 0, 1) := by decide +kernel
theorem dX8_wind_35 : decode cX8_wind 35 = .ok (.getfield 10, 3) := by decide +kernel
theorem dX8_wind_38 : decode cX8_wind 38 = .ok (.iload_n 1, 1) := by decide +kernel
theorem dX8_wind_39 : decode cX8_wind 39 = .ok (.putfield 91, 3) := by decide +kernel
theorem dX8_wind_42 : decode cX8_wind 42 = .ok (.aload_n 0, 1) := by decide +kernel
theorem dX8_wind_43 : decode cX8_wind 43 = .ok (.getfield 10, 3) := by decide +kernel
theorem dX8_wind_46 : decode cX8_wind 46 = .ok (.iload_n 2, 1) := by decide +kernel
theorem dX8_wind_47 : decode cX8_wind 47 = .ok (.putfield 88, 3) := by decide +kernel
theorem dX8_wind_50 : decode cX8_wind 50 = .ok (.iload_n 3, 1) := by decide +kernel
theorem dX8_wind_51 : decode cX8_wind 51 = .ok (.ireturn, 1) := by decide +kernel
theorem dX8_craft_0 : decode cX8_craft 0 = .ok (.iload_n 1, 1) := by decide +kernel
theorem dX8_craft_1 : decode cX8_craft 1 = .ok (.ifCond .lt 18, 3) := by decide +kernel
theorem dX8_craft_4 : decode cX8_craft 4 = .ok (.iload_n 1, 1) := by decide +kernel
theorem dX8_craft_5 : decode cX8_craft 5 = .ok (.aload_n 0, 1) := by decide +kernel
theorem dX8_craft_6 : decode cX8_craft 6 = .ok (.getfield 10, 3) := by decide +kernel
theorem dX8_craft_9 : decode cX8_craft 9 = .ok (.getfield 73, 3) := by decide +kernel
theorem dX8_craft_12 : decode cX8_craft 12 = .ok (.if_icmp .ge 7, 3) := by decide +kernel
theorem dX8_craft_15 : decode cX8_craft 15 = .ok (.iconst 1, 1) := by decide +kernel
theorem dX8_craft_16 : decode cX8_craft 16 = .ok (.goto 4, 3) := by decide +kernel
theorem dX8_craft_19 : decode cX8_craft 19 = .ok (.iconst 0, 1) := by decide +kernel
theorem dX8_craft_20 : decode cX8_craft 20 = .ok (.invokestatic 94, 3) := by decide +kernel
theorem dX8_craft_23 : decode cX8_craft 23 = .ok (.iload_n 2, 1) := by decide +kernel
theorem dX8_craft_24 : decode cX8_craft 24 = .ok (.ifCond .lt 12, 3) := by decide +kernel
theorem dX8_craft_27 : decode cX8_craft 27 = .ok (.iload_n 2, 1) := by decide +kernel
theorem dX8_craft_28 : decode cX8_craft 28 = .ok (.iconst 3, 1) := by decide +kernel
theorem dX8_craft_29 : decode cX8_craft 29 = .ok (.if_icmp .gt 7, 3) := by decide +kernel
theorem dX8_craft_32 : decode cX8_craft 32 = .ok (.iconst 1, 1) := by decide +kernel
theorem dX8_craft_33 : decode cX8_craft 33 = .ok (.goto 4, 3) := by decide +kernel
theorem dX8_craft_36 : decode cX8_craft 36 = .ok (.iconst 0, 1) := by decide +kernel
theorem dX8_craft_37 : decode cX8_craft 37 = .ok (.invokestatic 55, 3) := by decide +kernel
theorem dX8_craft_40 : decode cX8_craft 40 = .ok (.iload_n 3, 1) := by decide +kernel
theorem dX8_craft_41 : decode cX8_craft 41 = .ok (.bipush 10, 2) := by decide +kernel
theorem dX8_craft_43 : decode cX8_craft 43 = .ok (.if_icmp .lt 14, 3) := by decide +kernel
theorem dX8_craft_46 : decode cX8_craft 46 = .ok (.iload_n 3, 1) := by decide +kernel
theorem dX8_craft_47 : decode cX8_craft 47 = .ok (.sipush 200, 3) := by decide +kernel
theorem dX8_craft_50 : decode cX8_craft 50 = .ok (.if_icmp .gt 7, 3) := by decide +kernel
theorem dX8_craft_53 : decode cX8_craft 53 = .ok (.iconst 1, 1) := by decide +kernel
theorem dX8_craft_54 : decode cX8_craft 54 = .ok (.goto 4, 3) := by decide +kernel
theorem dX8_craft_57 : decode cX8_craft 57 = .ok (.iconst 0, 1) := by decide +kernel
theorem dX8_craft_58 : decode cX8_craft 58 = .ok (.invokestatic 55, 3) := by decide +kernel
theorem dX8_craft_61 : decode cX8_craft 61 = .ok (.iload 4, 2) := by decide +kernel
theorem dX8_craft_63 : decode cX8_craft 63 = .ok (.ifCond .lt 14, 3) := by decide +kernel
theorem dX8_craft_66 : decode cX8_craft 66 = .ok (.iload 4, 2) := by decide +kernel
theorem dX8_craft_68 : decode cX8_craft 68 = .ok (.bipush 9, 2) := by decide +kernel
theorem dX8_craft_70 : decode cX8_craft 70 = .ok (.if_icmp .gt 7, 3) := by decide +kernel
theorem dX8_craft_73 : decode cX8_craft 73 = .ok (.iconst 1, 1) := by decide +kernel
theorem dX8_craft_74 : decode cX8_craft 74 = .ok (.goto 4, 3) := by decide +kernel
theorem dX8_craft_77 : decode cX8_craft 77 = .ok (.iconst 0, 1) := by decide +kernel
theorem dX8_craft_78 : decode cX8_craft 78 = .ok (.invokestatic 55, 3) := by decide +kernel
theorem dX8_craft_81 : decode cX8_craft 81 = .ok (.aload_n 0, 1) := by decide +kernel
theorem dX8_craft_82 : decode cX8_craft 82 = .ok (.getfield 21, 3) := by decide +kernel
theorem dX8_craft_85 : decode cX8_craft 85 = .ok (.getfield 97, 3) := by decide +kernel
theorem dX8_craft_88 : decode cX8_craft 88 = .ok (.bipush 6, 2) := by decide +kernel
theorem dX8_craft_90 : decode cX8_craft 90 = .ok (.if_icmp .ge 7, 3) := by decide +kernel
theorem dX8_craft_93 : decode cX8_craft 93 = .ok (.iconst 1, 1) := by decide +kernel
theorem dX8_craft_94 : decode cX8_craft 94 = .ok (.goto 4, 3) := by decide +kernel
theorem dX8_craft_97 : decode cX8_craft 97 = .ok (.iconst 0, 1) := by decide +kernel
theorem dX8_craft_98 : decode cX8_craft 98 = .ok (.invokestatic 66, 3) := by decide +kernel
theorem dX8_craft_101 : decode cX8_craft 101 = .ok (.aload_n 0, 1) := by decide +kernel
theorem dX8_craft_102 : decode cX8_craft 102 = .ok (.getfield 21, 3) := by decide +kernel
theorem dX8_craft_105 : decode cX8_craft 105 = .ok (.getfield 100, 3) := by decide +kernel
theorem dX8_craft_108 : decode cX8_craft 108 = .ok (.aload_n 0, 1) := by decide +kernel
theorem dX8_craft_109 : decode cX8_craft 109 = .ok (.getfield 21, 3) := by decide +kernel
theorem dX8_craft_112 : decode cX8_craft 112 = .ok (.getfield 97, 3) := by decide +kernel
theorem dX8_craft_115 : decode cX8_craft 115 = .ok (.aaload, 1) := by decide +kernel
theorem dX8_craft_116 : decode cX8_craft 116 = .ok (.astore 5, 2) := by decide +kernel
theorem dX8_craft_118 : decode cX8_craft 118 = .ok (.aload 5, 2) := by decide +kernel
theorem dX8_craft_120 : decode cX8_craft 120 = .ok (.iload_n 2, 1) := by decide +kernel
theorem dX8_craft_121 : decode cX8_craft 121 = .ok (.putfield 104, 3) := by decide +kernel
theorem dX8_craft_124 : decode cX8_craft 124 = .ok (.aload 5, 2) := by decide +kernel
theorem dX8_craft_126 : decode cX8_craft 126 = .ok (.iload_n 1, 1) := by decide +kernel
theorem dX8_craft_127 : decode cX8_craft 127 = .ok (.putfield 109, 3) := by decide +kernel
theorem dX8_craft_130 : decode cX8_craft 130 = .ok (.aload 5, 2) := by decide +kernel
theorem dX8_craft_132 : decode cX8_craft 132 = .ok (.aload_n 0, 1) := by decide +kernel
theorem dX8_craft_133 : decode cX8_craft 133 = .ok (.getfield 10, 3) := by decide +kernel
theorem dX8_craft_136 : decode cX8_craft 136 = .ok (.getfield 112, 3) := by decide +kernel
theorem dX8_craft_139 : decode cX8_craft 139 = .ok (.iload_n 1, 1) := by decide +kernel
theorem dX8_craft_140 : decode cX8_craft 140 = .ok (.iaload, 1) := by decide +kernel
theorem dX8_craft_141 : decode cX8_craft 141 = .ok (.putfield 115, 3) := by decide +kernel
theorem dX8_craft_144 : decode cX8_craft 144 = .ok (.aload 5, 2) := by decide +kernel
theorem dX8_craft_146 : decode cX8_craft 146 = .ok (.iload_n 3, 1) := by decide +kernel
theorem dX8_craft_147 : decode cX8_craft 147 = .ok (.putfield 118, 3) := by decide +kernel
theorem dX8_craft_150 : decode cX8_craft 150 = .ok (.aload 5, 2) := by decide +kernel
theorem dX8_craft_152 : decode cX8_craft 152 = .ok (.iload_n 3, 1) := by decide +kernel
theorem dX8_craft_153 : decode cX8_craft 153 = .ok (.putfield 121, 3) := by decide +kernel
theorem dX8_craft_156 : decode cX8_craft 156 = .ok (.aload 5, 2) := by decide +kernel
theorem dX8_craft_158 : decode cX8_craft 158 = .ok (.iload 4, 2) := by decide +kernel
theorem dX8_craft_160 : decode cX8_craft 160 = .ok (.putfield 124, 3) := by decide +kernel
theorem dX8_craft_163 : decode cX8_craft 163 = .ok (.aload 5, 2) := by decide +kernel
theorem dX8_craft_165 : decode cX8_craft 165 = .ok (.aload 5, 2) := by decide +kernel
theorem dX8_craft_167 : decode cX8_craft 167 = .ok (.getfield 115, 3) := by decide +kernel
theorem dX8_craft_170 : decode cX8_craft 170 = .ok (.putfield 127, 3) := by decide +kernel
theorem dX8_craft_173 : decode cX8_craft 173 = .ok (.aload_n 0, 1) := by decide +kernel
theorem dX8_craft_174 : decode cX8_craft 174 = .ok (.getfield 21, 3) := by decide +kernel
theorem dX8_craft_177 : decode cX8_craft 177 = .ok (.dup, 1) := by decide +kernel
theorem dX8_craft_178 : decode cX8_craft 178 = .ok (.getfield 97, 3) := by decide +kernel
theorem dX8_craft_181 : decode cX8_craft 181 = .ok (.dup_x1, 1) := by decide +kernel
theorem dX8_craft_182 : decode cX8_craft 182 = .ok (.iconst 1, 1) := by decide +kernel
theorem dX8_craft_183 : decode cX8_craft 183 = .ok (.iadd, 1) := by decide +kernel
theorem dX8_craft_184 : decode cX8_craft 184 = .ok (.putfield 97, 3) := by decide +kernel
theorem dX8_craft_187 : decode cX8_craft 187 = .ok (.ireturn, 1) := by decide +kernel
theorem dX8_link_0 : decode cX8_link 0 = .ok (.aload_n 0, 1) := by decide +kernel
theorem dX8_link_1 : decode cX8_link 1 = .ok (.iload_n 1, 1) := by decide +kernel
theorem dX8_link_2 : decode cX8_link 2 = .ok (.invokevirtual 130, 3) := by decide +kernel
theorem dX8_link_5 : decode cX8_link 5 = .ok (.aload_n 0, 1) := by decide +kernel
theorem dX8_link_6 : decode cX8_link 6 = .ok (.getfield 21, 3) := by decide +kernel
theorem dX8_link_9 : decode cX8_link 9 = .ok (.getfield 100, 3) := by decide +kernel
theorem dX8_link_12 : decode cX8_link 12 = .ok (.iload_n 1, 1) := by decide +kernel
theorem dX8_link_13 : decode cX8_link 13 = .ok (.aaload, 1) := by decide +kernel
theorem dX8_link_14 : decode cX8_link 14 = .ok (.getfield 133, 3) := by decide +kernel
theorem dX8_link_17 : decode cX8_link 17 = .ok (.istore_n 3, 1) := by decide +kernel
theorem dX8_link_18 : decode cX8_link 18 = .ok (.aload_n 0, 1) := by decide +kernel
theorem dX8_link_19 : decode cX8_link 19 = .ok (.getfield 21, 3) := by decide +kernel
theorem dX8_link_22 : decode cX8_link 22 = .ok (.getfield 100, 3) := by decide +kernel
theorem dX8_link_25 : decode cX8_link 25 = .ok (.iload_n 1, 1) := by decide +kernel
theorem dX8_link_26 : decode cX8_link 26 = .ok (.aaload, 1) := by decide +kernel
theorem dX8_link_27 : decode cX8_link 27 = .ok (.iload_n 2, 1) := by decide +kernel
theorem dX8_link_28 : decode cX8_link 28 = .ok (.putfield 133, 3) := by decide +kernel
theorem dX8_link_31 : decode cX8_link 31 = .ok (.iload_n 3, 1) := by decide +kernel
theorem dX8_link_32 : decode cX8_link 32 = .ok (.ireturn, 1) := by decide +kernel
theorem dX8_fetch_0 : decode cX8_fetch 0 = .ok (.aload_n 0, 1) := by decide +kernel
theorem dX8_fetch_1 : decode cX8_fetch 1 = .ok (.iload_n 1, 1) := by decide +kernel
theorem dX8_fetch_2 : decode cX8_fetch 2 = .ok (.invokevirtual 130, 3) := by decide +kernel
theorem dX8_fetch_5 : decode cX8_fetch 5 = .ok (.aload_n 0, 1) := by decide +kernel
theorem dX8_fetch_6 : decode cX8_fetch 6 = .ok (.getfield 21, 3) := by decide +kernel
theorem dX8_fetch_9 : decode cX8_fetch 9 = .ok (.getfield 100, 3) := by decide +kernel
theorem dX8_fetch_12 : decode cX8_fetch 12 = .ok (.iload_n 1, 1) := by decide +kernel
theorem dX8_fetch_13 : decode cX8_fetch 13 = .ok (.aaload, 1) := by decide +kernel
theorem dX8_fetch_14 : decode cX8_fetch 14 = .ok (.astore_n 2, 1) := by decide +kernel
theorem dX8_fetch_15 : decode cX8_fetch 15 = .ok (.aload_n 2, 1) := by decide +kernel
theorem dX8_fetch_16 : decode cX8_fetch 16 = .ok (.getfield 137, 3) := by decide +kernel
theorem dX8_fetch_19 : decode cX8_fetch 19 = .ok (.iconst 2, 1) := by decide +kernel
theorem dX8_fetch_20 : decode cX8_fetch 20 = .ok (.if_icmp .ne 7, 3) := by decide +kernel
theorem dX8_fetch_23 : decode cX8_fetch 23 = .ok (.iconst 1, 1) := by decide +kernel
theorem dX8_fetch_24 : decode cX8_fetch 24 = .ok (.goto 4, 3) := by decide +kernel
theorem dX8_fetch_27 : decode cX8_fetch 27 = .ok (.iconst 0, 1) := by decide +kernel
theorem dX8_fetch_28 : decode cX8_fetch 28 = .ok (.invokestatic 66, 3) := by decide +kernel
theorem dX8_fetch_31 : decode cX8_fetch 31 = .ok (.aload_n 2, 1) := by decide +kernel
theorem dX8_fetch_32 : decode cX8_fetch 32 = .ok (.getfield 127, 3) := by decide +kernel
theorem dX8_fetch_35 : decode cX8_fetch 35 = .ok (.istore_n 3, 1) := by decide +kernel
theorem dX8_fetch_36 : decode cX8_fetch 36 = .ok (.aload_n 2, 1) := by decide +kernel
theorem dX8_fetch_37 : decode cX8_fetch 37 = .ok (.iconst 0, 1) := by decide +kernel
theorem dX8_fetch_38 : decode cX8_fetch 38 = .ok (.putfield 137, 3) := by decide +kernel
theorem dX8_fetch_41 : decode cX8_fetch 41 = .ok (.aload_n 2, 1) := by decide +kernel
theorem dX8_fetch_42 : decode cX8_fetch 42 = .ok (.aload_n 2, 1) := by decide +kernel
theorem dX8_fetch_43 : decode cX8_fetch 43 = .ok (.getfield 115, 3) := by decide +kernel
theorem dX8_fetch_46 : decode cX8_fetch 46 = .ok (.putfield 127, 3) := by decide +kernel
theorem dX8_fetch_49 : decode cX8_fetch 49 = .ok (.iload_n 3, 1) := by decide +kernel
theorem dX8_fetch_50 : decode cX8_fetch 50 = .ok (.ireturn, 1) := by decide +kernel
theorem dX8_draft_0 : decode cX8_draft 0 = .ok (.iload_n 1, 1) := by decide +kernel
theorem dX8_draft_1 : decode cX8_draft 1 = .ok (.invokestatic 51, 3) := by decide +kernel
theorem dX8_draft_4 : decode cX8_draft 4 = .ok (.aload_n 0, 1) := by decide +kernel
theorem dX8_draft_5 : decode cX8_draft 5 = .ok (.getfield 31, 3) := by decide +kernel
theorem dX8_draft_8 : decode cX8_draft 8 = .ok (.getfield 140, 3) := by decide +kernel
theorem dX8_draft_11 : decode cX8_draft 11 = .ok (.bipush 10, 2) := by decide +kernel
theorem dX8_draft_13 : decode cX8_draft 13 = .ok (.if_icmp .ge 7, 3) := by decide +kernel
theorem dX8_draft_16 : decode cX8_draft 16 = .ok (.iconst 1, 1) := by decide +kernel
theorem dX8_draft_17 : decode cX8_draft 17 = .ok (.goto 4, 3) := by decide +kernel
theorem dX8_draft_20 : decode cX8_draft 20 = .ok (.iconst 0, 1) := by decide +kernel
theorem dX8_draft_21 : decode cX8_draft 21 = .ok (.invokestatic 66, 3) := by decide +kernel
theorem dX8_draft_24 : decode cX8_draft 24 = .ok (.aload_n 0, 1) := by decide +kernel
theorem dX8_draft_25 : decode cX8_draft 25 = .ok (.getfield 31, 3) := by decide +kernel
theorem dX8_draft_28 : decode cX8_draft 28 = .ok (.getfield 143, 3) := by decide +kernel
theorem dX8_draft_31 : decode cX8_draft 31 = .ok (.aload_n 0, 1) := by decide +kernel
theorem dX8_draft_32 : decode cX8_draft 32 = .ok (.getfield 31, 3) := by decide +kernel
theorem dX8_draft_35 : decode cX8_draft 35 = .ok (.getfield 140, 3) := by decide +kernel
theorem dX8_draft_38 : decode cX8_draft 38 = .ok (.iload_n 1, 1) := by decide +kernel
theorem dX8_draft_39 : decode cX8_draft 39 = .ok (.iastore, 1) := by decide +kernel
theorem dX8_draft_40 : decode cX8_draft 40 = .ok (.aload_n 0, 1) := by decide +kernel
theorem dX8_draft_41 : decode cX8_draft 41 = .ok (.getfield 31, 3) := by decide +kernel
theorem dX8_draft_44 : decode cX8_draft 44 = .ok (.dup, 1) := by decide +kernel
theorem dX8_draft_45 : decode cX8_draft 45 = .ok (.getfield 140, 3) := by decide +kernel
theorem dX8_draft_48 : decode cX8_draft 48 = .ok (.iconst 1, 1) := by decide +kernel
theorem dX8_draft_49 : decode cX8_draft 49 = .ok (.iadd, 1) := by decide +kernel
theorem dX8_draft_50 : decode cX8_draft 50 = .ok (.putfield 140, 3) := by decide +kernel
theorem dX8_draft_53 : decode cX8_draft 53 = .ok (.aload_n 0, 1) := by decide +kernel
theorem dX8_draft_54 : decode cX8_draft 54 = .ok (.getfield 31, 3) := by decide +kernel
theorem dX8_draft_57 : decode cX8_draft 57 = .ok (.getfield 140, 3) := by decide +kernel
theorem dX8_draft_60 : decode cX8_draft 60 = .ok (.ireturn, 1) := by decide +kernel
theorem dX8_clear_0 : decode cX8_clear 0 = .ok (.aload_n 0, 1) := by decide +kernel
theorem dX8_clear_1 : decode cX8_clear 1 = .ok (.getfield 31, 3) := by decide +kernel
theorem dX8_clear_4 : decode cX8_clear 4 = .ok (.getfield 140, 3) := by decide +kernel
theorem dX8_clear_7 : decode cX8_clear 7 = .ok (.istore_n 1, 1) := by decide +kernel
theorem dX8_clear_8 : decode cX8_clear 8 = .ok (.aload_n 0, 1) := by decide +kernel
theorem dX8_clear_9 : decode cX8_clear 9 = .ok (.getfield 31, 3) := by decide +kernel
theorem dX8_clear_12 : decode cX8_clear 12 = .ok (.iconst 0, 1) := by decide +kernel
theorem dX8_clear_13 : decode cX8_clear 13 = .ok (.putfield 140, 3) := by decide +kernel
theorem dX8_clear_16 : decode cX8_clear 16 = .ok (.iload_n 1, 1) := by decide +kernel
theorem dX8_clear_17 : decode cX8_clear 17 = .ok (.ireturn, 1) := by decide +kernel
theorem dX8_ask_0 : decode cX8_ask 0 = .ok (.aload_n 0, 1) := by decide +kernel
theorem dX8_ask_1 : decode cX8_ask 1 = .ok (.iload_n 1, 1) := by decide +kernel
theorem dX8_ask_2 : decode cX8_ask 2 = .ok (.invokevirtual 130, 3) := by decide +kernel
theorem dX8_ask_5 : decode cX8_ask 5 = .ok (.aload_n 0, 1) := by decide +kernel
theorem dX8_ask_6 : decode cX8_ask 6 = .ok (.iload_n 2, 1) := by decide +kernel
theorem dX8_ask_7 : decode cX8_ask 7 = .ok (.invokevirtual 146, 3) := by decide +kernel
theorem dX8_ask_10 : decode cX8_ask 10 = .ok (.aload_n 0, 1) := by decide +kernel
theorem dX8_ask_11 : decode cX8_ask 11 = .ok (.getfield 10, 3) := by decide +kernel
theorem dX8_ask_14 : decode cX8_ask 14 = .ok (.aload_n 0, 1) := by decide +kernel
theorem dX8_ask_15 : decode cX8_ask 15 = .ok (.getfield 31, 3) := by decide +kernel
theorem dX8_ask_18 : decode cX8_ask 18 = .ok (.invokevirtual 149, 3) := by decide +kernel
theorem dX8_ask_21 : decode cX8_ask 21 = .ok (.ifCond .eq 19, 3) := by decide +kernel
theorem dX8_ask_24 : decode cX8_ask 24 = .ok (.aload_n 0, 1) := by decide +kernel
theorem dX8_ask_25 : decode cX8_ask 25 = .ok (.getfield 21, 3) := by decide +kernel
theorem dX8_ask_28 : decode cX8_ask 28 = .ok (.getfield 153, 3) := by decide +kernel
theorem dX8_ask_31 : decode cX8_ask 31 = .ok (.bipush 12, 2) := by decide +kernel
theorem dX8_ask_33 : decode cX8_ask 33 = .ok (.if_icmp .ge 7, 3) := by decide +kernel
theorem dX8_ask_36 : decode cX8_ask 36 = .ok (.iconst 1, 1) := by decide +kernel
theorem dX8_ask_37 : decode cX8_ask 37 = .ok (.goto 4, 3) := by decide +kernel
theorem dX8_ask_40 : decode cX8_ask 40 = .ok (.iconst 0, 1) := by decide +kernel
theorem dX8_ask_41 : decode cX8_ask 41 = .ok (.invokestatic 66, 3) := by decide +kernel
theorem dX8_ask_44 : decode cX8_ask 44 = .ok (.aload_n 0, 1) := by decide +kernel
theorem dX8_ask_45 : decode cX8_ask 45 = .ok (.getfield 40, 3) := by decide +kernel
theorem dX8_ask_48 : decode cX8_ask 48 = .ok (.iload_n 1, 1) := by decide +kernel
theorem dX8_ask_49 : decode cX8_ask 49 = .ok (.aload_n 0, 1) := by decide +kernel
theorem dX8_ask_50 : decode cX8_ask 50 = .ok (.getfield 31, 3) := by decide +kernel
theorem dX8_ask_53 : decode cX8_ask 53 = .ok (.iload_n 2, 1) := by decide +kernel
theorem dX8_ask_54 : decode cX8_ask 54 = .ok (.invokevirtual 156, 3) := by decide +kernel
theorem dX8_ask_57 : decode cX8_ask 57 = .ok (.istore_n 3, 1) := by decide +kernel
theorem dX8_ask_58 : decode cX8_ask 58 = .ok (.iload_n 3, 1) := by decide +kernel
theorem dX8_ask_59 : decode cX8_ask 59 = .ok (.ifCond .eq 7, 3) := by decide +kernel
theorem dX8_ask_62 : decode cX8_ask 62 = .ok (.iconst (-1), 1) := by decide +kernel
theorem dX8_ask_63 : decode cX8_ask 63 = .ok (.iload_n 3, 1) := by decide +kernel
theorem dX8_ask_64 : decode cX8_ask 64 = .ok (.isub, 1) := by decide +kernel
theorem dX8_ask_65 : decode cX8_ask 65 = .ok (.ireturn, 1) := by decide +kernel
theorem dX8_ask_66 : decode cX8_ask 66 = .ok (.aload_n 0, 1) := by decide +kernel
theorem dX8_ask_67 : decode cX8_ask 67 = .ok (.getfield 21, 3) := by decide +kernel
theorem dX8_ask_70 : decode cX8_ask 70 = .ok (.getfield 160, 3) := by decide +kernel
theorem dX8_ask_73 : decode cX8_ask 73 = .ok (.aload_n 0, 1) := by decide +kernel
theorem dX8_ask_74 : decode cX8_ask 74 = .ok (.getfield 21, 3) := by decide +kernel
theorem dX8_ask_77 : decode cX8_ask 77 = .ok (.getfield 153, 3) := by decide +kernel
theorem dX8_ask_80 : decode cX8_ask 80 = .ok (.aaload, 1) := by decide +kernel
theorem dX8_ask_81 : decode cX8_ask 81 = .ok (.astore 4, 2) := by decide +kernel
theorem dX8_ask_83 : decode cX8_ask 83 = .ok (.aload 4, 2) := by decide +kernel
theorem dX8_ask_85 : decode cX8_ask 85 = .ok (.iload_n 1, 1) := by decide +kernel
theorem dX8_ask_86 : decode cX8_ask 86 = .ok (.putfield 164, 3) := by decide +kernel
theorem dX8_ask_89 : decode cX8_ask 89 = .ok (.aload 4, 2) := by decide +kernel
theorem dX8_ask_91 : decode cX8_ask 91 = .ok (.iload_n 2, 1) := by decide +kernel
theorem dX8_ask_92 : decode cX8_ask 92 = .ok (.putfield 169, 3) := by decide +kernel
theorem dX8_ask_95 : decode cX8_ask 95 = .ok (.aload 4, 2) := by decide +kernel
theorem dX8_ask_97 : decode cX8_ask 97 = .ok (.iconst 0, 1) := by decide +kernel
theorem dX8_ask_98 : decode cX8_ask 98 = .ok (.putfield 172, 3) := by decide +kernel
theorem dX8_ask_101 : decode cX8_ask 101 = .ok (.aload 4, 2) := by decide +kernel
theorem dX8_ask_103 : decode cX8_ask 103 = .ok (.getfield 173, 3) := by decide +kernel
theorem dX8_ask_106 : decode cX8_ask 106 = .ok (.aload_n 0, 1) := by decide +kernel
theorem dX8_ask_107 : decode cX8_ask 107 = .ok (.getfield 31, 3) := by decide +kernel
theorem dX8_ask_110 : decode cX8_ask 110 = .ok (.invokevirtual 176, 3) := by decide +kernel
theorem dX8_ask_113 : decode cX8_ask 113 = .ok (.aload_n 0, 1) := by decide +kernel
theorem dX8_ask_114 : decode cX8_ask 114 = .ok (.getfield 31, 3) := by decide +kernel
theorem dX8_ask_117 : decode cX8_ask 117 = .ok (.iconst 0, 1) := by decide +kernel
theorem dX8_ask_118 : decode cX8_ask 118 = .ok (.putfield 140, 3) := by decide +kernel
theorem dX8_ask_121 : decode cX8_ask 121 = .ok (.aload_n 0, 1) := by decide +kernel
theorem dX8_ask_122 : decode cX8_ask 122 = .ok (.getfield 21, 3) := by decide +kernel
theorem dX8_ask_125 : decode cX8_ask 125 = .ok (.dup, 1) := by decide +kernel
theorem dX8_ask_126 : decode cX8_ask 126 = .ok (.getfield 153, 3) := by decide +kernel
theorem dX8_ask_129 : decode cX8_ask 129 = .ok (.dup_x1, 1) := by decide +kernel
theorem dX8_ask_130 : decode cX8_ask 130 = .ok (.iconst 1, 1) := by decide +kernel
theorem dX8_ask_131 : decode cX8_ask 131 = .ok (.iadd, 1) := by decide +kernel
theorem dX8_ask_132 : decode cX8_ask 132 = .ok (.putfield 153, 3) := by decide +kernel
theorem dX8_ask_135 : decode cX8_ask 135 = .ok (.ireturn, 1) := by decide +kernel
theorem dX8_withdraw_0 : decode cX8_withdraw 0 = .ok (.aload_n 0, 1) := by decide +kernel
theorem dX8_withdraw_1 : decode cX8_withdraw 1 = .ok (.iload_n 1, 1) := by decide +kernel
theorem dX8_withdraw_2 : decode cX8_withdraw 2 = .ok (.invokevirtual 180, 3) := by decide +kernel
theorem dX8_withdraw_5 : decode cX8_withdraw 5 = .ok (.aload_n 0, 1) := by decide +kernel
theorem dX8_withdraw_6 : decode cX8_withdraw 6 = .ok (.getfield 21, 3) := by decide +kernel
theorem dX8_withdraw_9 : decode cX8_withdraw 9 = .ok (.getfield 160, 3) := by decide +kernel
theorem dX8_withdraw_12 : decode cX8_withdraw 12 = .ok (.iload_n 1, 1) := by decide +kernel
theorem dX8_withdraw_13 : decode cX8_withdraw 13 = .ok (.aaload, 1) := by decide +kernel
theorem dX8_withdraw_14 : decode cX8_withdraw 14 = .ok (.astore_n 2, 1) := by decide +kernel
theorem dX8_withdraw_15 : decode cX8_withdraw 15 = .ok (.aload_n 2, 1) := by decide +kernel
theorem dX8_withdraw_16 : decode cX8_withdraw 16 = .ok (.getfield 172, 3) := by decide +kernel
theorem dX8_withdraw_19 : decode cX8_withdraw 19 = .ok (.ifCond .ne 7, 3) := by decide +kernel
theorem dX8_withdraw_22 : decode cX8_withdraw 22 = .ok (.iconst 1, 1) := by decide +kernel
theorem dX8_withdraw_23 : decode cX8_withdraw 23 = .ok (.goto 4, 3) := by decide +kernel
theorem dX8_withdraw_26 : decode cX8_withdraw 26 = .ok (.iconst 0, 1) := by decide +kernel
theorem dX8_withdraw_27 : decode cX8_withdraw 27 = .ok (.invokestatic 66, 3) := by decide +kernel
theorem dX8_withdraw_30 : decode cX8_withdraw 30 = .ok (.aload_n 2, 1) := by decide +kernel
theorem dX8_withdraw_31 : decode cX8_withdraw 31 = .ok (.iconst 3, 1) := by decide +kernel
theorem dX8_withdraw_32 : decode cX8_withdraw 32 = .ok (.putfield 172, 3) := by decide +kernel
theorem dX8_withdraw_35 : decode cX8_withdraw 35 = .ok (.aload_n 2, 1) := by decide +kernel
theorem dX8_withdraw_36 : decode cX8_withdraw 36 = .ok (.getfield 169, 3) := by decide +kernel
theorem dX8_withdraw_39 : decode cX8_withdraw 39 = .ok (.ireturn, 1) := by decide +kernel
theorem dX8_pass_0 : decode cX8_pass 0 = .ok (.iload_n 1, 1) := by decide +kernel
theorem dX8_pass_1 : decode cX8_pass 1 = .ok (.invokestatic 183, 3) := by decide +kernel
theorem dX8_pass_4 : decode cX8_pass 4 = .ok (.aload_n 0, 1) := by decide +kernel
theorem dX8_pass_5 : decode cX8_pass 5 = .ok (.getfield 21, 3) := by decide +kernel
theorem dX8_pass_8 : decode cX8_pass 8 = .ok (.getfield 186, 3) := by decide +kernel
theorem dX8_pass_11 : decode cX8_pass 11 = .ok (.iload_n 1, 1) := by decide +kernel
theorem dX8_pass_12 : decode cX8_pass 12 = .ok (.iadd, 1) := by decide +kernel
theorem dX8_pass_13 : decode cX8_pass 13 = .ok (.sipush 5000, 3) := by decide +kernel
theorem dX8_pass_16 : decode cX8_pass 16 = .ok (.if_icmp .gt 7, 3) := by decide +kernel
theorem dX8_pass_19 : decode cX8_pass 19 = .ok (.iconst 1, 1) := by decide +kernel
theorem dX8_pass_20 : decode cX8_pass 20 = .ok (.goto 4, 3) := by decide +kernel
theorem dX8_pass_23 : decode cX8_pass 23 = .ok (.iconst 0, 1) := by decide +kernel
theorem dX8_pass_24 : decode cX8_pass 24 = .ok (.invokestatic 66, 3) := by decide +kernel
theorem dX8_pass_27 : decode cX8_pass 27 = .ok (.aload_n 0, 1) := by decide +kernel
theorem dX8_pass_28 : decode cX8_pass 28 = .ok (.getfield 21, 3) := by decide +kernel
theorem dX8_pass_31 : decode cX8_pass 31 = .ok (.iconst 2, 1) := by decide +kernel
theorem dX8_pass_32 : decode cX8_pass 32 = .ok (.invokevirtual 189, 3) := by decide +kernel
theorem dX8_pass_35 : decode cX8_pass 35 = .ok (.istore_n 2, 1) := by decide +kernel
theorem dX8_pass_36 : decode cX8_pass 36 = .ok (.aload_n 0, 1) := by decide +kernel
theorem dX8_pass_37 : decode cX8_pass 37 = .ok (.getfield 21, 3) := by decide +kernel
theorem dX8_pass_40 : decode cX8_pass 40 = .ok (.iload_n 1, 1) := by decide +kernel
theorem dX8_pass_41 : decode cX8_pass 41 = .ok (.invokevirtual 192, 3) := by decide +kernel
theorem dX8_pass_44 : decode cX8_pass 44 = .ok (.aload_n 0, 1) := by decide +kernel
theorem dX8_pass_45 : decode cX8_pass 45 = .ok (.getfield 21, 3) := by decide +kernel
theorem dX8_pass_48 : decode cX8_pass 48 = .ok (.iconst 2, 1) := by decide +kernel
theorem dX8_pass_49 : decode cX8_pass 49 = .ok (.invokevirtual 189, 3) := by decide +kernel
theorem dX8_pass_52 : decode cX8_pass 52 = .ok (.iload_n 2, 1) := by decide +kernel
theorem dX8_pass_53 : decode cX8_pass 53 = .ok (.isub, 1) := by decide +kernel
theorem dX8_pass_54 : decode cX8_pass 54 = .ok (.ireturn, 1) := by decide +kernel
theorem dX8_ofCell_0 : decode cX8_ofCell 0 = .ok (.iload_n 1, 1) := by decide +kernel
theorem dX8_ofCell_1 : decode cX8_ofCell 1 = .ok (.invokestatic 51, 3) := by decide +kernel
theorem dX8_ofCell_4 : decode cX8_ofCell 4 = .ok (.iload_n 2, 1) := by decide +kernel
theorem dX8_ofCell_5 : decode cX8_ofCell 5 = .ok (.tableswitch 116 0 5 #[39, 49, 67, 77, 87, 107], 39) := by decide +kernel
theorem dX8_ofCell_44 : decode cX8_ofCell 44 = .ok (.aload_n 0, 1) := by decide +kernel
theorem dX8_ofCell_45 : decode cX8_ofCell 45 = .ok (.getfield 10, 3) := by decide +kernel
theorem dX8_ofCell_48 : decode cX8_ofCell 48 = .ok (.getfield 59, 3) := by decide +kernel
theorem dX8_ofCell_51 : decode cX8_ofCell 51 = .ok (.iload_n 1, 1) := by decide +kernel
theorem dX8_ofCell_52 : decode cX8_ofCell 52 = .ok (.iaload, 1) := by decide +kernel
theorem dX8_ofCell_53 : decode cX8_ofCell 53 = .ok (.ireturn, 1) := by decide +kernel
theorem dX8_ofCell_54 : decode cX8_ofCell 54 = .ok (.aload_n 0, 1) := by decide +kernel
theorem dX8_ofCell_55 : decode cX8_ofCell 55 = .ok (.getfield 10, 3) := by decide +kernel
theorem dX8_ofCell_58 : decode cX8_ofCell 58 = .ok (.getfield 69, 3) := by decide +kernel
theorem dX8_ofCell_61 : decode cX8_ofCell 61 = .ok (.iload_n 1, 1) := by decide +kernel
theorem dX8_ofCell_62 : decode cX8_ofCell 62 = .ok (.baload, 1) := by decide +kernel
theorem dX8_ofCell_63 : decode cX8_ofCell 63 = .ok (.ifCond .eq 7, 3) := by decide +kernel
theorem dX8_ofCell_66 : decode cX8_ofCell 66 = .ok (.iconst 1, 1) := by decide +kernel
theorem dX8_ofCell_67 : decode cX8_ofCell 67 = .ok (.goto 4, 3) := by decide +kernel
theorem dX8_ofCell_70 : decode cX8_ofCell 70 = .ok (.iconst 0, 1) := by decide +kernel
theorem dX8_ofCell_71 : decode cX8_ofCell 71 = .ok (.ireturn, 1) := by decide +kernel
theorem dX8_ofCell_72 : decode cX8_ofCell 72 = .ok (.aload_n 0, 1) := by decide +kernel
theorem dX8_ofCell_73 : decode cX8_ofCell 73 = .ok (.getfield 10, 3) := by decide +kernel
theorem dX8_ofCell_76 : decode cX8_ofCell 76 = .ok (.getfield 63, 3) := by decide +kernel
theorem dX8_ofCell_79 : decode cX8_ofCell 79 = .ok (.iload_n 1, 1) := by decide +kernel
theorem dX8_ofCell_80 : decode cX8_ofCell 80 = .ok (.iaload, 1) := by decide +kernel
theorem dX8_ofCell_81 : decode cX8_ofCell 81 = .ok (.ireturn, 1) := by decide +kernel
theorem dX8_ofCell_82 : decode cX8_ofCell 82 = .ok (.aload_n 0, 1) := by decide +kernel
theorem dX8_ofCell_83 : decode cX8_ofCell 83 = .ok (.getfield 21, 3) := by decide +kernel
theorem dX8_ofCell_86 : decode cX8_ofCell 86 = .ok (.getfield 195, 3) := by decide +kernel
theorem dX8_ofCell_89 : decode cX8_ofCell 89 = .ok (.iload_n 1, 1) := by decide +kernel
theorem dX8_ofCell_90 : decode cX8_ofCell 90 = .ok (.iaload, 1) := by decide +kernel
theorem dX8_ofCell_91 : decode cX8_ofCell 91 = .ok (.ireturn, 1) := by decide +kernel
theorem dX8_ofCell_92 : decode cX8_ofCell 92 = .ok (.aload_n 0, 1) := by decide +kernel
theorem dX8_ofCell_93 : decode cX8_ofCell 93 = .ok (.getfield 40, 3) := by decide +kernel
theorem dX8_ofCell_96 : decode cX8_ofCell 96 = .ok (.iload_n 1, 1) := by decide +kernel
theorem dX8_ofCell_97 : decode cX8_ofCell 97 = .ok (.aload_n 0, 1) := by decide +kernel
theorem dX8_ofCell_98 : decode cX8_ofCell 98 = .ok (.getfield 21, 3) := by decide +kernel
theorem dX8_ofCell_101 : decode cX8_ofCell 101 = .ok (.getfield 186, 3) := by decide +kernel
theorem dX8_ofCell_104 : decode cX8_ofCell 104 = .ok (.sipush 1440, 3) := by decide +kernel
theorem dX8_ofCell_107 : decode cX8_ofCell 107 = .ok (.idiv, 1) := by decide +kernel
theorem dX8_ofCell_108 : decode cX8_ofCell 108 = .ok (.invokevirtual 198, 3) := by decide +kernel
theorem dX8_ofCell_111 : decode cX8_ofCell 111 = .ok (.ireturn, 1) := by decide +kernel
theorem dX8_ofCell_112 : decode cX8_ofCell 112 = .ok (.aload_n 0, 1) := by decide +kernel
theorem dX8_ofCell_113 : decode cX8_ofCell 113 = .ok (.getfield 21, 3) := by decide +kernel
theorem dX8_ofCell_116 : decode cX8_ofCell 116 = .ok (.iload_n 1, 1) := by decide +kernel
theorem dX8_ofCell_117 : decode cX8_ofCell 117 = .ok (.invokevirtual 202, 3) := by decide +kernel
theorem dX8_ofCell_120 : decode cX8_ofCell 120 = .ok (.ireturn, 1) := by decide +kernel
theorem dX8_ofCell_121 : decode cX8_ofCell 121 = .ok (.new 205, 3) := by decide +kernel
theorem dX8_ofCell_124 : decode cX8_ofCell 124 = .ok (.dup, 1) := by decide +kernel
theorem dX8_ofCell_125 : decode cX8_ofCell 125 = .ok (.ldc 207, 2) := by decide +kernel
theorem dX8_ofCell_127 : decode cX8_ofCell 127 = .ok (.invokespecial 209, 3) := by decide +kernel
theorem dX8_ofCell_130 : decode cX8_ofCell 130 = .ok (.athrow, 1) := by decide +kernel
theorem dX8_ofCraft_0 : decode cX8_ofCraft 0 = .ok (.aload_n 0, 1) := by decide +kernel
theorem dX8_ofCraft_1 : decode cX8_ofCraft 1 = .ok (.iload_n 1, 1) := by decide +kernel
theorem dX8_ofCraft_2 : decode cX8_ofCraft 2 = .ok (.invokevirtual 130, 3) := by decide +kernel
theorem dX8_ofCraft_5 : decode cX8_ofCraft 5 = .ok (.aload_n 0, 1) := by decide +kernel
theorem dX8_ofCraft_6 : decode cX8_ofCraft 6 = .ok (.getfield 21, 3) := by decide +kernel
theorem dX8_ofCraft_9 : decode cX8_ofCraft 9 = .ok (.getfield 100, 3) := by decide +kernel
theorem dX8_ofCraft_12 : decode cX8_ofCraft 12 = .ok (.iload_n 1, 1) := by decide +kernel
theorem dX8_ofCraft_13 : decode cX8_ofCraft 13 = .ok (.aaload, 1) := by decide +kernel
theorem dX8_ofCraft_14 : decode cX8_ofCraft 14 = .ok (.astore_n 3, 1) := by decide +kernel
theorem dX8_ofCraft_15 : decode cX8_ofCraft 15 = .ok (.iload_n 2, 1) := by decide +kernel
theorem dX8_ofCraft_16 : decode cX8_ofCraft 16 = .ok (.tableswitch 114 0 9 #[56, 61, 66, 71, 76, 81, 94, 99, 104, 109], 56) := by decide +kernel
theorem dX8_ofCraft_72 : decode cX8_ofCraft 72 = .ok (.aload_n 3, 1) := by decide +kernel
theorem dX8_ofCraft_73 : decode cX8_ofCraft 73 = .ok (.getfield 104, 3) := by decide +kernel
theorem dX8_ofCraft_76 : decode cX8_ofCraft 76 = .ok (.ireturn, 1) := by decide +kernel
theorem dX8_ofCraft_77 : decode cX8_ofCraft 77 = .ok (.aload_n 3, 1) := by decide +kernel
theorem dX8_ofCraft_78 : decode cX8_ofCraft 78 = .ok (.getfield 109, 3) := by decide +kernel
theorem dX8_ofCraft_81 : decode cX8_ofCraft 81 = .ok (.ireturn, 1) := by decide +kernel
theorem dX8_ofCraft_82 : decode cX8_ofCraft 82 = .ok (.aload_n 3, 1) := by decide +kernel
theorem dX8_ofCraft_83 : decode cX8_ofCraft 83 = .ok (.getfield 118, 3) := by decide +kernel
theorem dX8_ofCraft_86 : decode cX8_ofCraft 86 = .ok (.ireturn, 1) := by decide +kernel
theorem dX8_ofCraft_87 : decode cX8_ofCraft 87 = .ok (.aload_n 3, 1) := by decide +kernel
theorem dX8_ofCraft_88 : decode cX8_ofCraft 88 = .ok (.getfield 121, 3) := by decide +kernel
theorem dX8_ofCraft_91 : decode cX8_ofCraft 91 = .ok (.ireturn, 1) := by decide +kernel
theorem dX8_ofCraft_92 : decode cX8_ofCraft 92 = .ok (.aload_n 3, 1) := by decide +kernel
theorem dX8_ofCraft_93 : decode cX8_ofCraft 93 = .ok (.getfield 124, 3) := by decide +kernel
theorem dX8_ofCraft_96 : decode cX8_ofCraft 96 = .ok (.ireturn, 1) := by decide +kernel
theorem dX8_ofCraft_97 : decode cX8_ofCraft 97 = .ok (.aload_n 3, 1) := by decide +kernel
theorem dX8_ofCraft_98 : decode cX8_ofCraft 98 = .ok (.getfield 133, 3) := by decide +kernel
theorem dX8_ofCraft_101 : decode cX8_ofCraft 101 = .ok (.ifCond .eq 7, 3) := by decide +kernel
theorem dX8_ofCraft_104 : decode cX8_ofCraft 104 = .ok (.iconst 1, 1) := by decide +kernel
theorem dX8_ofCraft_105 : decode cX8_ofCraft 105 = .ok (.goto 4, 3) := by decide +kernel
theorem dX8_ofCraft_108 : decode cX8_ofCraft 108 = .ok (.iconst 0, 1) := by decide +kernel
theorem dX8_ofCraft_109 : decode cX8_ofCraft 109 = .ok (.ireturn, 1) := by decide +kernel
theorem dX8_ofCraft_110 : decode cX8_ofCraft 110 = .ok (.aload_n 3, 1) := by decide +kernel
theorem dX8_ofCraft_111 : decode cX8_ofCraft 111 = .ok (.getfield 137, 3) := by decide +kernel
theorem dX8_ofCraft_114 : decode cX8_ofCraft 114 = .ok (.ireturn, 1) := by decide +kernel
theorem dX8_ofCraft_115 : decode cX8_ofCraft 115 = .ok (.aload_n 3, 1) := by decide +kernel
theorem dX8_ofCraft_116 : decode cX8_ofCraft 116 = .ok (.getfield 127, 3) := by decide +kernel
theorem dX8_ofCraft_119 : decode cX8_ofCraft 119 = .ok (.ireturn, 1) := by decide +kernel
theorem dX8_ofCraft_120 : decode cX8_ofCraft 120 = .ok (.aload_n 3, 1) := by decide +kernel
theorem dX8_ofCraft_121 : decode cX8_ofCraft 121 = .ok (.getfield 212, 3) := by decide +kernel
theorem dX8_ofCraft_124 : decode cX8_ofCraft 124 = .ok (.ireturn, 1) := by decide +kernel
theorem dX8_ofCraft_125 : decode cX8_ofCraft 125 = .ok (.aload_n 3, 1) := by decide +kernel
theorem dX8_ofCraft_126 : decode cX8_ofCraft 126 = .ok (.getfield 215, 3) := by decide +kernel
theorem dX8_ofCraft_129 : decode cX8_ofCraft 129 = .ok (.ireturn, 1) := by decide +kernel
theorem dX8_ofCraft_130 : decode cX8_ofCraft 130 = .ok (.new 205, 3) := by decide +kernel
theorem dX8_ofCraft_133 : decode cX8_ofCraft 133 = .ok (.dup, 1) := by decide +kernel
theorem dX8_ofCraft_134 : decode cX8_ofCraft 134 = .ok (.ldc 218, 2) := by decide +kernel
theorem dX8_ofCraft_136 : decode cX8_ofCraft 136 = .ok (.invokespecial 209, 3) := by decide +kernel
theorem dX8_ofCraft_139 : decode cX8_ofCraft 139 = .ok (.athrow, 1) := by decide +kernel
theorem dX8_ofFlight_0 : decode cX8_ofFlight 0 = .ok (.aload_n 0, 1) := by decide +kernel
theorem dX8_ofFlight_1 : decode cX8_ofFlight 1 = .ok (.iload_n 1, 1) := by decide +kernel
theorem dX8_ofFlight_2 : decode cX8_ofFlight 2 = .ok (.invokevirtual 180, 3) := by decide +kernel
theorem dX8_ofFlight_5 : decode cX8_ofFlight 5 = .ok (.aload_n 0, 1) := by decide +kernel
theorem dX8_ofFlight_6 : decode cX8_ofFlight 6 = .ok (.getfield 21, 3) := by decide +kernel
theorem dX8_ofFlight_9 : decode cX8_ofFlight 9 = .ok (.getfield 160, 3) := by decide +kernel
theorem dX8_ofFlight_12 : decode cX8_ofFlight 12 = .ok (.iload_n 1, 1) := by decide +kernel
theorem dX8_ofFlight_13 : decode cX8_ofFlight 13 = .ok (.aaload, 1) := by decide +kernel
theorem dX8_ofFlight_14 : decode cX8_ofFlight 14 = .ok (.astore_n 3, 1) := by decide +kernel
theorem dX8_ofFlight_15 : decode cX8_ofFlight 15 = .ok (.iload_n 2, 1) := by decide +kernel
theorem dX8_ofFlight_16 : decode cX8_ofFlight 16 = .ok (.tableswitch 71 0 4 #[36, 41, 46, 51, 63], 36) := by decide +kernel
theorem dX8_ofFlight_52 : decode cX8_ofFlight 52 = .ok (.aload_n 3, 1) := by decide +kernel
theorem dX8_ofFlight_53 : decode cX8_ofFlight 53 = .ok (.getfield 172, 3) := by decide +kernel
theorem dX8_ofFlight_56 : decode cX8_ofFlight 56 = .ok (.ireturn, 1) := by decide +kernel
theorem dX8_ofFlight_57 : decode cX8_ofFlight 57 = .ok (.aload_n 3, 1) := by decide +kernel
theorem dX8_ofFlight_58 : decode cX8_ofFlight 58 = .ok (.getfield 164, 3) := by decide +kernel
theorem dX8_ofFlight_61 : decode cX8_ofFlight 61 = .ok (.ireturn, 1) := by decide +kernel
theorem dX8_ofFlight_62 : decode cX8_ofFlight 62 = .ok (.aload_n 3, 1) := by decide +kernel
theorem dX8_ofFlight_63 : decode cX8_ofFlight 63 = .ok (.getfield 169, 3) := by decide +kernel
theorem dX8_ofFlight_66 : decode cX8_ofFlight 66 = .ok (.ireturn, 1) := by decide +kernel
theorem dX8_ofFlight_67 : decode cX8_ofFlight 67 = .ok (.aload_n 3, 1) := by decide +kernel
theorem dX8_ofFlight_68 : decode cX8_ofFlight 68 = .ok (.getfield 173, 3) := by decide +kernel
theorem dX8_ofFlight_71 : decode cX8_ofFlight 71 = .ok (.aload_n 3, 1) := by decide +kernel
theorem dX8_ofFlight_72 : decode cX8_ofFlight 72 = .ok (.getfield 169, 3) := by decide +kernel
theorem dX8_ofFlight_75 : decode cX8_ofFlight 75 = .ok (.invokevirtual 220, 3) := by decide +kernel
theorem dX8_ofFlight_78 : decode cX8_ofFlight 78 = .ok (.ireturn, 1) := by decide +kernel
theorem dX8_ofFlight_79 : decode cX8_ofFlight 79 = .ok (.aload_n 3, 1) := by decide +kernel
theorem dX8_ofFlight_80 : decode cX8_ofFlight 80 = .ok (.getfield 173, 3) := by decide +kernel
theorem dX8_ofFlight_83 : decode cX8_ofFlight 83 = .ok (.getfield 140, 3) := by decide +kernel
theorem dX8_ofFlight_86 : decode cX8_ofFlight 86 = .ok (.ireturn, 1) := by decide +kernel
theorem dX8_ofFlight_87 : decode cX8_ofFlight 87 = .ok (.new 205, 3) := by decide +kernel
theorem dX8_ofFlight_90 : decode cX8_ofFlight 90 = .ok (.dup, 1) := by decide +kernel
theorem dX8_ofFlight_91 : decode cX8_ofFlight 91 = .ok (.ldc 223, 2) := by decide +kernel
theorem dX8_ofFlight_93 : decode cX8_ofFlight 93 = .ok (.invokespecial 209, 3) := by decide +kernel
theorem dX8_ofFlight_96 : decode cX8_ofFlight 96 = .ok (.athrow, 1) := by decide +kernel
theorem dX8_occupies_0 : decode cX8_occupies 0 = .ok (.iload_n 1, 1) := by decide +kernel
theorem dX8_occupies_1 : decode cX8_occupies 1 = .ok (.invokestatic 51, 3) := by decide +kernel
theorem dX8_occupies_4 : decode cX8_occupies 4 = .ok (.iload_n 2, 1) := by decide +kernel
theorem dX8_occupies_5 : decode cX8_occupies 5 = .ok (.ifCond .lt 7, 3) := by decide +kernel
theorem dX8_occupies_8 : decode cX8_occupies 8 = .ok (.iconst 1, 1) := by decide +kernel
theorem dX8_occupies_9 : decode cX8_occupies 9 = .ok (.goto 4, 3) := by decide +kernel
theorem dX8_occupies_12 : decode cX8_occupies 12 = .ok (.iconst 0, 1) := by decide +kernel
theorem dX8_occupies_13 : decode cX8_occupies 13 = .ok (.invokestatic 55, 3) := by decide +kernel
theorem dX8_occupies_16 : decode cX8_occupies 16 = .ok (.iconst 0, 1) := by decide +kernel
theorem dX8_occupies_17 : decode cX8_occupies 17 = .ok (.istore_n 3, 1) := by decide +kernel
theorem dX8_occupies_18 : decode cX8_occupies 18 = .ok (.iload_n 3, 1) := by decide +kernel
theorem dX8_occupies_19 : decode cX8_occupies 19 = .ok (.aload_n 0, 1) := by decide +kernel
theorem dX8_occupies_20 : decode cX8_occupies 20 = .ok (.getfield 21, 3) := by decide +kernel
theorem dX8_occupies_23 : decode cX8_occupies 23 = .ok (.getfield 153, 3) := by decide +kernel
theorem dX8_occupies_26 : decode cX8_occupies 26 = .ok (.if_icmp .ge 40, 3) := by decide +kernel
theorem dX8_occupies_29 : decode cX8_occupies 29 = .ok (.aload_n 0, 1) := by decide +kernel
theorem dX8_occupies_30 : decode cX8_occupies 30 = .ok (.getfield 21, 3) := by decide +kernel
theorem dX8_occupies_33 : decode cX8_occupies 33 = .ok (.getfield 160, 3) := by decide +kernel
theorem dX8_occupies_36 : decode cX8_occupies 36 = .ok (.iload_n 3, 1) := by decide +kernel
theorem dX8_occupies_37 : decode cX8_occupies 37 = .ok (.aaload, 1) := by decide +kernel
theorem dX8_occupies_38 : decode cX8_occupies 38 = .ok (.astore 4, 2) := by decide +kernel
theorem dX8_occupies_40 : decode cX8_occupies 40 = .ok (.aload 4, 2) := by decide +kernel
theorem dX8_occupies_42 : decode cX8_occupies 42 = .ok (.invokevirtual 225, 3) := by decide +kernel
theorem dX8_occupies_45 : decode cX8_occupies 45 = .ok (.ifCond .eq 15, 3) := by decide +kernel
theorem dX8_occupies_48 : decode cX8_occupies 48 = .ok (.aload 4, 2) := by decide +kernel
theorem dX8_occupies_50 : decode cX8_occupies 50 = .ok (.iload_n 1, 1) := by decide +kernel
theorem dX8_occupies_51 : decode cX8_occupies 51 = .ok (.iload_n 2, 1) := by decide +kernel
theorem dX8_occupies_52 : decode cX8_occupies 52 = .ok (.invokevirtual 229, 3) := by decide +kernel
theorem dX8_occupies_55 : decode cX8_occupies 55 = .ok (.ifCond .eq 5, 3) := by decide +kernel
theorem dX8_occupies_58 : decode cX8_occupies 58 = .ok (.iload_n 3, 1) := by decide +kernel
theorem dX8_occupies_59 : decode cX8_occupies 59 = .ok (.ireturn, 1) := by decide +kernel
theorem dX8_occupies_60 : decode cX8_occupies 60 = .ok (.iinc 3 1, 3) := by decide +kernel
theorem dX8_occupies_63 : decode cX8_occupies 63 = .ok (.goto (-45), 3) := by decide +kernel
theorem dX8_occupies_66 : decode cX8_occupies 66 = .ok (.iconst (-1), 1) := by decide +kernel
theorem dX8_occupies_67 : decode cX8_occupies 67 = .ok (.ireturn, 1) := by decide +kernel
theorem dX8_many_0 : decode cX8_many 0 = .ok (.iload_n 1, 1) := by decide +kernel
theorem dX8_many_1 : decode cX8_many 1 = .ok (.tableswitch 163 0 15 #[79, 87, 95, 103, 111, 119, 127, 127, 127, 127, 127, 127, 127, 139, 147, 155], 79) := by decide +kernel
theorem dX8_many_80 : decode cX8_many 80 = .ok (.aload_n 0, 1) := by decide +kernel
theorem dX8_many_81 : decode cX8_many 81 = .ok (.getfield 21, 3) := by decide +kernel
theorem dX8_many_84 : decode cX8_many 84 = .ok (.getfield 186, 3) := by decide +kernel
theorem dX8_many_87 : decode cX8_many 87 = .ok (.ireturn, 1) := by decide +kernel
theorem dX8_many_88 : decode cX8_many 88 = .ok (.aload_n 0, 1) := by decide +kernel
theorem dX8_many_89 : decode cX8_many 89 = .ok (.getfield 10, 3) := by decide +kernel
theorem dX8_many_92 : decode cX8_many 92 = .ok (.getfield 73, 3) := by decide +kernel
theorem dX8_many_95 : decode cX8_many 95 = .ok (.ireturn, 1) := by decide +kernel
theorem dX8_many_96 : decode cX8_many 96 = .ok (.aload_n 0, 1) := by decide +kernel
theorem dX8_many_97 : decode cX8_many 97 = .ok (.getfield 10, 3) := by decide +kernel
theorem dX8_many_100 : decode cX8_many 100 = .ok (.getfield 81, 3) := by decide +kernel
theorem dX8_many_103 : decode cX8_many 103 = .ok (.ireturn, 1) := by decide +kernel
theorem dX8_many_104 : decode cX8_many 104 = .ok (.aload_n 0, 1) := by decide +kernel
theorem dX8_many_105 : decode cX8_many 105 = .ok (.getfield 21, 3) := by decide +kernel
theorem dX8_many_108 : decode cX8_many 108 = .ok (.getfield 97, 3) := by decide +kernel
theorem dX8_many_111 : decode cX8_many 111 = .ok (.ireturn, 1) := by decide +kernel
theorem dX8_many_112 : decode cX8_many 112 = .ok (.aload_n 0, 1) := by decide +kernel
theorem dX8_many_113 : decode cX8_many 113 = .ok (.getfield 21, 3) := by decide +kernel
theorem dX8_many_116 : decode cX8_many 116 = .ok (.getfield 153, 3) := by decide +kernel
theorem dX8_many_119 : decode cX8_many 119 = .ok (.ireturn, 1) := by decide +kernel
theorem dX8_many_120 : decode cX8_many 120 = .ok (.aload_n 0, 1) := by decide +kernel
theorem dX8_many_121 : decode cX8_many 121 = .ok (.getfield 31, 3) := by decide +kernel
theorem dX8_many_124 : decode cX8_many 124 = .ok (.getfield 140, 3) := by decide +kernel
theorem dX8_many_127 : decode cX8_many 127 = .ok (.ireturn, 1) := by decide +kernel
theorem dX8_many_128 : decode cX8_many 128 = .ok (.aload_n 0, 1) := by decide +kernel
theorem dX8_many_129 : decode cX8_many 129 = .ok (.getfield 21, 3) := by decide +kernel
theorem dX8_many_132 : decode cX8_many 132 = .ok (.iload_n 1, 1) := by decide +kernel
theorem dX8_many_133 : decode cX8_many 133 = .ok (.bipush 6, 2) := by decide +kernel
theorem dX8_many_135 : decode cX8_many 135 = .ok (.isub, 1) := by decide +kernel
theorem dX8_many_136 : decode cX8_many 136 = .ok (.invokevirtual 189, 3) := by decide +kernel
theorem dX8_many_139 : decode cX8_many 139 = .ok (.ireturn, 1) := by decide +kernel
theorem dX8_many_140 : decode cX8_many 140 = .ok (.aload_n 0, 1) := by decide +kernel
theorem dX8_many_141 : decode cX8_many 141 = .ok (.getfield 21, 3) := by decide +kernel
theorem dX8_many_144 : decode cX8_many 144 = .ok (.getfield 233, 3) := by decide +kernel
theorem dX8_many_147 : decode cX8_many 147 = .ok (.ireturn, 1) := by decide +kernel
theorem dX8_many_148 : decode cX8_many 148 = .ok (.aload_n 0, 1) := by decide +kernel
theorem dX8_many_149 : decode cX8_many 149 = .ok (.getfield 21, 3) := by decide +kernel
theorem dX8_many_152 : decode cX8_many 152 = .ok (.invokevirtual 236, 3) := by decide +kernel
theorem dX8_many_155 : decode cX8_many 155 = .ok (.ireturn, 1) := by decide +kernel
theorem dX8_many_156 : decode cX8_many 156 = .ok (.aload_n 0, 1) := by decide +kernel
theorem dX8_many_157 : decode cX8_many 157 = .ok (.getfield 21, 3) := by decide +kernel
theorem dX8_many_160 : decode cX8_many 160 = .ok (.getfield 240, 3) := by decide +kernel
theorem dX8_many_163 : decode cX8_many 163 = .ok (.ireturn, 1) := by decide +kernel
theorem dX8_many_164 : decode cX8_many 164 = .ok (.new 205, 3) := by decide +kernel
theorem dX8_many_167 : decode cX8_many 167 = .ok (.dup, 1) := by decide +kernel
theorem dX8_many_168 : decode cX8_many 168 = .ok (.ldc 243, 2) := by decide +kernel
theorem dX8_many_170 : decode cX8_many 170 = .ok (.invokespecial 209, 3) := by decide +kernel
theorem dX8_many_173 : decode cX8_many 173 = .ok (.athrow, 1) := by decide +kernel
theorem dX8_meanCharge_0 : decode cX8_meanCharge 0 = .ok (.dconst 0, 1) := by decide +kernel
theorem dX8_meanCharge_1 : decode cX8_meanCharge 1 = .ok (.dstore_n 1, 1) := by decide +kernel
theorem dX8_meanCharge_2 : decode cX8_meanCharge 2 = .ok (.iconst 0, 1) := by decide +kernel
theorem dX8_meanCharge_3 : decode cX8_meanCharge 3 = .ok (.istore_n 3, 1) := by decide +kernel
theorem dX8_meanCharge_4 : decode cX8_meanCharge 4 = .ok (.iload_n 3, 1) := by decide +kernel
theorem dX8_meanCharge_5 : decode cX8_meanCharge 5 = .ok (.aload_n 0, 1) := by decide +kernel
theorem dX8_meanCharge_6 : decode cX8_meanCharge 6 = .ok (.getfield 21, 3) := by decide +kernel
theorem dX8_meanCharge_9 : decode cX8_meanCharge 9 = .ok (.getfield 97, 3) := by decide +kernel
theorem dX8_meanCharge_12 : decode cX8_meanCharge 12 = .ok (.if_icmp .ge 44, 3) := by decide +kernel
theorem dX8_meanCharge_15 : decode cX8_meanCharge 15 = .ok (.aload_n 0, 1) := by decide +kernel
theorem dX8_meanCharge_16 : decode cX8_meanCharge 16 = .ok (.getfield 21, 3) := by decide +kernel
theorem dX8_meanCharge_19 : decode cX8_meanCharge 19 = .ok (.getfield 100, 3) := by decide +kernel
theorem dX8_meanCharge_22 : decode cX8_meanCharge 22 = .ok (.iload_n 3, 1) := by decide +kernel
theorem dX8_meanCharge_23 : decode cX8_meanCharge 23 = .ok (.aaload, 1) := by decide +kernel
theorem dX8_meanCharge_24 : decode cX8_meanCharge 24 = .ok (.astore 4, 2) := by decide +kernel
theorem dX8_meanCharge_26 : decode cX8_meanCharge 26 = .ok (.aload 4, 2) := by decide +kernel
theorem dX8_meanCharge_28 : decode cX8_meanCharge 28 = .ok (.getfield 118, 3) := by decide +kernel
theorem dX8_meanCharge_31 : decode cX8_meanCharge 31 = .ok (.ifCond .le 19, 3) := by decide +kernel
theorem dX8_meanCharge_34 : decode cX8_meanCharge 34 = .ok (.dload_n 1, 1) := by decide +kernel
theorem dX8_meanCharge_35 : decode cX8_meanCharge 35 = .ok (.aload 4, 2) := by decide +kernel
theorem dX8_meanCharge_37 : decode cX8_meanCharge 37 = .ok (.getfield 121, 3) := by decide +kernel
theorem dX8_meanCharge_40 : decode cX8_meanCharge 40 = .ok (.i2d, 1) := by decide +kernel
theorem dX8_meanCharge_41 : decode cX8_meanCharge 41 = .ok (.aload 4, 2) := by decide +kernel
theorem dX8_meanCharge_43 : decode cX8_meanCharge 43 = .ok (.getfield 118, 3) := by decide +kernel
theorem dX8_meanCharge_46 : decode cX8_meanCharge 46 = .ok (.i2d, 1) := by decide +kernel
theorem dX8_meanCharge_47 : decode cX8_meanCharge 47 = .ok (.ddiv, 1) := by decide +kernel
theorem dX8_meanCharge_48 : decode cX8_meanCharge 48 = .ok (.dadd, 1) := by decide +kernel
theorem dX8_meanCharge_49 : decode cX8_meanCharge 49 = .ok (.dstore_n 1, 1) := by decide +kernel
theorem dX8_meanCharge_50 : decode cX8_meanCharge 50 = .ok (.iinc 3 1, 3) := by decide +kernel
theorem dX8_meanCharge_53 : decode cX8_meanCharge 53 = .ok (.goto (-49), 3) := by decide +kernel
theorem dX8_meanCharge_56 : decode cX8_meanCharge 56 = .ok (.aload_n 0, 1) := by decide +kernel
theorem dX8_meanCharge_57 : decode cX8_meanCharge 57 = .ok (.getfield 21, 3) := by decide +kernel
theorem dX8_meanCharge_60 : decode cX8_meanCharge 60 = .ok (.getfield 97, 3) := by decide +kernel
theorem dX8_meanCharge_63 : decode cX8_meanCharge 63 = .ok (.ifCond .le 16, 3) := by decide +kernel
theorem dX8_meanCharge_66 : decode cX8_meanCharge 66 = .ok (.dload_n 1, 1) := by decide +kernel
theorem dX8_meanCharge_67 : decode cX8_meanCharge 67 = .ok (.aload_n 0, 1) := by decide +kernel
theorem dX8_meanCharge_68 : decode cX8_meanCharge 68 = .ok (.getfield 21, 3) := by decide +kernel
theorem dX8_meanCharge_71 : decode cX8_meanCharge 71 = .ok (.getfield 97, 3) := by decide +kernel
theorem dX8_meanCharge_74 : decode cX8_meanCharge 74 = .ok (.i2d, 1) := by decide +kernel
theorem dX8_meanCharge_75 : decode cX8_meanCharge 75 = .ok (.ddiv, 1) := by decide +kernel
theorem dX8_meanCharge_76 : decode cX8_meanCharge 76 = .ok (.goto 4, 3) := by decide +kernel
theorem dX8_meanCharge_79 : decode cX8_meanCharge 79 = .ok (.dconst 0, 1) := by decide +kernel
theorem dX8_meanCharge_80 : decode cX8_meanCharge 80 = .ok (.dreturn, 1) := by decide +kernel
theorem dX8_why_0 : decode cX8_why 0 = .ok (.aload_n 0, 1) := by decide +kernel
theorem dX8_why_1 : decode cX8_why 1 = .ok (.iload_n 1, 1) := by decide +kernel
theorem dX8_why_2 : decode cX8_why 2 = .ok (.invokevirtual 130, 3) := by decide +kernel
theorem dX8_why_5 : decode cX8_why 5 = .ok (.aload_n 0, 1) := by decide +kernel
theorem dX8_why_6 : decode cX8_why 6 = .ok (.iload_n 2, 1) := by decide +kernel
theorem dX8_why_7 : decode cX8_why 7 = .ok (.invokevirtual 146, 3) := by decide +kernel
theorem dX8_why_10 : decode cX8_why 10 = .ok (.aload_n 0, 1) := by decide +kernel
theorem dX8_why_11 : decode cX8_why 11 = .ok (.getfield 10, 3) := by decide +kernel
theorem dX8_why_14 : decode cX8_why 14 = .ok (.aload_n 0, 1) := by decide +kernel
theorem dX8_why_15 : decode cX8_why 15 = .ok (.getfield 31, 3) := by decide +kernel
theorem dX8_why_18 : decode cX8_why 18 = .ok (.invokevirtual 149, 3) := by decide +kernel
theorem dX8_why_21 : decode cX8_why 21 = .ok (.invokestatic 66, 3) := by decide +kernel
theorem dX8_why_24 : decode cX8_why 24 = .ok (.aload_n 0, 1) := by decide +kernel
theorem dX8_why_25 : decode cX8_why 25 = .ok (.getfield 40, 3) := by decide +kernel
theorem dX8_why_28 : decode cX8_why 28 = .ok (.iload_n 1, 1) := by decide +kernel
theorem dX8_why_29 : decode cX8_why 29 = .ok (.aload_n 0, 1) := by decide +kernel
theorem dX8_why_30 : decode cX8_why 30 = .ok (.getfield 31, 3) := by decide +kernel
theorem dX8_why_33 : decode cX8_why 33 = .ok (.iload_n 2, 1) := by decide +kernel
theorem dX8_why_34 : decode cX8_why 34 = .ok (.invokevirtual 156, 3) := by decide +kernel
theorem dX8_why_37 : decode cX8_why 37 = .ok (.ireturn, 1) := by decide +kernel
theorem dX8_soonest_0 : decode cX8_soonest 0 = .ok (.aload_n 0, 1) := by decide +kernel
theorem dX8_soonest_1 : decode cX8_soonest 1 = .ok (.iload_n 1, 1) := by decide +kernel
theorem dX8_soonest_2 : decode cX8_soonest 2 = .ok (.invokevirtual 130, 3) := by decide +kernel
theorem dX8_soonest_5 : decode cX8_soonest 5 = .ok (.aload_n 0, 1) := by decide +kernel
theorem dX8_soonest_6 : decode cX8_soonest 6 = .ok (.getfield 10, 3) := by decide +kernel
theorem dX8_soonest_9 : decode cX8_soonest 9 = .ok (.aload_n 0, 1) := by decide +kernel
theorem dX8_soonest_10 : decode cX8_soonest 10 = .ok (.getfield 31, 3) := by decide +kernel
theorem dX8_soonest_13 : decode cX8_soonest 13 = .ok (.invokevirtual 149, 3) := by decide +kernel
theorem dX8_soonest_16 : decode cX8_soonest 16 = .ok (.invokestatic 66, 3) := by decide +kernel
theorem dX8_soonest_19 : decode cX8_soonest 19 = .ok (.iconst 1, 1) := by decide +kernel
theorem dX8_soonest_20 : decode cX8_soonest 20 = .ok (.istore_n 2, 1) := by decide +kernel
theorem dX8_soonest_21 : decode cX8_soonest 21 = .ok (.iload_n 2, 1) := by decide +kernel
theorem dX8_soonest_22 : decode cX8_soonest 22 = .ok (.sipush 200, 3) := by decide +kernel
theorem dX8_soonest_25 : decode cX8_soonest 25 = .ok (.if_icmp .gt 43, 3) := by decide +kernel
theorem dX8_soonest_28 : decode cX8_soonest 28 = .ok (.aload_n 0, 1) := by decide +kernel
theorem dX8_soonest_29 : decode cX8_soonest 29 = .ok (.getfield 40, 3) := by decide +kernel
theorem dX8_soonest_32 : decode cX8_soonest 32 = .ok (.iload_n 1, 1) := by decide +kernel
theorem dX8_soonest_33 : decode cX8_soonest 33 = .ok (.aload_n 0, 1) := by decide +kernel
theorem dX8_soonest_34 : decode cX8_soonest 34 = .ok (.getfield 31, 3) := by decide +kernel
theorem dX8_soonest_37 : decode cX8_soonest 37 = .ok (.aload_n 0, 1) := by decide +kernel
theorem dX8_soonest_38 : decode cX8_soonest 38 = .ok (.getfield 21, 3) := by decide +kernel
theorem dX8_soonest_41 : decode cX8_soonest 41 = .ok (.getfield 186, 3) := by decide +kernel
theorem dX8_soonest_44 : decode cX8_soonest 44 = .ok (.iload_n 2, 1) := by decide +kernel
theorem dX8_soonest_45 : decode cX8_soonest 45 = .ok (.iadd, 1) := by decide +kernel
theorem dX8_soonest_46 : decode cX8_soonest 46 = .ok (.invokevirtual 156, 3) := by decide +kernel
theorem dX8_soonest_49 : decode cX8_soonest 49 = .ok (.ifCond .ne 13, 3) := by decide +kernel
theorem dX8_soonest_52 : decode cX8_soonest 52 = .ok (.aload_n 0, 1) := by decide +kernel
theorem dX8_soonest_53 : decode cX8_soonest 53 = .ok (.getfield 21, 3) := by decide +kernel
theorem dX8_soonest_56 : decode cX8_soonest 56 = .ok (.getfield 186, 3) := by decide +kernel
theorem dX8_soonest_59 : decode cX8_soonest 59 = .ok (.iload_n 2, 1) := by decide +kernel
theorem dX8_soonest_60 : decode cX8_soonest 60 = .ok (.iadd, 1) := by decide +kernel
theorem dX8_soonest_61 : decode cX8_soonest 61 = .ok (.ireturn, 1) := by decide +kernel
theorem dX8_soonest_62 : decode cX8_soonest 62 = .ok (.iinc 2 1, 3) := by decide +kernel
theorem dX8_soonest_65 : decode cX8_soonest 65 = .ok (.goto (-44), 3) := by decide +kernel
theorem dX8_soonest_68 : decode cX8_soonest 68 = .ok (.iconst (-1), 1) := by decide +kernel
theorem dX8_soonest_69 : decode cX8_soonest 69 = .ok (.ireturn, 1) := by decide +kernel
theorem dX8_way_0 : decode cX8_way 0 = .ok (.aload_n 0, 1) := by decide +kernel
theorem dX8_way_1 : decode cX8_way 1 = .ok (.iload_n 1, 1) := by decide +kernel
theorem dX8_way_2 : decode cX8_way 2 = .ok (.invokevirtual 130, 3) := by decide +kernel
theorem dX8_way_5 : decode cX8_way 5 = .ok (.iload_n 2, 1) := by decide +kernel
theorem dX8_way_6 : decode cX8_way 6 = .ok (.invokestatic 51, 3) := by decide +kernel
theorem dX8_way_9 : decode cX8_way 9 = .ok (.aload_n 0, 1) := by decide +kernel
theorem dX8_way_10 : decode cX8_way 10 = .ok (.getfield 47, 3) := by decide +kernel
theorem dX8_way_13 : decode cX8_way 13 = .ok (.aload_n 0, 1) := by decide +kernel
theorem dX8_way_14 : decode cX8_way 14 = .ok (.getfield 21, 3) := by decide +kernel
theorem dX8_way_17 : decode cX8_way 17 = .ok (.getfield 100, 3) := by decide +kernel
theorem dX8_way_20 : decode cX8_way 20 = .ok (.iload_n 1, 1) := by decide +kernel
theorem dX8_way_21 : decode cX8_way 21 = .ok (.aaload, 1) := by decide +kernel
theorem dX8_way_22 : decode cX8_way 22 = .ok (.iload_n 2, 1) := by decide +kernel
theorem dX8_way_23 : decode cX8_way 23 = .ok (.aload_n 0, 1) := by decide +kernel
theorem dX8_way_24 : decode cX8_way 24 = .ok (.getfield 21, 3) := by decide +kernel
theorem dX8_way_27 : decode cX8_way 27 = .ok (.getfield 186, 3) := by decide +kernel
theorem dX8_way_30 : decode cX8_way 30 = .ok (.invokevirtual 245, 3) := by decide +kernel
theorem dX8_way_33 : decode cX8_way 33 = .ok (.ireturn, 1) := by decide +kernel
theorem dX8_cost_0 : decode cX8_cost 0 = .ok (.aload_n 0, 1) := by decide +kernel
theorem dX8_cost_1 : decode cX8_cost 1 = .ok (.iload_n 1, 1) := by decide +kernel
theorem dX8_cost_2 : decode cX8_cost 2 = .ok (.invokevirtual 130, 3) := by decide +kernel
theorem dX8_cost_5 : decode cX8_cost 5 = .ok (.iload_n 2, 1) := by decide +kernel
theorem dX8_cost_6 : decode cX8_cost 6 = .ok (.invokestatic 51, 3) := by decide +kernel
theorem dX8_cost_9 : decode cX8_cost 9 = .ok (.aload_n 0, 1) := by decide +kernel
theorem dX8_cost_10 : decode cX8_cost 10 = .ok (.getfield 47, 3) := by decide +kernel
theorem dX8_cost_13 : decode cX8_cost 13 = .ok (.aload_n 0, 1) := by decide +kernel
theorem dX8_cost_14 : decode cX8_cost 14 = .ok (.getfield 21, 3) := by decide +kernel
theorem dX8_cost_17 : decode cX8_cost 17 = .ok (.getfield 100, 3) := by decide +kernel
theorem dX8_cost_20 : decode cX8_cost 20 = .ok (.iload_n 1, 1) := by decide +kernel
theorem dX8_cost_21 : decode cX8_cost 21 = .ok (.aaload, 1) := by decide +kernel
theorem dX8_cost_22 : decode cX8_cost 22 = .ok (.iload_n 2, 1) := by decide +kernel
theorem dX8_cost_23 : decode cX8_cost 23 = .ok (.aload_n 0, 1) := by decide +kernel
theorem dX8_cost_24 : decode cX8_cost 24 = .ok (.getfield 21, 3) := by decide +kernel
theorem dX8_cost_27 : decode cX8_cost 27 = .ok (.getfield 186, 3) := by decide +kernel
theorem dX8_cost_30 : decode cX8_cost 30 = .ok (.invokevirtual 249, 3) := by decide +kernel
theorem dX8_cost_33 : decode cX8_cost 33 = .ok (.ireturn, 1) := by decide +kernel
theorem dX8_wouldNear_0 : decode cX8_wouldNear 0 = .ok (.iload_n 1, 1) := by decide +kernel
theorem dX8_wouldNear_1 : decode cX8_wouldNear 1 = .ok (.invokestatic 183, 3) := by decide +kernel
theorem dX8_wouldNear_4 : decode cX8_wouldNear 4 = .ok (.aload_n 0, 1) := by decide +kernel
theorem dX8_wouldNear_5 : decode cX8_wouldNear 5 = .ok (.getfield 25, 3) := by decide +kernel
theorem dX8_wouldNear_8 : decode cX8_wouldNear 8 = .ok (.aload_n 0, 1) := by decide +kernel
theorem dX8_wouldNear_9 : decode cX8_wouldNear 9 = .ok (.getfield 21, 3) := by decide +kernel
theorem dX8_wouldNear_12 : decode cX8_wouldNear 12 = .ok (.invokevirtual 252, 3) := by decide +kernel
theorem dX8_wouldNear_15 : decode cX8_wouldNear 15 = .ok (.aload_n 0, 1) := by decide +kernel
theorem dX8_wouldNear_16 : decode cX8_wouldNear 16 = .ok (.getfield 25, 3) := by decide +kernel
theorem dX8_wouldNear_19 : decode cX8_wouldNear 19 = .ok (.iload_n 1, 1) := by decide +kernel
theorem dX8_wouldNear_20 : decode cX8_wouldNear 20 = .ok (.invokevirtual 192, 3) := by decide +kernel
theorem dX8_wouldNear_23 : decode cX8_wouldNear 23 = .ok (.aload_n 0, 1) := by decide +kernel
theorem dX8_wouldNear_24 : decode cX8_wouldNear 24 = .ok (.getfield 25, 3) := by decide +kernel
theorem dX8_wouldNear_27 : decode cX8_wouldNear 27 = .ok (.getfield 233, 3) := by decide +kernel
theorem dX8_wouldNear_30 : decode cX8_wouldNear 30 = .ok (.aload_n 0, 1) := by decide +kernel
theorem dX8_wouldNear_31 : decode cX8_wouldNear 31 = .ok (.getfield 21, 3) := by decide +kernel
theorem dX8_wouldNear_34 : decode cX8_wouldNear 34 = .ok (.getfield 233, 3) := by decide +kernel
theorem dX8_wouldNear_37 : decode cX8_wouldNear 37 = .ok (.isub, 1) := by decide +kernel
theorem dX8_wouldNear_38 : decode cX8_wouldNear 38 = .ok (.ireturn, 1) := by decide +kernel
theorem dX8_wouldHave_0 : decode cX8_wouldHave 0 = .ok (.aload_n 0, 1) := by decide +kernel
theorem dX8_wouldHave_1 : decode cX8_wouldHave 1 = .ok (.iload_n 1, 1) := by decide +kernel
theorem dX8_wouldHave_2 : decode cX8_wouldHave 2 = .ok (.invokevirtual 130, 3) := by decide +kernel
theorem dX8_wouldHave_5 : decode cX8_wouldHave 5 = .ok (.iload_n 2, 1) := by decide +kernel
theorem dX8_wouldHave_6 : decode cX8_wouldHave 6 = .ok (.invokestatic 183, 3) := by decide +kernel
theorem dX8_wouldHave_9 : decode cX8_wouldHave 9 = .ok (.aload_n 0, 1) := by decide +kernel
theorem dX8_wouldHave_10 : decode cX8_wouldHave 10 = .ok (.getfield 25, 3) := by decide +kernel
theorem dX8_wouldHave_13 : decode cX8_wouldHave 13 = .ok (.aload_n 0, 1) := by decide +kernel
theorem dX8_wouldHave_14 : decode cX8_wouldHave 14 = .ok (.getfield 21, 3) := by decide +kernel
theorem dX8_wouldHave_17 : decode cX8_wouldHave 17 = .ok (.invokevirtual 252, 3) := by decide +kernel
theorem dX8_wouldHave_20 : decode cX8_wouldHave 20 = .ok (.aload_n 0, 1) := by decide +kernel
theorem dX8_wouldHave_21 : decode cX8_wouldHave 21 = .ok (.getfield 25, 3) := by decide +kernel
theorem dX8_wouldHave_24 : decode cX8_wouldHave 24 = .ok (.iload_n 2, 1) := by decide +kernel
theorem dX8_wouldHave_25 : decode cX8_wouldHave 25 = .ok (.invokevirtual 192, 3) := by decide +kernel
theorem dX8_wouldHave_28 : decode cX8_wouldHave 28 = .ok (.aload_n 0, 1) := by decide +kernel
theorem dX8_wouldHave_29 : decode cX8_wouldHave 29 = .ok (.getfield 25, 3) := by decide +kernel
theorem dX8_wouldHave_32 : decode cX8_wouldHave 32 = .ok (.getfield 100, 3) := by decide +kernel
theorem dX8_wouldHave_35 : decode cX8_wouldHave 35 = .ok (.iload_n 1, 1) := by decide +kernel
theorem dX8_wouldHave_36 : decode cX8_wouldHave 36 = .ok (.aaload, 1) := by decide +kernel
theorem dX8_wouldHave_37 : decode cX8_wouldHave 37 = .ok (.astore_n 3, 1) := by decide +kernel
theorem dX8_wouldHave_38 : decode cX8_wouldHave 38 = .ok (.aload_n 3, 1) := by decide +kernel
theorem dX8_wouldHave_39 : decode cX8_wouldHave 39 = .ok (.getfield 137, 3) := by decide +kernel
theorem dX8_wouldHave_42 : decode cX8_wouldHave 42 = .ok (.iconst 2, 1) := by decide +kernel
theorem dX8_wouldHave_43 : decode cX8_wouldHave 43 = .ok (.if_icmp .ne 7, 3) := by decide +kernel
theorem dX8_wouldHave_46 : decode cX8_wouldHave 46 = .ok (.iconst (-1), 1) := by decide +kernel
theorem dX8_wouldHave_47 : decode cX8_wouldHave 47 = .ok (.goto 7, 3) := by decide +kernel
theorem dX8_wouldHave_50 : decode cX8_wouldHave 50 = .ok (.aload_n 3, 1) := by decide +kernel
theorem dX8_wouldHave_51 : decode cX8_wouldHave 51 = .ok (.getfield 121, 3) := by decide +kernel
theorem dX8_wouldHave_54 : decode cX8_wouldHave 54 = .ok (.ireturn, 1) := by decide +kernel
theorem dX8_digest_0 : decode cX8_digest 0 = .ok (.ldc2_w 255, 3) := by decide +kernel
theorem dX8_digest_3 : decode cX8_digest 3 = .ok (.lstore_n 1, 1) := by decide +kernel
theorem dX8_digest_4 : decode cX8_digest 4 = .ok (.iconst 0, 1) := by decide +kernel
theorem dX8_digest_5 : decode cX8_digest 5 = .ok (.istore_n 3, 1) := by decide +kernel
theorem dX8_digest_6 : decode cX8_digest 6 = .ok (.iload_n 3, 1) := by decide +kernel
theorem dX8_digest_7 : decode cX8_digest 7 = .ok (.bipush 15, 2) := by decide +kernel
theorem dX8_digest_9 : decode cX8_digest 9 = .ok (.if_icmp .gt 19, 3) := by decide +kernel
theorem dX8_digest_12 : decode cX8_digest 12 = .ok (.lload_n 1, 1) := by decide +kernel
theorem dX8_digest_13 : decode cX8_digest 13 = .ok (.aload_n 0, 1) := by decide +kernel
theorem dX8_digest_14 : decode cX8_digest 14 = .ok (.iload_n 3, 1) := by decide +kernel
theorem dX8_digest_15 : decode cX8_digest 15 = .ok (.invokevirtual 257, 3) := by decide +kernel
theorem dX8_digest_18 : decode cX8_digest 18 = .ok (.invokestatic 260, 3) := by decide +kernel
theorem dX8_digest_21 : decode cX8_digest 21 = .ok (.lstore_n 1, 1) := by decide +kernel
theorem dX8_digest_22 : decode cX8_digest 22 = .ok (.iinc 3 1, 3) := by decide +kernel
theorem dX8_digest_25 : decode cX8_digest 25 = .ok (.goto (-19), 3) := by decide +kernel
theorem dX8_digest_28 : decode cX8_digest 28 = .ok (.iconst 0, 1) := by decide +kernel
theorem dX8_digest_29 : decode cX8_digest 29 = .ok (.istore_n 3, 1) := by decide +kernel
theorem dX8_digest_30 : decode cX8_digest 30 = .ok (.iload_n 3, 1) := by decide +kernel
theorem dX8_digest_31 : decode cX8_digest 31 = .ok (.bipush 25, 2) := by decide +kernel
theorem dX8_digest_33 : decode cX8_digest 33 = .ok (.if_icmp .ge 55, 3) := by decide +kernel
theorem dX8_digest_36 : decode cX8_digest 36 = .ok (.iconst 0, 1) := by decide +kernel
theorem dX8_digest_37 : decode cX8_digest 37 = .ok (.istore 4, 2) := by decide +kernel
end
section
theorem dX8_digest_39 : decode cX8_digest 39 = .ok (.iload 4, 2) := by decide +kernel
theorem dX8_digest_41 : decode cX8_digest 41 = .ok (.iconst 5, 1) := by decide +kernel
theorem dX8_digest_42 : decode cX8_digest 42 = .ok (.if_icmp .gt 21, 3) := by decide +kernel
theorem dX8_digest_45 : decode cX8_digest 45 = .ok (.lload_n 1, 1) := by decide +kernel
theorem dX8_digest_46 : decode cX8_digest 46 = .ok (.aload_n 0, 1) := by decide +kernel
theorem dX8_digest_47 : decode cX8_digest 47 = .ok (.iload_n 3, 1) := by decide +kernel
theorem dX8_digest_48 : decode cX8_digest 48 = .ok (.iload 4, 2) := by decide +kernel
theorem dX8_digest_50 : decode cX8_digest 50 = .ok (.invokevirtual 264, 3) := by decide +kernel
theorem dX8_digest_53 : decode cX8_digest 53 = .ok (.invokestatic 260, 3) := by decide +kernel
theorem dX8_digest_56 : decode cX8_digest 56 = .ok (.lstore_n 1, 1) := by decide +kernel
theorem dX8_digest_57 : decode cX8_digest 57 = .ok (.iinc 4 1, 3) := by decide +kernel
theorem dX8_digest_60 : decode cX8_digest 60 = .ok (.goto (-21), 3) := by decide +kernel
theorem dX8_digest_63 : decode cX8_digest 63 = .ok (.lload_n 1, 1) := by decide +kernel
theorem dX8_digest_64 : decode cX8_digest 64 = .ok (.aload_n 0, 1) := by decide +kernel
theorem dX8_digest_65 : decode cX8_digest 65 = .ok (.iload_n 3, 1) := by decide +kernel
theorem dX8_digest_66 : decode cX8_digest 66 = .ok (.aload_n 0, 1) := by decide +kernel
theorem dX8_digest_67 : decode cX8_digest 67 = .ok (.getfield 21, 3) := by decide +kernel
theorem dX8_digest_70 : decode cX8_digest 70 = .ok (.getfield 186, 3) := by decide +kernel
theorem dX8_digest_73 : decode cX8_digest 73 = .ok (.iconst 3, 1) := by decide +kernel
theorem dX8_digest_74 : decode cX8_digest 74 = .ok (.iadd, 1) := by decide +kernel
theorem dX8_digest_75 : decode cX8_digest 75 = .ok (.invokevirtual 267, 3) := by decide +kernel
theorem dX8_digest_78 : decode cX8_digest 78 = .ok (.invokestatic 260, 3) := by decide +kernel
theorem dX8_digest_81 : decode cX8_digest 81 = .ok (.lstore_n 1, 1) := by decide +kernel
theorem dX8_digest_82 : decode cX8_digest 82 = .ok (.iinc 3 1, 3) := by decide +kernel
theorem dX8_digest_85 : decode cX8_digest 85 = .ok (.goto (-55), 3) := by decide +kernel
theorem dX8_digest_88 : decode cX8_digest 88 = .ok (.iconst 0, 1) := by decide +kernel
theorem dX8_digest_89 : decode cX8_digest 89 = .ok (.istore_n 3, 1) := by decide +kernel
theorem dX8_digest_90 : decode cX8_digest 90 = .ok (.iload_n 3, 1) := by decide +kernel
theorem dX8_digest_91 : decode cX8_digest 91 = .ok (.aload_n 0, 1) := by decide +kernel
theorem dX8_digest_92 : decode cX8_digest 92 = .ok (.getfield 21, 3) := by decide +kernel
theorem dX8_digest_95 : decode cX8_digest 95 = .ok (.getfield 97, 3) := by decide +kernel
theorem dX8_digest_98 : decode cX8_digest 98 = .ok (.if_icmp .ge 73, 3) := by decide +kernel
theorem dX8_digest_101 : decode cX8_digest 101 = .ok (.iconst 0, 1) := by decide +kernel
theorem dX8_digest_102 : decode cX8_digest 102 = .ok (.istore 4, 2) := by decide +kernel
theorem dX8_digest_104 : decode cX8_digest 104 = .ok (.iload 4, 2) := by decide +kernel
theorem dX8_digest_106 : decode cX8_digest 106 = .ok (.bipush 9, 2) := by decide +kernel
theorem dX8_digest_108 : decode cX8_digest 108 = .ok (.if_icmp .gt 21, 3) := by decide +kernel
theorem dX8_digest_111 : decode cX8_digest 111 = .ok (.lload_n 1, 1) := by decide +kernel
theorem dX8_digest_112 : decode cX8_digest 112 = .ok (.aload_n 0, 1) := by decide +kernel
theorem dX8_digest_113 : decode cX8_digest 113 = .ok (.iload_n 3, 1) := by decide +kernel
theorem dX8_digest_114 : decode cX8_digest 114 = .ok (.iload 4, 2) := by decide +kernel
theorem dX8_digest_116 : decode cX8_digest 116 = .ok (.invokevirtual 270, 3) := by decide +kernel
theorem dX8_digest_119 : decode cX8_digest 119 = .ok (.invokestatic 260, 3) := by decide +kernel
theorem dX8_digest_122 : decode cX8_digest 122 = .ok (.lstore_n 1, 1) := by decide +kernel
theorem dX8_digest_123 : decode cX8_digest 123 = .ok (.iinc 4 1, 3) := by decide +kernel
theorem dX8_digest_126 : decode cX8_digest 126 = .ok (.goto (-22), 3) := by decide +kernel
theorem dX8_digest_129 : decode cX8_digest 129 = .ok (.lload_n 1, 1) := by decide +kernel
theorem dX8_digest_130 : decode cX8_digest 130 = .ok (.aload_n 0, 1) := by decide +kernel
theorem dX8_digest_131 : decode cX8_digest 131 = .ok (.iload_n 3, 1) := by decide +kernel
theorem dX8_digest_132 : decode cX8_digest 132 = .ok (.bipush 12, 2) := by decide +kernel
theorem dX8_digest_134 : decode cX8_digest 134 = .ok (.invokevirtual 273, 3) := by decide +kernel
theorem dX8_digest_137 : decode cX8_digest 137 = .ok (.invokestatic 260, 3) := by decide +kernel
theorem dX8_digest_140 : decode cX8_digest 140 = .ok (.lstore_n 1, 1) := by decide +kernel
theorem dX8_digest_141 : decode cX8_digest 141 = .ok (.lload_n 1, 1) := by decide +kernel
theorem dX8_digest_142 : decode cX8_digest 142 = .ok (.aload_n 0, 1) := by decide +kernel
theorem dX8_digest_143 : decode cX8_digest 143 = .ok (.iload_n 3, 1) := by decide +kernel
theorem dX8_digest_144 : decode cX8_digest 144 = .ok (.bipush 12, 2) := by decide +kernel
theorem dX8_digest_146 : decode cX8_digest 146 = .ok (.invokevirtual 276, 3) := by decide +kernel
theorem dX8_digest_149 : decode cX8_digest 149 = .ok (.invokestatic 260, 3) := by decide +kernel
theorem dX8_digest_152 : decode cX8_digest 152 = .ok (.lstore_n 1, 1) := by decide +kernel
theorem dX8_digest_153 : decode cX8_digest 153 = .ok (.lload_n 1, 1) := by decide +kernel
theorem dX8_digest_154 : decode cX8_digest 154 = .ok (.aload_n 0, 1) := by decide +kernel
theorem dX8_digest_155 : decode cX8_digest 155 = .ok (.iload_n 3, 1) := by decide +kernel
theorem dX8_digest_156 : decode cX8_digest 156 = .ok (.bipush 10, 2) := by decide +kernel
theorem dX8_digest_158 : decode cX8_digest 158 = .ok (.invokevirtual 279, 3) := by decide +kernel
theorem dX8_digest_161 : decode cX8_digest 161 = .ok (.invokestatic 260, 3) := by decide +kernel
theorem dX8_digest_164 : decode cX8_digest 164 = .ok (.lstore_n 1, 1) := by decide +kernel
theorem dX8_digest_165 : decode cX8_digest 165 = .ok (.iinc 3 1, 3) := by decide +kernel
theorem dX8_digest_168 : decode cX8_digest 168 = .ok (.goto (-78), 3) := by decide +kernel
theorem dX8_digest_171 : decode cX8_digest 171 = .ok (.iconst 0, 1) := by decide +kernel
theorem dX8_digest_172 : decode cX8_digest 172 = .ok (.istore_n 3, 1) := by decide +kernel
theorem dX8_digest_173 : decode cX8_digest 173 = .ok (.iload_n 3, 1) := by decide +kernel
theorem dX8_digest_174 : decode cX8_digest 174 = .ok (.aload_n 0, 1) := by decide +kernel
theorem dX8_digest_175 : decode cX8_digest 175 = .ok (.getfield 21, 3) := by decide +kernel
theorem dX8_digest_178 : decode cX8_digest 178 = .ok (.getfield 153, 3) := by decide +kernel
theorem dX8_digest_181 : decode cX8_digest 181 = .ok (.if_icmp .ge 36, 3) := by decide +kernel
theorem dX8_digest_184 : decode cX8_digest 184 = .ok (.iconst 0, 1) := by decide +kernel
theorem dX8_digest_185 : decode cX8_digest 185 = .ok (.istore 4, 2) := by decide +kernel
theorem dX8_digest_187 : decode cX8_digest 187 = .ok (.iload 4, 2) := by decide +kernel
theorem dX8_digest_189 : decode cX8_digest 189 = .ok (.iconst 4, 1) := by decide +kernel
theorem dX8_digest_190 : decode cX8_digest 190 = .ok (.if_icmp .gt 21, 3) := by decide +kernel
theorem dX8_digest_193 : decode cX8_digest 193 = .ok (.lload_n 1, 1) := by decide +kernel
theorem dX8_digest_194 : decode cX8_digest 194 = .ok (.aload_n 0, 1) := by decide +kernel
theorem dX8_digest_195 : decode cX8_digest 195 = .ok (.iload_n 3, 1) := by decide +kernel
theorem dX8_digest_196 : decode cX8_digest 196 = .ok (.iload 4, 2) := by decide +kernel
theorem dX8_digest_198 : decode cX8_digest 198 = .ok (.invokevirtual 282, 3) := by decide +kernel
theorem dX8_digest_201 : decode cX8_digest 201 = .ok (.invokestatic 260, 3) := by decide +kernel
theorem dX8_digest_204 : decode cX8_digest 204 = .ok (.lstore_n 1, 1) := by decide +kernel
theorem dX8_digest_205 : decode cX8_digest 205 = .ok (.iinc 4 1, 3) := by decide +kernel
theorem dX8_digest_208 : decode cX8_digest 208 = .ok (.goto (-21), 3) := by decide +kernel
theorem dX8_digest_211 : decode cX8_digest 211 = .ok (.iinc 3 1, 3) := by decide +kernel
theorem dX8_digest_214 : decode cX8_digest 214 = .ok (.goto (-41), 3) := by decide +kernel
theorem dX8_digest_217 : decode cX8_digest 217 = .ok (.lload_n 1, 1) := by decide +kernel
theorem dX8_digest_218 : decode cX8_digest 218 = .ok (.aload_n 0, 1) := by decide +kernel
theorem dX8_digest_219 : decode cX8_digest 219 = .ok (.bipush 12, 2) := by decide +kernel
theorem dX8_digest_221 : decode cX8_digest 221 = .ok (.invokevirtual 285, 3) := by decide +kernel
theorem dX8_digest_224 : decode cX8_digest 224 = .ok (.invokestatic 260, 3) := by decide +kernel
theorem dX8_digest_227 : decode cX8_digest 227 = .ok (.lstore_n 1, 1) := by decide +kernel
theorem dX8_digest_228 : decode cX8_digest 228 = .ok (.aload_n 0, 1) := by decide +kernel
theorem dX8_digest_229 : decode cX8_digest 229 = .ok (.getfield 10, 3) := by decide +kernel
theorem dX8_digest_232 : decode cX8_digest 232 = .ok (.aload_n 0, 1) := by decide +kernel
theorem dX8_digest_233 : decode cX8_digest 233 = .ok (.getfield 31, 3) := by decide +kernel
theorem dX8_digest_236 : decode cX8_digest 236 = .ok (.invokevirtual 149, 3) := by decide +kernel
theorem dX8_digest_239 : decode cX8_digest 239 = .ok (.ifCond .eq 32, 3) := by decide +kernel
theorem dX8_digest_242 : decode cX8_digest 242 = .ok (.iconst 0, 1) := by decide +kernel
theorem dX8_digest_243 : decode cX8_digest 243 = .ok (.istore_n 3, 1) := by decide +kernel
theorem dX8_digest_244 : decode cX8_digest 244 = .ok (.iload_n 3, 1) := by decide +kernel
theorem dX8_digest_245 : decode cX8_digest 245 = .ok (.aload_n 0, 1) := by decide +kernel
theorem dX8_digest_246 : decode cX8_digest 246 = .ok (.getfield 21, 3) := by decide +kernel
theorem dX8_digest_249 : decode cX8_digest 249 = .ok (.getfield 97, 3) := by decide +kernel
theorem dX8_digest_252 : decode cX8_digest 252 = .ok (.if_icmp .ge 19, 3) := by decide +kernel
theorem dX8_digest_255 : decode cX8_digest 255 = .ok (.lload_n 1, 1) := by decide +kernel
theorem dX8_digest_256 : decode cX8_digest 256 = .ok (.aload_n 0, 1) := by decide +kernel
theorem dX8_digest_257 : decode cX8_digest 257 = .ok (.iload_n 3, 1) := by decide +kernel
theorem dX8_digest_258 : decode cX8_digest 258 = .ok (.invokevirtual 288, 3) := by decide +kernel
theorem dX8_digest_261 : decode cX8_digest 261 = .ok (.invokestatic 260, 3) := by decide +kernel
theorem dX8_digest_264 : decode cX8_digest 264 = .ok (.lstore_n 1, 1) := by decide +kernel
theorem dX8_digest_265 : decode cX8_digest 265 = .ok (.iinc 3 1, 3) := by decide +kernel
theorem dX8_digest_268 : decode cX8_digest 268 = .ok (.goto (-24), 3) := by decide +kernel
theorem dX8_digest_271 : decode cX8_digest 271 = .ok (.lload_n 1, 1) := by decide +kernel
theorem dX8_digest_272 : decode cX8_digest 272 = .ok (.lreturn, 1) := by decide +kernel
theorem dX8_mixed_0 : decode cX8_mixed 0 = .ok (.lload_n 0, 1) := by decide +kernel
theorem dX8_mixed_1 : decode cX8_mixed 1 = .ok (.ldc2_w 291, 3) := by decide +kernel
theorem dX8_mixed_4 : decode cX8_mixed 4 = .ok (.lmul, 1) := by decide +kernel
theorem dX8_mixed_5 : decode cX8_mixed 5 = .ok (.iload_n 2, 1) := by decide +kernel
theorem dX8_mixed_6 : decode cX8_mixed 6 = .ok (.i2l, 1) := by decide +kernel
theorem dX8_mixed_7 : decode cX8_mixed 7 = .ok (.ladd, 1) := by decide +kernel
theorem dX8_mixed_8 : decode cX8_mixed 8 = .ok (.lreturn, 1) := by decide +kernel
theorem dX8_checkIndex_0 : decode cX8_checkIndex 0 = .ok (.iload_n 0, 1) := by decide +kernel
theorem dX8_checkIndex_1 : decode cX8_checkIndex 1 = .ok (.ifCond .ne 14, 3) := by decide +kernel
theorem dX8_checkIndex_4 : decode cX8_checkIndex 4 = .ok (.new 293, 3) := by decide +kernel
theorem dX8_checkIndex_7 : decode cX8_checkIndex 7 = .ok (.dup, 1) := by decide +kernel
theorem dX8_checkIndex_8 : decode cX8_checkIndex 8 = .ok (.ldc_w 295, 3) := by decide +kernel
theorem dX8_checkIndex_11 : decode cX8_checkIndex 11 = .ok (.invokespecial 297, 3) := by decide +kernel
theorem dX8_checkIndex_14 : decode cX8_checkIndex 14 = .ok (.athrow, 1) := by decide +kernel
theorem dX8_checkIndex_15 : decode cX8_checkIndex 15 = .ok (.return_, 1) := by decide +kernel
theorem dX8_checkArgument_0 : decode cX8_checkArgument 0 = .ok (.iload_n 0, 1) := by decide +kernel
theorem dX8_checkArgument_1 : decode cX8_checkArgument 1 = .ok (.ifCond .ne 14, 3) := by decide +kernel
theorem dX8_checkArgument_4 : decode cX8_checkArgument 4 = .ok (.new 205, 3) := by decide +kernel
theorem dX8_checkArgument_7 : decode cX8_checkArgument 7 = .ok (.dup, 1) := by decide +kernel
theorem dX8_checkArgument_8 : decode cX8_checkArgument 8 = .ok (.ldc_w 298, 3) := by decide +kernel
theorem dX8_checkArgument_11 : decode cX8_checkArgument 11 = .ok (.invokespecial 209, 3) := by decide +kernel
theorem dX8_checkArgument_14 : decode cX8_checkArgument 14 = .ok (.athrow, 1) := by decide +kernel
theorem dX8_checkArgument_15 : decode cX8_checkArgument 15 = .ok (.return_, 1) := by decide +kernel
theorem dX8_checkState_0 : decode cX8_checkState 0 = .ok (.iload_n 0, 1) := by decide +kernel
theorem dX8_checkState_1 : decode cX8_checkState 1 = .ok (.ifCond .ne 14, 3) := by decide +kernel
theorem dX8_checkState_4 : decode cX8_checkState 4 = .ok (.new 300, 3) := by decide +kernel
theorem dX8_checkState_7 : decode cX8_checkState 7 = .ok (.dup, 1) := by decide +kernel
theorem dX8_checkState_8 : decode cX8_checkState 8 = .ok (.ldc_w 302, 3) := by decide +kernel
theorem dX8_checkState_11 : decode cX8_checkState 11 = .ok (.invokespecial 304, 3) := by decide +kernel
theorem dX8_checkState_14 : decode cX8_checkState 14 = .ok (.athrow, 1) := by decide +kernel
theorem dX8_checkState_15 : decode cX8_checkState 15 = .ok (.return_, 1) := by decide +kernel
theorem dX8_checkCell_0 : decode cX8_checkCell 0 = .ok (.iload_n 0, 1) := by decide +kernel
theorem dX8_checkCell_1 : decode cX8_checkCell 1 = .ok (.invokestatic 305, 3) := by decide +kernel
theorem dX8_checkCell_4 : decode cX8_checkCell 4 = .ok (.invokestatic 94, 3) := by decide +kernel
theorem dX8_checkCell_7 : decode cX8_checkCell 7 = .ok (.return_, 1) := by decide +kernel
theorem dX8_checkCraft_0 : decode cX8_checkCraft 0 = .ok (.aload_n 0, 1) := by decide +kernel
theorem dX8_checkCraft_1 : decode cX8_checkCraft 1 = .ok (.getfield 21, 3) := by decide +kernel
theorem dX8_checkCraft_4 : decode cX8_checkCraft 4 = .ok (.iload_n 1, 1) := by decide +kernel
theorem dX8_checkCraft_5 : decode cX8_checkCraft 5 = .ok (.invokevirtual 309, 3) := by decide +kernel
theorem dX8_checkCraft_8 : decode cX8_checkCraft 8 = .ok (.invokestatic 94, 3) := by decide +kernel
theorem dX8_checkCraft_11 : decode cX8_checkCraft 11 = .ok (.return_, 1) := by decide +kernel
theorem dX8_checkFlight_0 : decode cX8_checkFlight 0 = .ok (.iload_n 1, 1) := by decide +kernel
theorem dX8_checkFlight_1 : decode cX8_checkFlight 1 = .ok (.ifCond .lt 18, 3) := by decide +kernel
theorem dX8_checkFlight_4 : decode cX8_checkFlight 4 = .ok (.iload_n 1, 1) := by decide +kernel
theorem dX8_checkFlight_5 : decode cX8_checkFlight 5 = .ok (.aload_n 0, 1) := by decide +kernel
theorem dX8_checkFlight_6 : decode cX8_checkFlight 6 = .ok (.getfield 21, 3) := by decide +kernel
theorem dX8_checkFlight_9 : decode cX8_checkFlight 9 = .ok (.getfield 153, 3) := by decide +kernel
theorem dX8_checkFlight_12 : decode cX8_checkFlight 12 = .ok (.if_icmp .ge 7, 3) := by decide +kernel
theorem dX8_checkFlight_15 : decode cX8_checkFlight 15 = .ok (.iconst 1, 1) := by decide +kernel
theorem dX8_checkFlight_16 : decode cX8_checkFlight 16 = .ok (.goto 4, 3) := by decide +kernel
theorem dX8_checkFlight_19 : decode cX8_checkFlight 19 = .ok (.iconst 0, 1) := by decide +kernel
theorem dX8_checkFlight_20 : decode cX8_checkFlight 20 = .ok (.invokestatic 94, 3) := by decide +kernel
theorem dX8_checkFlight_23 : decode cX8_checkFlight 23 = .ok (.return_, 1) := by decide +kernel
theorem dX8_checkStart_0 : decode cX8_checkStart 0 = .ok (.iload_n 1, 1) := by decide +kernel
theorem dX8_checkStart_1 : decode cX8_checkStart 1 = .ok (.aload_n 0, 1) := by decide +kernel
theorem dX8_checkStart_2 : decode cX8_checkStart 2 = .ok (.getfield 21, 3) := by decide +kernel
theorem dX8_checkStart_5 : decode cX8_checkStart 5 = .ok (.getfield 186, 3) := by decide +kernel
theorem dX8_checkStart_8 : decode cX8_checkStart 8 = .ok (.if_icmp .le 22, 3) := by decide +kernel
theorem dX8_checkStart_11 : decode cX8_checkStart 11 = .ok (.iload_n 1, 1) := by decide +kernel
theorem dX8_checkStart_12 : decode cX8_checkStart 12 = .ok (.aload_n 0, 1) := by decide +kernel
theorem dX8_checkStart_13 : decode cX8_checkStart 13 = .ok (.getfield 21, 3) := by decide +kernel
theorem dX8_checkStart_16 : decode cX8_checkStart 16 = .ok (.getfield 186, 3) := by decide +kernel
theorem dX8_checkStart_19 : decode cX8_checkStart 19 = .ok (.sipush 2000, 3) := by decide +kernel
theorem dX8_checkStart_22 : decode cX8_checkStart 22 = .ok (.iadd, 1) := by decide +kernel
theorem dX8_checkStart_23 : decode cX8_checkStart 23 = .ok (.if_icmp .gt 7, 3) := by decide +kernel
theorem dX8_checkStart_26 : decode cX8_checkStart 26 = .ok (.iconst 1, 1) := by decide +kernel
theorem dX8_checkStart_27 : decode cX8_checkStart 27 = .ok (.goto 4, 3) := by decide +kernel
theorem dX8_checkStart_30 : decode cX8_checkStart 30 = .ok (.iconst 0, 1) := by decide +kernel
theorem dX8_checkStart_31 : decode cX8_checkStart 31 = .ok (.invokestatic 55, 3) := by decide +kernel
theorem dX8_checkStart_34 : decode cX8_checkStart 34 = .ok (.return_, 1) := by decide +kernel
theorem dX8_checkMinutes_0 : decode cX8_checkMinutes 0 = .ok (.iload_n 0, 1) := by decide +kernel
theorem dX8_checkMinutes_1 : decode cX8_checkMinutes 1 = .ok (.iconst 1, 1) := by decide +kernel
theorem dX8_checkMinutes_2 : decode cX8_checkMinutes 2 = .ok (.if_icmp .lt 13, 3) := by decide +kernel
theorem dX8_checkMinutes_5 : decode cX8_checkMinutes 5 = .ok (.iload_n 0, 1) := by decide +kernel
theorem dX8_checkMinutes_6 : decode cX8_checkMinutes 6 = .ok (.bipush 100, 2) := by decide +kernel
theorem dX8_checkMinutes_8 : decode cX8_checkMinutes 8 = .ok (.if_icmp .gt 7, 3) := by decide +kernel
theorem dX8_checkMinutes_11 : decode cX8_checkMinutes 11 = .ok (.iconst 1, 1) := by decide +kernel
theorem dX8_checkMinutes_12 : decode cX8_checkMinutes 12 = .ok (.goto 4, 3) := by decide +kernel
theorem dX8_checkMinutes_15 : decode cX8_checkMinutes 15 = .ok (.iconst 0, 1) := by decide +kernel
theorem dX8_checkMinutes_16 : decode cX8_checkMinutes 16 = .ok (.invokestatic 55, 3) := by decide +kernel
theorem dX8_checkMinutes_19 : decode cX8_checkMinutes 19 = .ok (.return_, 1) := by decide +kernel
theorem dX8_isCell_0 : decode cX8_isCell 0 = .ok (.iload_n 0, 1) := by decide +kernel
theorem dX8_isCell_1 : decode cX8_isCell 1 = .ok (.ifCond .lt 13, 3) := by decide +kernel
theorem dX8_isCell_4 : decode cX8_isCell 4 = .ok (.iload_n 0, 1) := by decide +kernel
theorem dX8_isCell_5 : decode cX8_isCell 5 = .ok (.bipush 25, 2) := by decide +kernel
theorem dX8_isCell_7 : decode cX8_isCell 7 = .ok (.if_icmp .ge 7, 3) := by decide +kernel
theorem dX8_isCell_10 : decode cX8_isCell 10 = .ok (.iconst 1, 1) := by decide +kernel
theorem dX8_isCell_11 : decode cX8_isCell 11 = .ok (.goto 4, 3) := by decide +kernel
theorem dX8_isCell_14 : decode cX8_isCell 14 = .ok (.iconst 0, 1) := by decide +kernel
theorem dX8_isCell_15 : decode cX8_isCell 15 = .ok (.ireturn, 1) := by decide +kernel
theorem dJ7_fill_53178_0 : decode cJ7_fill_53178 0 = .ok (.iconst 0, 1) := by decide +kernel
theorem dJ7_fill_53178_1 : decode cJ7_fill_53178 1 = .ok (.istore_n 2, 1) := by decide +kernel
theorem dJ7_fill_53178_2 : decode cJ7_fill_53178 2 = .ok (.aload_n 0, 1) := by decide +kernel
theorem dJ7_fill_53178_3 : decode cJ7_fill_53178 3 = .ok (.arraylength, 1) := by decide +kernel
theorem dJ7_fill_53178_4 : decode cJ7_fill_53178 4 = .ok (.istore_n 3, 1) := by decide +kernel
theorem dJ7_fill_53178_5 : decode cJ7_fill_53178 5 = .ok (.iload_n 2, 1) := by decide +kernel
theorem dJ7_fill_53178_6 : decode cJ7_fill_53178 6 = .ok (.iload_n 3, 1) := by decide +kernel
theorem dJ7_fill_53178_7 : decode cJ7_fill_53178 7 = .ok (.if_icmp .ge 13, 3) := by decide +kernel
theorem dJ7_fill_53178_10 : decode cJ7_fill_53178 10 = .ok (.aload_n 0, 1) := by decide +kernel
theorem dJ7_fill_53178_11 : decode cJ7_fill_53178 11 = .ok (.iload_n 2, 1) := by decide +kernel
theorem dJ7_fill_53178_12 : decode cJ7_fill_53178 12 = .ok (.iload_n 1, 1) := by decide +kernel
theorem dJ7_fill_53178_13 : decode cJ7_fill_53178 13 = .ok (.iastore, 1) := by decide +kernel
theorem dJ7_fill_53178_14 : decode cJ7_fill_53178 14 = .ok (.iinc 2 1, 3) := by decide +kernel
theorem dJ7_fill_53178_17 : decode cJ7_fill_53178 17 = .ok (.goto (-12), 3) := by decide +kernel
theorem dJ7_fill_53178_20 : decode cJ7_fill_53178 20 = .ok (.return_, 1) := by decide +kernel
theorem dL_below_0 : decode cL_below 0 = .ok (.iload_n 0, 1) := by decide +kernel
theorem dL_below_1 : decode cL_below 1 = .ok (.ldc 7, 2) := by decide +kernel
theorem dL_below_3 : decode cL_below 3 = .ok (.iand, 1) := by decide +kernel
theorem dL_below_4 : decode cL_below 4 = .ok (.iload_n 1, 1) := by decide +kernel
theorem dL_below_5 : decode cL_below 5 = .ok (.irem, 1) := by decide +kernel
theorem dL_below_6 : decode cL_below 6 = .ok (.ireturn, 1) := by decide +kernel
theorem dL_cell_0 : decode cL_cell 0 = .ok (.iload_n 1, 1) := by decide +kernel
theorem dL_cell_1 : decode cL_cell 1 = .ok (.aload_n 0, 1) := by decide +kernel
theorem dL_cell_2 : decode cL_cell 2 = .ok (.arraylength, 1) := by decide +kernel
theorem dL_cell_3 : decode cL_cell 3 = .ok (.if_icmp .ge 9, 3) := by decide +kernel
theorem dL_cell_6 : decode cL_cell 6 = .ok (.aload_n 0, 1) := by decide +kernel
theorem dL_cell_7 : decode cL_cell 7 = .ok (.iload_n 1, 1) := by decide +kernel
theorem dL_cell_8 : decode cL_cell 8 = .ok (.iaload, 1) := by decide +kernel
theorem dL_cell_9 : decode cL_cell 9 = .ok (.goto 9, 3) := by decide +kernel
theorem dL_cell_12 : decode cL_cell 12 = .ok (.ldc 8, 2) := by decide +kernel
theorem dL_cell_14 : decode cL_cell 14 = .ok (.iload_n 1, 1) := by decide +kernel
theorem dL_cell_15 : decode cL_cell 15 = .ok (.iconst 3, 1) := by decide +kernel
theorem dL_cell_16 : decode cL_cell 16 = .ok (.iadd, 1) := by decide +kernel
theorem dL_cell_17 : decode cL_cell 17 = .ok (.imul, 1) := by decide +kernel
theorem dL_cell_18 : decode cL_cell 18 = .ok (.ireturn, 1) := by decide +kernel
theorem dL_law_0 : decode cL_law 0 = .ok (.new 9, 3) := by decide +kernel
theorem dL_law_3 : decode cL_law 3 = .ok (.dup, 1) := by decide +kernel
theorem dL_law_4 : decode cL_law 4 = .ok (.invokespecial 11, 3) := by decide +kernel
theorem dL_law_7 : decode cL_law 7 = .ok (.astore_n 1, 1) := by decide +kernel
theorem dL_law_8 : decode cL_law 8 = .ok (.iconst 5, 1) := by decide +kernel
theorem dL_law_9 : decode cL_law 9 = .ok (.newarray .int, 2) := by decide +kernel
theorem dL_law_11 : decode cL_law 11 = .ok (.dup, 1) := by decide +kernel
theorem dL_law_12 : decode cL_law 12 = .ok (.iconst 0, 1) := by decide +kernel
theorem dL_law_13 : decode cL_law 13 = .ok (.iconst 0, 1) := by decide +kernel
theorem dL_law_14 : decode cL_law 14 = .ok (.iastore, 1) := by decide +kernel
theorem dL_law_15 : decode cL_law 15 = .ok (.dup, 1) := by decide +kernel
theorem dL_law_16 : decode cL_law 16 = .ok (.iconst 1, 1) := by decide +kernel
theorem dL_law_17 : decode cL_law 17 = .ok (.iconst 2, 1) := by decide +kernel
theorem dL_law_18 : decode cL_law 18 = .ok (.iastore, 1) := by decide +kernel
theorem dL_law_19 : decode cL_law 19 = .ok (.dup, 1) := by decide +kernel
theorem dL_law_20 : decode cL_law 20 = .ok (.iconst 2, 1) := by decide +kernel
theorem dL_law_21 : decode cL_law 21 = .ok (.bipush 12, 2) := by decide +kernel
theorem dL_law_23 : decode cL_law 23 = .ok (.iastore, 1) := by decide +kernel
theorem dL_law_24 : decode cL_law 24 = .ok (.dup, 1) := by decide +kernel
theorem dL_law_25 : decode cL_law 25 = .ok (.iconst 3, 1) := by decide +kernel
theorem dL_law_26 : decode cL_law 26 = .ok (.bipush 20, 2) := by decide +kernel
theorem dL_law_28 : decode cL_law 28 = .ok (.iastore, 1) := by decide +kernel
theorem dL_law_29 : decode cL_law 29 = .ok (.dup, 1) := by decide +kernel
theorem dL_law_30 : decode cL_law 30 = .ok (.iconst 4, 1) := by decide +kernel
theorem dL_law_31 : decode cL_law 31 = .ok (.bipush 24, 2) := by decide +kernel
theorem dL_law_33 : decode cL_law 33 = .ok (.iastore, 1) := by decide +kernel
theorem dL_law_34 : decode cL_law 34 = .ok (.astore_n 2, 1) := by decide +kernel
theorem dL_law_35 : decode cL_law 35 = .ok (.iconst 0, 1) := by decide +kernel
theorem dL_law_36 : decode cL_law 36 = .ok (.istore_n 3, 1) := by decide +kernel
theorem dL_law_37 : decode cL_law 37 = .ok (.iload_n 3, 1) := by decide +kernel
theorem dL_law_38 : decode cL_law 38 = .ok (.iconst 5, 1) := by decide +kernel
theorem dL_law_39 : decode cL_law 39 = .ok (.if_icmp .ge 22, 3) := by decide +kernel
theorem dL_law_42 : decode cL_law 42 = .ok (.aload_n 1, 1) := by decide +kernel
theorem dL_law_43 : decode cL_law 43 = .ok (.aload_n 2, 1) := by decide +kernel
theorem dL_law_44 : decode cL_law 44 = .ok (.iload_n 3, 1) := by decide +kernel
theorem dL_law_45 : decode cL_law 45 = .ok (.iaload, 1) := by decide +kernel
theorem dL_law_46 : decode cL_law 46 = .ok (.invokevirtual 12, 3) := by decide +kernel
theorem dL_law_49 : decode cL_law 49 = .ok (.iload_n 3, 1) := by decide +kernel
theorem dL_law_50 : decode cL_law 50 = .ok (.if_icmp .eq 5, 3) := by decide +kernel
theorem dL_law_53 : decode cL_law 53 = .ok (.iconst 0, 1) := by decide +kernel
theorem dL_law_54 : decode cL_law 54 = .ok (.ireturn, 1) := by decide +kernel
theorem dL_law_55 : decode cL_law 55 = .ok (.iinc 3 1, 3) := by decide +kernel
theorem dL_law_58 : decode cL_law 58 = .ok (.goto (-21), 3) := by decide +kernel
theorem dL_law_61 : decode cL_law 61 = .ok (.iconst 0, 1) := by decide +kernel
theorem dL_law_62 : decode cL_law 62 = .ok (.istore_n 3, 1) := by decide +kernel
theorem dL_law_63 : decode cL_law 63 = .ok (.iload_n 3, 1) := by decide +kernel
theorem dL_law_64 : decode cL_law 64 = .ok (.iconst 5, 1) := by decide +kernel
theorem dL_law_65 : decode cL_law 65 = .ok (.if_icmp .ge 66, 3) := by decide +kernel
theorem dL_law_68 : decode cL_law 68 = .ok (.aload_n 1, 1) := by decide +kernel
theorem dL_law_69 : decode cL_law 69 = .ok (.aload_n 0, 1) := by decide +kernel
theorem dL_law_70 : decode cL_law 70 = .ok (.iload_n 3, 1) := by decide +kernel
theorem dL_law_71 : decode cL_law 71 = .ok (.invokestatic 16, 3) := by decide +kernel
theorem dL_law_74 : decode cL_law 74 = .ok (.iconst 5, 1) := by decide +kernel
theorem dL_law_75 : decode cL_law 75 = .ok (.invokestatic 22, 3) := by decide +kernel
theorem dL_law_78 : decode cL_law 78 = .ok (.aload_n 0, 1) := by decide +kernel
theorem dL_law_79 : decode cL_law 79 = .ok (.iload_n 3, 1) := by decide +kernel
theorem dL_law_80 : decode cL_law 80 = .ok (.invokestatic 16, 3) := by decide +kernel
theorem dL_law_83 : decode cL_law 83 = .ok (.iconst 3, 1) := by decide +kernel
theorem dL_law_84 : decode cL_law 84 = .ok (.ishr, 1) := by decide +kernel
theorem dL_law_85 : decode cL_law 85 = .ok (.iconst 4, 1) := by decide +kernel
theorem dL_law_86 : decode cL_law 86 = .ok (.invokestatic 22, 3) := by decide +kernel
theorem dL_law_89 : decode cL_law 89 = .ok (.bipush 20, 2) := by decide +kernel
theorem dL_law_91 : decode cL_law 91 = .ok (.aload_n 0, 1) := by decide +kernel
theorem dL_law_92 : decode cL_law 92 = .ok (.iload_n 3, 1) := by decide +kernel
theorem dL_law_93 : decode cL_law 93 = .ok (.iconst 1, 1) := by decide +kernel
theorem dL_law_94 : decode cL_law 94 = .ok (.iadd, 1) := by decide +kernel
theorem dL_law_95 : decode cL_law 95 = .ok (.invokestatic 16, 3) := by decide +kernel
theorem dL_law_98 : decode cL_law 98 = .ok (.bipush 100, 2) := by decide +kernel
theorem dL_law_100 : decode cL_law 100 = .ok (.invokestatic 22, 3) := by decide +kernel
theorem dL_law_103 : decode cL_law 103 = .ok (.iadd, 1) := by decide +kernel
theorem dL_law_104 : decode cL_law 104 = .ok (.aload_n 0, 1) := by decide +kernel
theorem dL_law_105 : decode cL_law 105 = .ok (.iload_n 3, 1) := by decide +kernel
theorem dL_law_106 : decode cL_law 106 = .ok (.iconst 2, 1) := by decide +kernel
theorem dL_law_107 : decode cL_law 107 = .ok (.iadd, 1) := by decide +kernel
theorem dL_law_108 : decode cL_law 108 = .ok (.invokestatic 16, 3) := by decide +kernel
theorem dL_law_111 : decode cL_law 111 = .ok (.bipush 10, 2) := by decide +kernel
theorem dL_law_113 : decode cL_law 113 = .ok (.invokestatic 22, 3) := by decide +kernel
theorem dL_law_116 : decode cL_law 116 = .ok (.invokevirtual 26, 3) := by decide +kernel
theorem dL_law_119 : decode cL_law 119 = .ok (.iload_n 3, 1) := by decide +kernel
theorem dL_law_120 : decode cL_law 120 = .ok (.if_icmp .eq 5, 3) := by decide +kernel
theorem dL_law_123 : decode cL_law 123 = .ok (.iconst 0, 1) := by decide +kernel
theorem dL_law_124 : decode cL_law 124 = .ok (.ireturn, 1) := by decide +kernel
theorem dL_law_125 : decode cL_law 125 = .ok (.iinc 3 1, 3) := by decide +kernel
theorem dL_law_128 : decode cL_law 128 = .ok (.goto (-65), 3) := by decide +kernel
theorem dL_law_131 : decode cL_law 131 = .ok (.iconst 0, 1) := by decide +kernel
theorem dL_law_132 : decode cL_law 132 = .ok (.istore_n 3, 1) := by decide +kernel
theorem dL_law_133 : decode cL_law 133 = .ok (.iload_n 3, 1) := by decide +kernel
theorem dL_law_134 : decode cL_law 134 = .ok (.bipush 25, 2) := by decide +kernel
theorem dL_law_136 : decode cL_law 136 = .ok (.if_icmp .ge 35, 3) := by decide +kernel
theorem dL_law_139 : decode cL_law 139 = .ok (.aload_n 1, 1) := by decide +kernel
theorem dL_law_140 : decode cL_law 140 = .ok (.iload_n 3, 1) := by decide +kernel
theorem dL_law_141 : decode cL_law 141 = .ok (.aload_n 0, 1) := by decide +kernel
theorem dL_law_142 : decode cL_law 142 = .ok (.iload_n 3, 1) := by decide +kernel
theorem dL_law_143 : decode cL_law 143 = .ok (.bipush 16, 2) := by decide +kernel
theorem dL_law_145 : decode cL_law 145 = .ok (.irem, 1) := by decide +kernel
theorem dL_law_146 : decode cL_law 146 = .ok (.invokestatic 16, 3) := by decide +kernel
theorem dL_law_149 : decode cL_law 149 = .ok (.iload_n 3, 1) := by decide +kernel
theorem dL_law_150 : decode cL_law 150 = .ok (.iconst 5, 1) := by decide +kernel
theorem dL_law_151 : decode cL_law 151 = .ok (.irem, 1) := by decide +kernel
theorem dL_law_152 : decode cL_law 152 = .ok (.ishr, 1) := by decide +kernel
theorem dL_law_153 : decode cL_law 153 = .ok (.iconst 4, 1) := by decide +kernel
theorem dL_law_154 : decode cL_law 154 = .ok (.invokestatic 22, 3) := by decide +kernel
theorem dL_law_157 : decode cL_law 157 = .ok (.invokevirtual 30, 3) := by decide +kernel
theorem dL_law_160 : decode cL_law 160 = .ok (.ifCond .eq 5, 3) := by decide +kernel
theorem dL_law_163 : decode cL_law 163 = .ok (.iconst 0, 1) := by decide +kernel
theorem dL_law_164 : decode cL_law 164 = .ok (.ireturn, 1) := by decide +kernel
theorem dL_law_165 : decode cL_law 165 = .ok (.iinc 3 1, 3) := by decide +kernel
theorem dL_law_168 : decode cL_law 168 = .ok (.goto (-35), 3) := by decide +kernel
theorem dL_law_171 : decode cL_law 171 = .ok (.iconst 1, 1) := by decide +kernel
theorem dL_law_172 : decode cL_law 172 = .ok (.istore_n 3, 1) := by decide +kernel
theorem dL_law_173 : decode cL_law 173 = .ok (.iconst 0, 1) := by decide +kernel
theorem dL_law_174 : decode cL_law 174 = .ok (.istore 4, 2) := by decide +kernel
theorem dL_law_176 : decode cL_law 176 = .ok (.iload 4, 2) := by decide +kernel
theorem dL_law_178 : decode cL_law 178 = .ok (.bipush 44, 2) := by decide +kernel
theorem dL_law_180 : decode cL_law 180 = .ok (.if_icmp .ge 533, 3) := by decide +kernel
theorem dL_law_183 : decode cL_law 183 = .ok (.aload_n 0, 1) := by decide +kernel
theorem dL_law_184 : decode cL_law 184 = .ok (.iload 4, 2) := by decide +kernel
theorem dL_law_186 : decode cL_law 186 = .ok (.bipush 16, 2) := by decide +kernel
theorem dL_law_188 : decode cL_law 188 = .ok (.irem, 1) := by decide +kernel
theorem dL_law_189 : decode cL_law 189 = .ok (.invokestatic 16, 3) := by decide +kernel
theorem dL_law_192 : decode cL_law 192 = .ok (.bipush 31, 2) := by decide +kernel
theorem dL_law_194 : decode cL_law 194 = .ok (.iload 4, 2) := by decide +kernel
theorem dL_law_196 : decode cL_law 196 = .ok (.imul, 1) := by decide +kernel
theorem dL_law_197 : decode cL_law 197 = .ok (.iadd, 1) := by decide +kernel
theorem dL_law_198 : decode cL_law 198 = .ok (.istore 5, 2) := by decide +kernel
theorem dL_law_200 : decode cL_law 200 = .ok (.aload_n 0, 1) := by decide +kernel
theorem dL_law_201 : decode cL_law 201 = .ok (.bipush 7, 2) := by decide +kernel
theorem dL_law_203 : decode cL_law 203 = .ok (.iload 4, 2) := by decide +kernel
theorem dL_law_205 : decode cL_law 205 = .ok (.imul, 1) := by decide +kernel
theorem dL_law_206 : decode cL_law 206 = .ok (.iconst 3, 1) := by decide +kernel
theorem dL_law_207 : decode cL_law 207 = .ok (.iadd, 1) := by decide +kernel
theorem dL_law_208 : decode cL_law 208 = .ok (.bipush 16, 2) := by decide +kernel
theorem dL_law_210 : decode cL_law 210 = .ok (.irem, 1) := by decide +kernel
theorem dL_law_211 : decode cL_law 211 = .ok (.invokestatic 16, 3) := by decide +kernel
theorem dL_law_214 : decode cL_law 214 = .ok (.iconst 5, 1) := by decide +kernel
theorem dL_law_215 : decode cL_law 215 = .ok (.iload 4, 2) := by decide +kernel
theorem dL_law_217 : decode cL_law 217 = .ok (.imul, 1) := by decide +kernel
theorem dL_law_218 : decode cL_law 218 = .ok (.iadd, 1) := by decide +kernel
theorem dL_law_219 : decode cL_law 219 = .ok (.istore 6, 2) := by decide +kernel
theorem dL_law_221 : decode cL_law 221 = .ok (.iload 6, 2) := by decide +kernel
theorem dL_law_223 : decode cL_law 223 = .ok (.iconst 5, 1) := by decide +kernel
theorem dL_law_224 : decode cL_law 224 = .ok (.invokestatic 22, 3) := by decide +kernel
theorem dL_law_227 : decode cL_law 227 = .ok (.istore 7, 2) := by decide +kernel
theorem dL_law_229 : decode cL_law 229 = .ok (.iload 5, 2) := by decide +kernel
theorem dL_law_231 : decode cL_law 231 = .ok (.bipush 13, 2) := by decide +kernel
theorem dL_law_233 : decode cL_law 233 = .ok (.invokestatic 22, 3) := by decide +kernel
theorem dL_law_236 : decode cL_law 236 = .ok (.tableswitch 436 0 9 #[56, 82, 146, 239, 300, 354, 354, 354, 354, 374], 56) := by decide +kernel
theorem dL_law_292 : decode cL_law 292 = .ok (.aload_n 1, 1) := by decide +kernel
theorem dL_law_293 : decode cL_law 293 = .ok (.iload 5, 2) := by decide +kernel
theorem dL_law_295 : decode cL_law 295 = .ok (.iconst 4, 1) := by decide +kernel
theorem dL_law_296 : decode cL_law 296 = .ok (.ishr, 1) := by decide +kernel
theorem dL_law_297 : decode cL_law 297 = .ok (.iconst 4, 1) := by decide +kernel
theorem dL_law_298 : decode cL_law 298 = .ok (.invokestatic 22, 3) := by decide +kernel
theorem dL_law_301 : decode cL_law 301 = .ok (.iload 6, 2) := by decide +kernel
theorem dL_law_303 : decode cL_law 303 = .ok (.iconst 3, 1) := by decide +kernel
theorem dL_law_304 : decode cL_law 304 = .ok (.ishr, 1) := by decide +kernel
theorem dL_law_305 : decode cL_law 305 = .ok (.iconst 4, 1) := by decide +kernel
theorem dL_law_306 : decode cL_law 306 = .ok (.invokestatic 22, 3) := by decide +kernel
theorem dL_law_309 : decode cL_law 309 = .ok (.invokevirtual 33, 3) := by decide +kernel
theorem dL_law_312 : decode cL_law 312 = .ok (.iconst 3, 1) := by decide +kernel
theorem dL_law_313 : decode cL_law 313 = .ok (.if_icmp .le 394, 3) := by decide +kernel
theorem dL_law_316 : decode cL_law 316 = .ok (.iconst 0, 1) := by decide +kernel
theorem dL_law_317 : decode cL_law 317 = .ok (.ireturn, 1) := by decide +kernel
theorem dL_law_318 : decode cL_law 318 = .ok (.aload_n 1, 1) := by decide +kernel
theorem dL_law_319 : decode cL_law 319 = .ok (.iconst 2, 1) := by decide +kernel
theorem dL_law_320 : decode cL_law 320 = .ok (.invokevirtual 36, 3) := by decide +kernel
theorem dL_law_323 : decode cL_law 323 = .ok (.bipush 6, 2) := by decide +kernel
theorem dL_law_325 : decode cL_law 325 = .ok (.if_icmp .ge 382, 3) := by decide +kernel
theorem dL_law_328 : decode cL_law 328 = .ok (.aload_n 1, 1) := by decide +kernel
theorem dL_law_329 : decode cL_law 329 = .ok (.iload 5, 2) := by decide +kernel
theorem dL_law_331 : decode cL_law 331 = .ok (.iconst 4, 1) := by decide +kernel
theorem dL_law_332 : decode cL_law 332 = .ok (.ishr, 1) := by decide +kernel
theorem dL_law_333 : decode cL_law 333 = .ok (.bipush 25, 2) := by decide +kernel
theorem dL_law_335 : decode cL_law 335 = .ok (.invokestatic 22, 3) := by decide +kernel
theorem dL_law_338 : decode cL_law 338 = .ok (.iload 6, 2) := by decide +kernel
theorem dL_law_340 : decode cL_law 340 = .ok (.iconst 2, 1) := by decide +kernel
theorem dL_law_341 : decode cL_law 341 = .ok (.ishr, 1) := by decide +kernel
theorem dL_law_342 : decode cL_law 342 = .ok (.bipush 24, 2) := by decide +kernel
theorem dL_law_344 : decode cL_law 344 = .ok (.invokestatic 22, 3) := by decide +kernel
theorem dL_law_347 : decode cL_law 347 = .ok (.iload 6, 2) := by decide +kernel
theorem dL_law_349 : decode cL_law 349 = .ok (.iconst 4, 1) := by decide +kernel
theorem dL_law_350 : decode cL_law 350 = .ok (.ishr, 1) := by decide +kernel
theorem dL_law_351 : decode cL_law 351 = .ok (.bipush 24, 2) := by decide +kernel
theorem dL_law_353 : decode cL_law 353 = .ok (.invokestatic 22, 3) := by decide +kernel
theorem dL_law_356 : decode cL_law 356 = .ok (.iconst 1, 1) := by decide +kernel
theorem dL_law_357 : decode cL_law 357 = .ok (.iload 5, 2) := by decide +kernel
theorem dL_law_359 : decode cL_law 359 = .ok (.bipush 6, 2) := by decide +kernel
theorem dL_law_361 : decode cL_law 361 = .ok (.ishr, 1) := by decide +kernel
theorem dL_law_362 : decode cL_law 362 = .ok (.iconst 4, 1) := by decide +kernel
theorem dL_law_363 : decode cL_law 363 = .ok (.invokestatic 22, 3) := by decide +kernel
theorem dL_law_366 : decode cL_law 366 = .ok (.iadd, 1) := by decide +kernel
theorem dL_law_367 : decode cL_law 367 = .ok (.invokevirtual 39, 3) := by decide +kernel
theorem dL_law_370 : decode cL_law 370 = .ok (.aload_n 1, 1) := by decide +kernel
theorem dL_law_371 : decode cL_law 371 = .ok (.iconst 2, 1) := by decide +kernel
theorem dL_law_372 : decode cL_law 372 = .ok (.invokevirtual 36, 3) := by decide +kernel
theorem dL_law_375 : decode cL_law 375 = .ok (.iconst 1, 1) := by decide +kernel
theorem dL_law_376 : decode cL_law 376 = .ok (.isub, 1) := by decide +kernel
theorem dL_law_377 : decode cL_law 377 = .ok (.if_icmp .eq 330, 3) := by decide +kernel
theorem dL_law_380 : decode cL_law 380 = .ok (.iconst 0, 1) := by decide +kernel
theorem dL_law_381 : decode cL_law 381 = .ok (.ireturn, 1) := by decide +kernel
theorem dL_law_382 : decode cL_law 382 = .ok (.iload 5, 2) := by decide +kernel
theorem dL_law_384 : decode cL_law 384 = .ok (.iconst 4, 1) := by decide +kernel
theorem dL_law_385 : decode cL_law 385 = .ok (.ishr, 1) := by decide +kernel
theorem dL_law_386 : decode cL_law 386 = .ok (.bipush 25, 2) := by decide +kernel
theorem dL_law_388 : decode cL_law 388 = .ok (.invokestatic 22, 3) := by decide +kernel
theorem dL_law_391 : decode cL_law 391 = .ok (.istore 8, 2) := by decide +kernel
theorem dL_law_393 : decode cL_law 393 = .ok (.aload_n 1, 1) := by decide +kernel
theorem dL_law_394 : decode cL_law 394 = .ok (.iload 8, 2) := by decide +kernel
theorem dL_law_396 : decode cL_law 396 = .ok (.iconst 1, 1) := by decide +kernel
theorem dL_law_397 : decode cL_law 397 = .ok (.invokevirtual 42, 3) := by decide +kernel
theorem dL_law_400 : decode cL_law 400 = .ok (.iconst 1, 1) := by decide +kernel
theorem dL_law_401 : decode cL_law 401 = .ok (.if_icmp .ne 7, 3) := by decide +kernel
theorem dL_law_404 : decode cL_law 404 = .ok (.iconst 1, 1) := by decide +kernel
theorem dL_law_405 : decode cL_law 405 = .ok (.goto 4, 3) := by decide +kernel
theorem dL_law_408 : decode cL_law 408 = .ok (.iconst 0, 1) := by decide +kernel
theorem dL_law_409 : decode cL_law 409 = .ok (.istore 9, 2) := by decide +kernel
theorem dL_law_411 : decode cL_law 411 = .ok (.iload 6, 2) := by decide +kernel
theorem dL_law_413 : decode cL_law 413 = .ok (.iconst 3, 1) := by decide +kernel
theorem dL_law_414 : decode cL_law 414 = .ok (.ishr, 1) := by decide +kernel
theorem dL_law_415 : decode cL_law 415 = .ok (.iconst 3, 1) := by decide +kernel
theorem dL_law_416 : decode cL_law 416 = .ok (.invokestatic 22, 3) := by decide +kernel
theorem dL_law_419 : decode cL_law 419 = .ok (.ifCond .ne 7, 3) := by decide +kernel
theorem dL_law_422 : decode cL_law 422 = .ok (.iconst 1, 1) := by decide +kernel
theorem dL_law_423 : decode cL_law 423 = .ok (.goto 4, 3) := by decide +kernel
theorem dL_law_426 : decode cL_law 426 = .ok (.iconst 0, 1) := by decide +kernel
theorem dL_law_427 : decode cL_law 427 = .ok (.istore 10, 2) := by decide +kernel
theorem dL_law_429 : decode cL_law 429 = .ok (.aload_n 1, 1) := by decide +kernel
theorem dL_law_430 : decode cL_law 430 = .ok (.iload 8, 2) := by decide +kernel
theorem dL_law_432 : decode cL_law 432 = .ok (.iconst 2, 1) := by decide +kernel
theorem dL_law_433 : decode cL_law 433 = .ok (.invokevirtual 42, 3) := by decide +kernel
theorem dL_law_436 : decode cL_law 436 = .ok (.iconst (-1), 1) := by decide +kernel
theorem dL_law_437 : decode cL_law 437 = .ok (.if_icmp .ne 270, 3) := by decide +kernel
theorem dL_law_440 : decode cL_law 440 = .ok (.aload_n 1, 1) := by decide +kernel
theorem dL_law_441 : decode cL_law 441 = .ok (.iload 8, 2) := by decide +kernel
theorem dL_law_443 : decode cL_law 443 = .ok (.iload 10, 2) := by decide +kernel
theorem dL_law_445 : decode cL_law 445 = .ok (.invokevirtual 45, 3) := by decide +kernel
theorem dL_law_448 : decode cL_law 448 = .ok (.iload 9, 2) := by decide +kernel
theorem dL_law_450 : decode cL_law 450 = .ok (.if_icmp .ne 23, 3) := by decide +kernel
theorem dL_law_453 : decode cL_law 453 = .ok (.aload_n 1, 1) := by decide +kernel
theorem dL_law_454 : decode cL_law 454 = .ok (.iload 8, 2) := by decide +kernel
theorem dL_law_456 : decode cL_law 456 = .ok (.iconst 1, 1) := by decide +kernel
theorem dL_law_457 : decode cL_law 457 = .ok (.invokevirtual 42, 3) := by decide +kernel
theorem dL_law_460 : decode cL_law 460 = .ok (.iload 10, 2) := by decide +kernel
theorem dL_law_462 : decode cL_law 462 = .ok (.ifCond .eq 7, 3) := by decide +kernel
theorem dL_law_465 : decode cL_law 465 = .ok (.iconst 1, 1) := by decide +kernel
theorem dL_law_466 : decode cL_law 466 = .ok (.goto 4, 3) := by decide +kernel
theorem dL_law_469 : decode cL_law 469 = .ok (.iconst 0, 1) := by decide +kernel
theorem dL_law_470 : decode cL_law 470 = .ok (.if_icmp .eq 237, 3) := by decide +kernel
theorem dL_law_473 : decode cL_law 473 = .ok (.iconst 0, 1) := by decide +kernel
theorem dL_law_474 : decode cL_law 474 = .ok (.ireturn, 1) := by decide +kernel
theorem dL_law_475 : decode cL_law 475 = .ok (.iload 6, 2) := by decide +kernel
theorem dL_law_477 : decode cL_law 477 = .ok (.iconst 3, 1) := by decide +kernel
theorem dL_law_478 : decode cL_law 478 = .ok (.ishr, 1) := by decide +kernel
theorem dL_law_479 : decode cL_law 479 = .ok (.iconst 3, 1) := by decide +kernel
theorem dL_law_480 : decode cL_law 480 = .ok (.invokestatic 22, 3) := by decide +kernel
theorem dL_law_483 : decode cL_law 483 = .ok (.ifCond .le 6, 3) := by decide +kernel
theorem dL_law_486 : decode cL_law 486 = .ok (.goto 221, 3) := by decide +kernel
theorem dL_law_489 : decode cL_law 489 = .ok (.aload_n 1, 1) := by decide +kernel
theorem dL_law_490 : decode cL_law 490 = .ok (.iload 7, 2) := by decide +kernel
theorem dL_law_492 : decode cL_law 492 = .ok (.iconst 5, 1) := by decide +kernel
theorem dL_law_493 : decode cL_law 493 = .ok (.invokevirtual 49, 3) := by decide +kernel
theorem dL_law_496 : decode cL_law 496 = .ok (.iconst 1, 1) := by decide +kernel
theorem dL_law_497 : decode cL_law 497 = .ok (.if_icmp .ne 7, 3) := by decide +kernel
theorem dL_law_500 : decode cL_law 500 = .ok (.iconst 1, 1) := by decide +kernel
theorem dL_law_501 : decode cL_law 501 = .ok (.goto 4, 3) := by decide +kernel
theorem dL_law_504 : decode cL_law 504 = .ok (.iconst 0, 1) := by decide +kernel
theorem dL_law_505 : decode cL_law 505 = .ok (.istore 11, 2) := by decide +kernel
theorem dL_law_507 : decode cL_law 507 = .ok (.aload_n 1, 1) := by decide +kernel
theorem dL_law_508 : decode cL_law 508 = .ok (.iload 7, 2) := by decide +kernel
theorem dL_law_510 : decode cL_law 510 = .ok (.iconst 0, 1) := by decide +kernel
theorem dL_law_511 : decode cL_law 511 = .ok (.invokevirtual 52, 3) := by decide +kernel
theorem dL_law_514 : decode cL_law 514 = .ok (.iload 11, 2) := by decide +kernel
theorem dL_law_516 : decode cL_law 516 = .ok (.if_icmp .ne 13, 3) := by decide +kernel
theorem dL_law_519 : decode cL_law 519 = .ok (.aload_n 1, 1) := by decide +kernel
theorem dL_law_520 : decode cL_law 520 = .ok (.iload 7, 2) := by decide +kernel
theorem dL_law_522 : decode cL_law 522 = .ok (.iconst 5, 1) := by decide +kernel
theorem dL_law_523 : decode cL_law 523 = .ok (.invokevirtual 49, 3) := by decide +kernel
theorem dL_law_526 : decode cL_law 526 = .ok (.ifCond .eq 5, 3) := by decide +kernel
theorem dL_law_529 : decode cL_law 529 = .ok (.iconst 0, 1) := by decide +kernel
theorem dL_law_530 : decode cL_law 530 = .ok (.ireturn, 1) := by decide +kernel
theorem dL_law_531 : decode cL_law 531 = .ok (.iconst 0, 1) := by decide +kernel
theorem dL_law_532 : decode cL_law 532 = .ok (.istore_n 3, 1) := by decide +kernel
theorem dL_law_533 : decode cL_law 533 = .ok (.goto 174, 3) := by decide +kernel
theorem dL_law_536 : decode cL_law 536 = .ok (.aload_n 1, 1) := by decide +kernel
theorem dL_law_537 : decode cL_law 537 = .ok (.iload 7, 2) := by decide +kernel
theorem dL_law_539 : decode cL_law 539 = .ok (.bipush 6, 2) := by decide +kernel
theorem dL_law_541 : decode cL_law 541 = .ok (.invokevirtual 49, 3) := by decide +kernel
theorem dL_law_544 : decode cL_law 544 = .ok (.iconst 2, 1) := by decide +kernel
theorem dL_law_545 : decode cL_law 545 = .ok (.if_icmp .ne 162, 3) := by decide +kernel
theorem dL_law_548 : decode cL_law 548 = .ok (.aload_n 1, 1) := by decide +kernel
theorem dL_law_549 : decode cL_law 549 = .ok (.iload 7, 2) := by decide +kernel
theorem dL_law_551 : decode cL_law 551 = .ok (.invokevirtual 55, 3) := by decide +kernel
theorem dL_law_554 : decode cL_law 554 = .ok (.ifCond .lt 34, 3) := by decide +kernel
theorem dL_law_557 : decode cL_law 557 = .ok (.aload_n 1, 1) := by decide +kernel
theorem dL_law_558 : decode cL_law 558 = .ok (.iload 7, 2) := by decide +kernel
theorem dL_law_560 : decode cL_law 560 = .ok (.bipush 6, 2) := by decide +kernel
theorem dL_law_562 : decode cL_law 562 = .ok (.invokevirtual 49, 3) := by decide +kernel
theorem dL_law_565 : decode cL_law 565 = .ok (.ifCond .ne 23, 3) := by decide +kernel
theorem dL_law_568 : decode cL_law 568 = .ok (.aload_n 1, 1) := by decide +kernel
theorem dL_law_569 : decode cL_law 569 = .ok (.iload 7, 2) := by decide +kernel
theorem dL_law_571 : decode cL_law 571 = .ok (.bipush 7, 2) := by decide +kernel
theorem dL_law_573 : decode cL_law 573 = .ok (.invokevirtual 49, 3) := by decide +kernel
theorem dL_law_576 : decode cL_law 576 = .ok (.aload_n 2, 1) := by decide +kernel
theorem dL_law_577 : decode cL_law 577 = .ok (.aload_n 1, 1) := by decide +kernel
theorem dL_law_578 : decode cL_law 578 = .ok (.iload 7, 2) := by decide +kernel
theorem dL_law_580 : decode cL_law 580 = .ok (.iconst 1, 1) := by decide +kernel
theorem dL_law_581 : decode cL_law 581 = .ok (.invokevirtual 49, 3) := by decide +kernel
theorem dL_law_584 : decode cL_law 584 = .ok (.iaload, 1) := by decide +kernel
theorem dL_law_585 : decode cL_law 585 = .ok (.if_icmp .eq 122, 3) := by decide +kernel
theorem dL_law_588 : decode cL_law 588 = .ok (.iconst 0, 1) := by decide +kernel
theorem dL_law_589 : decode cL_law 589 = .ok (.ireturn, 1) := by decide +kernel
theorem dL_law_590 : decode cL_law 590 = .ok (.aload_n 1, 1) := by decide +kernel
theorem dL_law_591 : decode cL_law 591 = .ok (.aload_n 2, 1) := by decide +kernel
theorem dL_law_592 : decode cL_law 592 = .ok (.iload 7, 2) := by decide +kernel
theorem dL_law_594 : decode cL_law 594 = .ok (.iload 5, 2) := by decide +kernel
theorem dL_law_596 : decode cL_law 596 = .ok (.iconst 4, 1) := by decide +kernel
theorem dL_law_597 : decode cL_law 597 = .ok (.ishr, 1) := by decide +kernel
theorem dL_law_598 : decode cL_law 598 = .ok (.iload 6, 2) := by decide +kernel
theorem dL_law_600 : decode cL_law 600 = .ok (.iconst 2, 1) := by decide +kernel
theorem dL_law_601 : decode cL_law 601 = .ok (.ishr, 1) := by decide +kernel
theorem dL_law_602 : decode cL_law 602 = .ok (.invokestatic 58, 3) := by decide +kernel
theorem dL_law_605 : decode cL_law 605 = .ok (.ifCond .ne 102, 3) := by decide +kernel
theorem dL_law_608 : decode cL_law 608 = .ok (.iconst 0, 1) := by decide +kernel
theorem dL_law_609 : decode cL_law 609 = .ok (.ireturn, 1) := by decide +kernel
theorem dL_law_610 : decode cL_law 610 = .ok (.aload_n 1, 1) := by decide +kernel
theorem dL_law_611 : decode cL_law 611 = .ok (.iconst 4, 1) := by decide +kernel
theorem dL_law_612 : decode cL_law 612 = .ok (.invokevirtual 36, 3) := by decide +kernel
theorem dL_law_615 : decode cL_law 615 = .ok (.ifCond .ne 6, 3) := by decide +kernel
theorem dL_law_618 : decode cL_law 618 = .ok (.goto 89, 3) := by decide +kernel
theorem dL_law_621 : decode cL_law 621 = .ok (.iload 6, 2) := by decide +kernel
theorem dL_law_623 : decode cL_law 623 = .ok (.aload_n 1, 1) := by decide +kernel
theorem dL_law_624 : decode cL_law 624 = .ok (.iconst 4, 1) := by decide +kernel
theorem dL_law_625 : decode cL_law 625 = .ok (.invokevirtual 36, 3) := by decide +kernel
theorem dL_law_628 : decode cL_law 628 = .ok (.invokestatic 22, 3) := by decide +kernel
theorem dL_law_631 : decode cL_law 631 = .ok (.istore 12, 2) := by decide +kernel
theorem dL_law_633 : decode cL_law 633 = .ok (.aload_n 1, 1) := by decide +kernel
theorem dL_law_634 : decode cL_law 634 = .ok (.iload 12, 2) := by decide +kernel
theorem dL_law_636 : decode cL_law 636 = .ok (.iconst 0, 1) := by decide +kernel
theorem dL_law_637 : decode cL_law 637 = .ok (.invokevirtual 62, 3) := by decide +kernel
theorem dL_law_640 : decode cL_law 640 = .ok (.ifCond .ne 67, 3) := by decide +kernel
theorem dL_law_643 : decode cL_law 643 = .ok (.aload_n 1, 1) := by decide +kernel
theorem dL_law_644 : decode cL_law 644 = .ok (.iload 12, 2) := by decide +kernel
theorem dL_law_646 : decode cL_law 646 = .ok (.invokevirtual 65, 3) := by decide +kernel
theorem dL_law_649 : decode cL_law 649 = .ok (.aload_n 1, 1) := by decide +kernel
theorem dL_law_650 : decode cL_law 650 = .ok (.iload 12, 2) := by decide +kernel
theorem dL_law_652 : decode cL_law 652 = .ok (.iconst 2, 1) := by decide +kernel
theorem dL_law_653 : decode cL_law 653 = .ok (.invokevirtual 62, 3) := by decide +kernel
theorem dL_law_656 : decode cL_law 656 = .ok (.if_icmp .ne 14, 3) := by decide +kernel
theorem dL_law_659 : decode cL_law 659 = .ok (.aload_n 1, 1) := by decide +kernel
theorem dL_law_660 : decode cL_law 660 = .ok (.iload 12, 2) := by decide +kernel
theorem dL_law_662 : decode cL_law 662 = .ok (.iconst 0, 1) := by decide +kernel
theorem dL_law_663 : decode cL_law 663 = .ok (.invokevirtual 62, 3) := by decide +kernel
theorem dL_law_666 : decode cL_law 666 = .ok (.iconst 3, 1) := by decide +kernel
theorem dL_law_667 : decode cL_law 667 = .ok (.if_icmp .eq 40, 3) := by decide +kernel
theorem dL_law_670 : decode cL_law 670 = .ok (.iconst 0, 1) := by decide +kernel
theorem dL_law_671 : decode cL_law 671 = .ok (.ireturn, 1) := by decide +kernel
theorem dL_law_672 : decode cL_law 672 = .ok (.iconst 0, 1) := by decide +kernel
theorem dL_law_673 : decode cL_law 673 = .ok (.istore 13, 2) := by decide +kernel
theorem dL_law_675 : decode cL_law 675 = .ok (.iload 13, 2) := by decide +kernel
theorem dL_law_677 : decode cL_law 677 = .ok (.iconst 1, 1) := by decide +kernel
theorem dL_law_678 : decode cL_law 678 = .ok (.iload 6, 2) := by decide +kernel
theorem dL_law_680 : decode cL_law 680 = .ok (.iconst 3, 1) := by decide +kernel
theorem dL_law_681 : decode cL_law 681 = .ok (.ishr, 1) := by decide +kernel
theorem dL_law_682 : decode cL_law 682 = .ok (.bipush 6, 2) := by decide +kernel
theorem dL_law_684 : decode cL_law 684 = .ok (.invokestatic 22, 3) := by decide +kernel
theorem dL_law_687 : decode cL_law 687 = .ok (.iadd, 1) := by decide +kernel
theorem dL_law_688 : decode cL_law 688 = .ok (.if_icmp .ge 19, 3) := by decide +kernel
theorem dL_law_691 : decode cL_law 691 = .ok (.aload_n 1, 1) := by decide +kernel
theorem dL_law_692 : decode cL_law 692 = .ok (.iload_n 3, 1) := by decide +kernel
theorem dL_law_693 : decode cL_law 693 = .ok (.invokestatic 68, 3) := by decide +kernel
theorem dL_law_696 : decode cL_law 696 = .ok (.ifCond .ne 5, 3) := by decide +kernel
theorem dL_law_699 : decode cL_law 699 = .ok (.iconst 0, 1) := by decide +kernel
theorem dL_law_700 : decode cL_law 700 = .ok (.ireturn, 1) := by decide +kernel
theorem dL_law_701 : decode cL_law 701 = .ok (.iinc 13 1, 3) := by decide +kernel
theorem dL_law_704 : decode cL_law 704 = .ok (.goto (-29), 3) := by decide +kernel
theorem dL_law_707 : decode cL_law 707 = .ok (.iinc 4 1, 3) := by decide +kernel
theorem dL_law_710 : decode cL_law 710 = .ok (.goto (-534), 3) := by decide +kernel
theorem dL_law_713 : decode cL_law 713 = .ok (.aload_n 1, 1) := by decide +kernel
theorem dL_law_714 : decode cL_law 714 = .ok (.invokevirtual 72, 3) := by decide +kernel
theorem dL_law_717 : decode cL_law 717 = .ok (.lstore 4, 2) := by decide +kernel
theorem dL_law_719 : decode cL_law 719 = .ok (.iconst 0, 1) := by decide +kernel
theorem dL_law_720 : decode cL_law 720 = .ok (.istore 6, 2) := by decide +kernel
theorem dL_law_722 : decode cL_law 722 = .ok (.bipush 6, 2) := by decide +kernel
theorem dL_law_724 : decode cL_law 724 = .ok (.istore 7, 2) := by decide +kernel
theorem dL_law_726 : decode cL_law 726 = .ok (.iload 7, 2) := by decide +kernel
theorem dL_law_728 : decode cL_law 728 = .ok (.bipush 13, 2) := by decide +kernel
theorem dL_law_730 : decode cL_law 730 = .ok (.if_icmp .ge 20, 3) := by decide +kernel
theorem dL_law_733 : decode cL_law 733 = .ok (.iload 6, 2) := by decide +kernel
theorem dL_law_735 : decode cL_law 735 = .ok (.aload_n 1, 1) := by decide +kernel
theorem dL_law_736 : decode cL_law 736 = .ok (.iload 7, 2) := by decide +kernel
theorem dL_law_738 : decode cL_law 738 = .ok (.invokevirtual 36, 3) := by decide +kernel
theorem dL_law_741 : decode cL_law 741 = .ok (.iadd, 1) := by decide +kernel
theorem dL_law_742 : decode cL_law 742 = .ok (.istore 6, 2) := by decide +kernel
theorem dL_law_744 : decode cL_law 744 = .ok (.iinc 7 1, 3) := by decide +kernel
theorem dL_law_747 : decode cL_law 747 = .ok (.goto (-21), 3) := by decide +kernel
theorem dL_law_750 : decode cL_law 750 = .ok (.iload 6, 2) := by decide +kernel
theorem dL_law_752 : decode cL_law 752 = .ok (.aload_n 1, 1) := by decide +kernel
theorem dL_law_753 : decode cL_law 753 = .ok (.iconst 4, 1) := by decide +kernel
theorem dL_law_754 : decode cL_law 754 = .ok (.invokevirtual 36, 3) := by decide +kernel
theorem dL_law_757 : decode cL_law 757 = .ok (.if_icmp .ne 30, 3) := by decide +kernel
theorem dL_law_760 : decode cL_law 760 = .ok (.aload_n 1, 1) := by decide +kernel
theorem dL_law_761 : decode cL_law 761 = .ok (.bipush 9, 2) := by decide +kernel
theorem dL_law_763 : decode cL_law 763 = .ok (.invokevirtual 76, 3) := by decide +kernel
theorem dL_law_766 : decode cL_law 766 = .ok (.ifCond .lt 21, 3) := by decide +kernel
theorem dL_law_769 : decode cL_law 769 = .ok (.aload_n 1, 1) := by decide +kernel
theorem dL_law_770 : decode cL_law 770 = .ok (.invokevirtual 79, 3) := by decide +kernel
theorem dL_law_773 : decode cL_law 773 = .ok (.dconst 1, 1) := by decide +kernel
theorem dL_law_774 : decode cL_law 774 = .ok (.dcmp .l, 1) := by decide +kernel
theorem dL_law_775 : decode cL_law 775 = .ok (.ifCond .gt 12, 3) := by decide +kernel
theorem dL_law_778 : decode cL_law 778 = .ok (.aload_n 1, 1) := by decide +kernel
theorem dL_law_779 : decode cL_law 779 = .ok (.invokevirtual 79, 3) := by decide +kernel
theorem dL_law_782 : decode cL_law 782 = .ok (.dconst 0, 1) := by decide +kernel
theorem dL_law_783 : decode cL_law 783 = .ok (.dcmp .g, 1) := by decide +kernel
theorem dL_law_784 : decode cL_law 784 = .ok (.ifCond .ge 5, 3) := by decide +kernel
theorem dL_law_787 : decode cL_law 787 = .ok (.iconst 0, 1) := by decide +kernel
theorem dL_law_788 : decode cL_law 788 = .ok (.ireturn, 1) := by decide +kernel
theorem dL_law_789 : decode cL_law 789 = .ok (.aload_n 1, 1) := by decide +kernel
theorem dL_law_790 : decode cL_law 790 = .ok (.invokevirtual 72, 3) := by decide +kernel
theorem dL_law_793 : decode cL_law 793 = .ok (.lload 4, 2) := by decide +kernel
theorem dL_law_795 : decode cL_law 795 = .ok (.lcmp, 1) := by decide +kernel
theorem dL_law_796 : decode cL_law 796 = .ok (.ifCond .ne 7, 3) := by decide +kernel
theorem dL_law_799 : decode cL_law 799 = .ok (.iconst 1, 1) := by decide +kernel
theorem dL_law_800 : decode cL_law 800 = .ok (.goto 4, 3) := by decide +kernel
theorem dL_law_803 : decode cL_law 803 = .ok (.iconst 0, 1) := by decide +kernel
theorem dL_law_804 : decode cL_law 804 = .ok (.ireturn, 1) := by decide +kernel
theorem dL_isAsked_0 : decode cL_isAsked 0 = .ok (.aload_n 0, 1) := by decide +kernel
theorem dL_isAsked_1 : decode cL_isAsked 1 = .ok (.invokevirtual 83, 3) := by decide +kernel
theorem dL_isAsked_4 : decode cL_isAsked 4 = .ok (.ifCond .lt 11, 3) := by decide +kernel
theorem dL_isAsked_7 : decode cL_isAsked 7 = .ok (.aload_n 0, 1) := by decide +kernel
theorem dL_isAsked_8 : decode cL_isAsked 8 = .ok (.iconst 5, 1) := by decide +kernel
theorem dL_isAsked_9 : decode cL_isAsked 9 = .ok (.invokevirtual 36, 3) := by decide +kernel
theorem dL_isAsked_12 : decode cL_isAsked 12 = .ok (.ifCond .eq 5, 3) := by decide +kernel
theorem dL_isAsked_15 : decode cL_isAsked 15 = .ok (.iconst 0, 1) := by decide +kernel
theorem dL_isAsked_16 : decode cL_isAsked 16 = .ok (.ireturn, 1) := by decide +kernel
theorem dL_isAsked_17 : decode cL_isAsked 17 = .ok (.aload_n 0, 1) := by decide +kernel
theorem dL_isAsked_18 : decode cL_isAsked 18 = .ok (.iload_n 2, 1) := by decide +kernel
theorem dL_isAsked_19 : decode cL_isAsked 19 = .ok (.bipush 6, 2) := by decide +kernel
theorem dL_isAsked_21 : decode cL_isAsked 21 = .ok (.invokevirtual 49, 3) := by decide +kernel
theorem dL_isAsked_24 : decode cL_isAsked 24 = .ok (.ifCond .ne 13, 3) := by decide +kernel
theorem dL_isAsked_27 : decode cL_isAsked 27 = .ok (.aload_n 0, 1) := by decide +kernel
theorem dL_isAsked_28 : decode cL_isAsked 28 = .ok (.iload_n 2, 1) := by decide +kernel
theorem dL_isAsked_29 : decode cL_isAsked 29 = .ok (.bipush 7, 2) := by decide +kernel
theorem dL_isAsked_31 : decode cL_isAsked 31 = .ok (.invokevirtual 49, 3) := by decide +kernel
theorem dL_isAsked_34 : decode cL_isAsked 34 = .ok (.goto 10, 3) := by decide +kernel
theorem dL_isAsked_37 : decode cL_isAsked 37 = .ok (.aload_n 1, 1) := by decide +kernel
theorem dL_isAsked_38 : decode cL_isAsked 38 = .ok (.iload_n 3, 1) := by decide +kernel
theorem dL_isAsked_39 : decode cL_isAsked 39 = .ok (.iconst 5, 1) := by decide +kernel
theorem dL_isAsked_40 : decode cL_isAsked 40 = .ok (.invokestatic 22, 3) := by decide +kernel
theorem dL_isAsked_43 : decode cL_isAsked 43 = .ok (.iaload, 1) := by decide +kernel
theorem dL_isAsked_44 : decode cL_isAsked 44 = .ok (.istore 5, 2) := by decide +kernel
theorem dL_isAsked_46 : decode cL_isAsked 46 = .ok (.aload_n 1, 1) := by decide +kernel
theorem dL_isAsked_47 : decode cL_isAsked 47 = .ok (.iload 4, 2) := by decide +kernel
theorem dL_isAsked_49 : decode cL_isAsked 49 = .ok (.iconst 5, 1) := by decide +kernel
theorem dL_isAsked_50 : decode cL_isAsked 50 = .ok (.invokestatic 22, 3) := by decide +kernel
theorem dL_isAsked_53 : decode cL_isAsked 53 = .ok (.iaload, 1) := by decide +kernel
theorem dL_isAsked_54 : decode cL_isAsked 54 = .ok (.istore 6, 2) := by decide +kernel
theorem dL_isAsked_56 : decode cL_isAsked 56 = .ok (.iload 5, 2) := by decide +kernel
theorem dL_isAsked_58 : decode cL_isAsked 58 = .ok (.iload 6, 2) := by decide +kernel
theorem dL_isAsked_60 : decode cL_isAsked 60 = .ok (.if_icmp .ne 5, 3) := by decide +kernel
theorem dL_isAsked_63 : decode cL_isAsked 63 = .ok (.iconst 1, 1) := by decide +kernel
theorem dL_isAsked_64 : decode cL_isAsked 64 = .ok (.ireturn, 1) := by decide +kernel
theorem dL_isAsked_65 : decode cL_isAsked 65 = .ok (.iconst 0, 1) := by decide +kernel
theorem dL_isAsked_66 : decode cL_isAsked 66 = .ok (.istore 7, 2) := by decide +kernel
theorem dL_isAsked_68 : decode cL_isAsked 68 = .ok (.iload 5, 2) := by decide +kernel
theorem dL_isAsked_70 : decode cL_isAsked 70 = .ok (.istore 8, 2) := by decide +kernel
theorem dL_isAsked_72 : decode cL_isAsked 72 = .ok (.aload_n 0, 1) := by decide +kernel
theorem dL_isAsked_73 : decode cL_isAsked 73 = .ok (.iload 8, 2) := by decide +kernel
theorem dL_isAsked_75 : decode cL_isAsked 75 = .ok (.invokevirtual 87, 3) := by decide +kernel
theorem dL_isAsked_78 : decode cL_isAsked 78 = .ok (.iinc 7 1, 3) := by decide +kernel
theorem dL_isAsked_81 : decode cL_isAsked 81 = .ok (.iload 7, 2) := by decide +kernel
theorem dL_isAsked_83 : decode cL_isAsked 83 = .ok (.if_icmp .eq 5, 3) := by decide +kernel
theorem dL_isAsked_86 : decode cL_isAsked 86 = .ok (.iconst 0, 1) := by decide +kernel
theorem dL_isAsked_87 : decode cL_isAsked 87 = .ok (.ireturn, 1) := by decide +kernel
theorem dL_isAsked_88 : decode cL_isAsked 88 = .ok (.iload 8, 2) := by decide +kernel
theorem dL_isAsked_90 : decode cL_isAsked 90 = .ok (.iload 6, 2) := by decide +kernel
theorem dL_isAsked_92 : decode cL_isAsked 92 = .ok (.if_icmp .ne 6, 3) := by decide +kernel
theorem dL_isAsked_95 : decode cL_isAsked 95 = .ok (.goto 50, 3) := by decide +kernel
theorem dL_isAsked_98 : decode cL_isAsked 98 = .ok (.iload 8, 2) := by decide +kernel
theorem dL_isAsked_100 : decode cL_isAsked 100 = .ok (.iload 8, 2) := by decide +kernel
theorem dL_isAsked_102 : decode cL_isAsked 102 = .ok (.iconst 5, 1) := by decide +kernel
theorem dL_isAsked_103 : decode cL_isAsked 103 = .ok (.idiv, 1) := by decide +kernel
theorem dL_isAsked_104 : decode cL_isAsked 104 = .ok (.iload 6, 2) := by decide +kernel
theorem dL_isAsked_106 : decode cL_isAsked 106 = .ok (.iconst 5, 1) := by decide +kernel
theorem dL_isAsked_107 : decode cL_isAsked 107 = .ok (.idiv, 1) := by decide +kernel
theorem dL_isAsked_108 : decode cL_isAsked 108 = .ok (.if_icmp .eq 19, 3) := by decide +kernel
theorem dL_isAsked_111 : decode cL_isAsked 111 = .ok (.iload 8, 2) := by decide +kernel
theorem dL_isAsked_113 : decode cL_isAsked 113 = .ok (.iload 6, 2) := by decide +kernel
theorem dL_isAsked_115 : decode cL_isAsked 115 = .ok (.if_icmp .ge 7, 3) := by decide +kernel
theorem dL_isAsked_118 : decode cL_isAsked 118 = .ok (.iconst 5, 1) := by decide +kernel
theorem dL_isAsked_119 : decode cL_isAsked 119 = .ok (.goto 20, 3) := by decide +kernel
theorem dL_isAsked_122 : decode cL_isAsked 122 = .ok (.bipush (-5), 2) := by decide +kernel
theorem dL_isAsked_124 : decode cL_isAsked 124 = .ok (.goto 15, 3) := by decide +kernel
theorem dL_isAsked_127 : decode cL_isAsked 127 = .ok (.iload 8, 2) := by decide +kernel
theorem dL_isAsked_129 : decode cL_isAsked 129 = .ok (.iload 6, 2) := by decide +kernel
theorem dL_isAsked_131 : decode cL_isAsked 131 = .ok (.if_icmp .ge 7, 3) := by decide +kernel
theorem dL_isAsked_134 : decode cL_isAsked 134 = .ok (.iconst 1, 1) := by decide +kernel
theorem dL_isAsked_135 : decode cL_isAsked 135 = .ok (.goto 4, 3) := by decide +kernel
theorem dL_isAsked_138 : decode cL_isAsked 138 = .ok (.iconst (-1), 1) := by decide +kernel
theorem dL_isAsked_139 : decode cL_isAsked 139 = .ok (.iadd, 1) := by decide +kernel
theorem dL_isAsked_140 : decode cL_isAsked 140 = .ok (.istore 8, 2) := by decide +kernel
theorem dL_isAsked_142 : decode cL_isAsked 142 = .ok (.goto (-70), 3) := by decide +kernel
theorem dL_isAsked_145 : decode cL_isAsked 145 = .ok (.aload_n 0, 1) := by decide +kernel
theorem dL_isAsked_146 : decode cL_isAsked 146 = .ok (.iconst 0, 1) := by decide +kernel
theorem dL_isAsked_147 : decode cL_isAsked 147 = .ok (.invokevirtual 36, 3) := by decide +kernel
theorem dL_isAsked_150 : decode cL_isAsked 150 = .ok (.iconst 1, 1) := by decide +kernel
theorem dL_isAsked_151 : decode cL_isAsked 151 = .ok (.iadd, 1) := by decide +kernel
theorem dL_isAsked_152 : decode cL_isAsked 152 = .ok (.iload 4, 2) := by decide +kernel
theorem dL_isAsked_154 : decode cL_isAsked 154 = .ok (.iconst 2, 1) := by decide +kernel
theorem dL_isAsked_155 : decode cL_isAsked 155 = .ok (.ishr, 1) := by decide +kernel
theorem dL_isAsked_156 : decode cL_isAsked 156 = .ok (.bipush 20, 2) := by decide +kernel
theorem dL_isAsked_158 : decode cL_isAsked 158 = .ok (.invokestatic 22, 3) := by decide +kernel
theorem dL_isAsked_161 : decode cL_isAsked 161 = .ok (.iadd, 1) := by decide +kernel
theorem dL_isAsked_162 : decode cL_isAsked 162 = .ok (.istore 8, 2) := by decide +kernel
theorem dL_isAsked_164 : decode cL_isAsked 164 = .ok (.aload_n 0, 1) := by decide +kernel
theorem dL_isAsked_165 : decode cL_isAsked 165 = .ok (.iload_n 2, 1) := by decide +kernel
theorem dL_isAsked_166 : decode cL_isAsked 166 = .ok (.iload 8, 2) := by decide +kernel
theorem dL_isAsked_168 : decode cL_isAsked 168 = .ok (.invokevirtual 90, 3) := by decide +kernel
theorem dL_isAsked_171 : decode cL_isAsked 171 = .ok (.istore 9, 2) := by decide +kernel
theorem dL_isAsked_173 : decode cL_isAsked 173 = .ok (.aload_n 0, 1) := by decide +kernel
theorem dL_isAsked_174 : decode cL_isAsked 174 = .ok (.iload_n 2, 1) := by decide +kernel
theorem dL_isAsked_175 : decode cL_isAsked 175 = .ok (.invokevirtual 93, 3) := by decide +kernel
theorem dL_isAsked_178 : decode cL_isAsked 178 = .ok (.istore 10, 2) := by decide +kernel
theorem dL_isAsked_180 : decode cL_isAsked 180 = .ok (.iload 9, 2) := by decide +kernel
theorem dL_isAsked_182 : decode cL_isAsked 182 = .ok (.ifCond .ne 15, 3) := by decide +kernel
theorem dL_isAsked_185 : decode cL_isAsked 185 = .ok (.iload 10, 2) := by decide +kernel
theorem dL_isAsked_187 : decode cL_isAsked 187 = .ok (.ifCond .lt 49, 3) := by decide +kernel
theorem dL_isAsked_190 : decode cL_isAsked 190 = .ok (.iload 10, 2) := by decide +kernel
theorem dL_isAsked_192 : decode cL_isAsked 192 = .ok (.iload 8, 2) := by decide +kernel
theorem dL_isAsked_194 : decode cL_isAsked 194 = .ok (.if_icmp .gt 42, 3) := by decide +kernel
theorem dL_isAsked_197 : decode cL_isAsked 197 = .ok (.iload 10, 2) := by decide +kernel
theorem dL_isAsked_199 : decode cL_isAsked 199 = .ok (.ifCond .le 39, 3) := by decide +kernel
theorem dL_isAsked_202 : decode cL_isAsked 202 = .ok (.aload_n 0, 1) := by decide +kernel
theorem dL_isAsked_203 : decode cL_isAsked 203 = .ok (.iload_n 2, 1) := by decide +kernel
theorem dL_isAsked_204 : decode cL_isAsked 204 = .ok (.iload 10, 2) := by decide +kernel
theorem dL_isAsked_206 : decode cL_isAsked 206 = .ok (.invokevirtual 90, 3) := by decide +kernel
theorem dL_isAsked_209 : decode cL_isAsked 209 = .ok (.ifCond .ne 27, 3) := by decide +kernel
theorem dL_isAsked_212 : decode cL_isAsked 212 = .ok (.iload 10, 2) := by decide +kernel
theorem dL_isAsked_214 : decode cL_isAsked 214 = .ok (.aload_n 0, 1) := by decide +kernel
theorem dL_isAsked_215 : decode cL_isAsked 215 = .ok (.iconst 0, 1) := by decide +kernel
theorem dL_isAsked_216 : decode cL_isAsked 216 = .ok (.invokevirtual 36, 3) := by decide +kernel
theorem dL_isAsked_219 : decode cL_isAsked 219 = .ok (.iconst 1, 1) := by decide +kernel
theorem dL_isAsked_220 : decode cL_isAsked 220 = .ok (.iadd, 1) := by decide +kernel
theorem dL_isAsked_221 : decode cL_isAsked 221 = .ok (.if_icmp .le 17, 3) := by decide +kernel
theorem dL_isAsked_224 : decode cL_isAsked 224 = .ok (.aload_n 0, 1) := by decide +kernel
theorem dL_isAsked_225 : decode cL_isAsked 225 = .ok (.iload_n 2, 1) := by decide +kernel
theorem dL_isAsked_226 : decode cL_isAsked 226 = .ok (.iload 10, 2) := by decide +kernel
theorem dL_isAsked_228 : decode cL_isAsked 228 = .ok (.iconst 1, 1) := by decide +kernel
theorem dL_isAsked_229 : decode cL_isAsked 229 = .ok (.isub, 1) := by decide +kernel
theorem dL_isAsked_230 : decode cL_isAsked 230 = .ok (.invokevirtual 90, 3) := by decide +kernel
theorem dL_isAsked_233 : decode cL_isAsked 233 = .ok (.ifCond .ne 5, 3) := by decide +kernel
theorem dL_isAsked_236 : decode cL_isAsked 236 = .ok (.iconst 0, 1) := by decide +kernel
theorem dL_isAsked_237 : decode cL_isAsked 237 = .ok (.ireturn, 1) := by decide +kernel
theorem dL_isAsked_238 : decode cL_isAsked 238 = .ok (.aload_n 0, 1) := by decide +kernel
theorem dL_isAsked_239 : decode cL_isAsked 239 = .ok (.iconst 4, 1) := by decide +kernel
theorem dL_isAsked_240 : decode cL_isAsked 240 = .ok (.invokevirtual 36, 3) := by decide +kernel
theorem dL_isAsked_243 : decode cL_isAsked 243 = .ok (.istore 11, 2) := by decide +kernel
theorem dL_isAsked_245 : decode cL_isAsked 245 = .ok (.iload 11, 2) := by decide +kernel
theorem dL_isAsked_247 : decode cL_isAsked 247 = .ok (.bipush 12, 2) := by decide +kernel
theorem dL_isAsked_249 : decode cL_isAsked 249 = .ok (.if_icmp .ne 5, 3) := by decide +kernel
theorem dL_isAsked_252 : decode cL_isAsked 252 = .ok (.iconst 1, 1) := by decide +kernel
theorem dL_isAsked_253 : decode cL_isAsked 253 = .ok (.ireturn, 1) := by decide +kernel
theorem dL_isAsked_254 : decode cL_isAsked 254 = .ok (.aload_n 0, 1) := by decide +kernel
theorem dL_isAsked_255 : decode cL_isAsked 255 = .ok (.iload_n 2, 1) := by decide +kernel
theorem dL_isAsked_256 : decode cL_isAsked 256 = .ok (.iload 8, 2) := by decide +kernel
theorem dL_isAsked_258 : decode cL_isAsked 258 = .ok (.invokevirtual 96, 3) := by decide +kernel
theorem dL_isAsked_261 : decode cL_isAsked 261 = .ok (.istore 12, 2) := by decide +kernel
theorem dL_isAsked_263 : decode cL_isAsked 263 = .ok (.iload 9, 2) := by decide +kernel
theorem dL_isAsked_265 : decode cL_isAsked 265 = .ok (.ifCond .le 38, 3) := by decide +kernel
theorem dL_isAsked_268 : decode cL_isAsked 268 = .ok (.iload 12, 2) := by decide +kernel
theorem dL_isAsked_270 : decode cL_isAsked 270 = .ok (.iconst (-1), 1) := by decide +kernel
theorem dL_isAsked_271 : decode cL_isAsked 271 = .ok (.iload 9, 2) := by decide +kernel
theorem dL_isAsked_273 : decode cL_isAsked 273 = .ok (.isub, 1) := by decide +kernel
theorem dL_isAsked_274 : decode cL_isAsked 274 = .ok (.if_icmp .ne 27, 3) := by decide +kernel
theorem dL_isAsked_277 : decode cL_isAsked 277 = .ok (.aload_n 0, 1) := by decide +kernel
theorem dL_isAsked_278 : decode cL_isAsked 278 = .ok (.iconst 4, 1) := by decide +kernel
theorem dL_isAsked_279 : decode cL_isAsked 279 = .ok (.invokevirtual 36, 3) := by decide +kernel
theorem dL_isAsked_282 : decode cL_isAsked 282 = .ok (.iload 11, 2) := by decide +kernel
theorem dL_isAsked_284 : decode cL_isAsked 284 = .ok (.if_icmp .ne 17, 3) := by decide +kernel
theorem dL_isAsked_287 : decode cL_isAsked 287 = .ok (.aload_n 0, 1) := by decide +kernel
theorem dL_isAsked_288 : decode cL_isAsked 288 = .ok (.iconst 5, 1) := by decide +kernel
theorem dL_isAsked_289 : decode cL_isAsked 289 = .ok (.invokevirtual 36, 3) := by decide +kernel
theorem dL_isAsked_292 : decode cL_isAsked 292 = .ok (.iload 7, 2) := by decide +kernel
theorem dL_isAsked_294 : decode cL_isAsked 294 = .ok (.if_icmp .ne 7, 3) := by decide +kernel
theorem dL_isAsked_297 : decode cL_isAsked 297 = .ok (.iconst 1, 1) := by decide +kernel
theorem dL_isAsked_298 : decode cL_isAsked 298 = .ok (.goto 4, 3) := by decide +kernel
theorem dL_isAsked_301 : decode cL_isAsked 301 = .ok (.iconst 0, 1) := by decide +kernel
theorem dL_isAsked_302 : decode cL_isAsked 302 = .ok (.ireturn, 1) := by decide +kernel
theorem dL_isAsked_303 : decode cL_isAsked 303 = .ok (.iload 12, 2) := by decide +kernel
theorem dL_isAsked_305 : decode cL_isAsked 305 = .ok (.iload 11, 2) := by decide +kernel
theorem dL_isAsked_307 : decode cL_isAsked 307 = .ok (.if_icmp .ne 77, 3) := by decide +kernel
theorem dL_isAsked_310 : decode cL_isAsked 310 = .ok (.aload_n 0, 1) := by decide +kernel
theorem dL_isAsked_311 : decode cL_isAsked 311 = .ok (.iload 12, 2) := by decide +kernel
theorem dL_isAsked_313 : decode cL_isAsked 313 = .ok (.iconst 0, 1) := by decide +kernel
theorem dL_isAsked_314 : decode cL_isAsked 314 = .ok (.invokevirtual 62, 3) := by decide +kernel
theorem dL_isAsked_317 : decode cL_isAsked 317 = .ok (.ifCond .ne 67, 3) := by decide +kernel
theorem dL_isAsked_320 : decode cL_isAsked 320 = .ok (.aload_n 0, 1) := by decide +kernel
theorem dL_isAsked_321 : decode cL_isAsked 321 = .ok (.iload 12, 2) := by decide +kernel
theorem dL_isAsked_323 : decode cL_isAsked 323 = .ok (.iconst 2, 1) := by decide +kernel
theorem dL_isAsked_324 : decode cL_isAsked 324 = .ok (.invokevirtual 62, 3) := by decide +kernel
theorem dL_isAsked_327 : decode cL_isAsked 327 = .ok (.iload 8, 2) := by decide +kernel
theorem dL_isAsked_329 : decode cL_isAsked 329 = .ok (.if_icmp .ne 55, 3) := by decide +kernel
theorem dL_isAsked_332 : decode cL_isAsked 332 = .ok (.aload_n 0, 1) := by decide +kernel
theorem dL_isAsked_333 : decode cL_isAsked 333 = .ok (.iload 12, 2) := by decide +kernel
theorem dL_isAsked_335 : decode cL_isAsked 335 = .ok (.iconst 3, 1) := by decide +kernel
theorem dL_isAsked_336 : decode cL_isAsked 336 = .ok (.invokevirtual 62, 3) := by decide +kernel
theorem dL_isAsked_339 : decode cL_isAsked 339 = .ok (.iload 8, 2) := by decide +kernel
theorem dL_isAsked_341 : decode cL_isAsked 341 = .ok (.iconst 2, 1) := by decide +kernel
theorem dL_isAsked_342 : decode cL_isAsked 342 = .ok (.iload 7, 2) := by decide +kernel
theorem dL_isAsked_344 : decode cL_isAsked 344 = .ok (.iconst 1, 1) := by decide +kernel
theorem dL_isAsked_345 : decode cL_isAsked 345 = .ok (.isub, 1) := by decide +kernel
theorem dL_isAsked_346 : decode cL_isAsked 346 = .ok (.imul, 1) := by decide +kernel
theorem dL_isAsked_347 : decode cL_isAsked 347 = .ok (.iadd, 1) := by decide +kernel
theorem dL_isAsked_348 : decode cL_isAsked 348 = .ok (.if_icmp .ne 36, 3) := by decide +kernel
theorem dL_isAsked_351 : decode cL_isAsked 351 = .ok (.aload_n 0, 1) := by decide +kernel
theorem dL_isAsked_352 : decode cL_isAsked 352 = .ok (.iload 12, 2) := by decide +kernel
theorem dL_isAsked_354 : decode cL_isAsked 354 = .ok (.iconst 4, 1) := by decide +kernel
theorem dL_isAsked_355 : decode cL_isAsked 355 = .ok (.invokevirtual 62, 3) := by decide +kernel
theorem dL_isAsked_358 : decode cL_isAsked 358 = .ok (.iload 7, 2) := by decide +kernel
theorem dL_isAsked_360 : decode cL_isAsked 360 = .ok (.if_icmp .ne 24, 3) := by decide +kernel
theorem dL_isAsked_363 : decode cL_isAsked 363 = .ok (.aload_n 0, 1) := by decide +kernel
theorem dL_isAsked_364 : decode cL_isAsked 364 = .ok (.iconst 5, 1) := by decide +kernel
theorem dL_isAsked_365 : decode cL_isAsked 365 = .ok (.invokevirtual 36, 3) := by decide +kernel
theorem dL_isAsked_368 : decode cL_isAsked 368 = .ok (.ifCond .ne 16, 3) := by decide +kernel
theorem dL_isAsked_371 : decode cL_isAsked 371 = .ok (.aload_n 0, 1) := by decide +kernel
theorem dL_isAsked_372 : decode cL_isAsked 372 = .ok (.iload 5, 2) := by decide +kernel
theorem dL_isAsked_374 : decode cL_isAsked 374 = .ok (.iload 8, 2) := by decide +kernel
theorem dL_isAsked_376 : decode cL_isAsked 376 = .ok (.invokevirtual 99, 3) := by decide +kernel
theorem dL_isAsked_379 : decode cL_isAsked 379 = .ok (.iload 12, 2) := by decide +kernel
theorem dL_isAsked_381 : decode cL_isAsked 381 = .ok (.if_icmp .eq 5, 3) := by decide +kernel
theorem dL_isAsked_384 : decode cL_isAsked 384 = .ok (.iconst 0, 1) := by decide +kernel
theorem dL_isAsked_385 : decode cL_isAsked 385 = .ok (.ireturn, 1) := by decide +kernel
theorem dL_isAsked_386 : decode cL_isAsked 386 = .ok (.iconst 0, 1) := by decide +kernel
theorem dL_isAsked_387 : decode cL_isAsked 387 = .ok (.istore 13, 2) := by decide +kernel
theorem dL_isAsked_389 : decode cL_isAsked 389 = .ok (.iload 13, 2) := by decide +kernel
theorem dL_isAsked_391 : decode cL_isAsked 391 = .ok (.bipush 25, 2) := by decide +kernel
theorem dL_isAsked_393 : decode cL_isAsked 393 = .ok (.if_icmp .ge 54, 3) := by decide +kernel
theorem dL_isAsked_396 : decode cL_isAsked 396 = .ok (.iload 8, 2) := by decide +kernel
theorem dL_isAsked_398 : decode cL_isAsked 398 = .ok (.sipush 1440, 3) := by decide +kernel
theorem dL_isAsked_401 : decode cL_isAsked 401 = .ok (.idiv, 1) := by decide +kernel
theorem dL_isAsked_402 : decode cL_isAsked 402 = .ok (.aload_n 0, 1) := by decide +kernel
theorem dL_isAsked_403 : decode cL_isAsked 403 = .ok (.iconst 0, 1) := by decide +kernel
theorem dL_isAsked_404 : decode cL_isAsked 404 = .ok (.invokevirtual 36, 3) := by decide +kernel
theorem dL_isAsked_407 : decode cL_isAsked 407 = .ok (.sipush 1440, 3) := by decide +kernel
theorem dL_isAsked_410 : decode cL_isAsked 410 = .ok (.idiv, 1) := by decide +kernel
theorem dL_isAsked_411 : decode cL_isAsked 411 = .ok (.if_icmp .ne 30, 3) := by decide +kernel
theorem dL_isAsked_414 : decode cL_isAsked 414 = .ok (.aload_n 0, 1) := by decide +kernel
theorem dL_isAsked_415 : decode cL_isAsked 415 = .ok (.iload 13, 2) := by decide +kernel
theorem dL_isAsked_417 : decode cL_isAsked 417 = .ok (.iload 8, 2) := by decide +kernel
theorem dL_isAsked_419 : decode cL_isAsked 419 = .ok (.invokevirtual 99, 3) := by decide +kernel
theorem dL_isAsked_422 : decode cL_isAsked 422 = .ok (.iload 12, 2) := by decide +kernel
theorem dL_isAsked_424 : decode cL_isAsked 424 = .ok (.if_icmp .ne 17, 3) := by decide +kernel
theorem dL_isAsked_427 : decode cL_isAsked 427 = .ok (.aload_n 0, 1) := by decide +kernel
theorem dL_isAsked_428 : decode cL_isAsked 428 = .ok (.iload 13, 2) := by decide +kernel
theorem dL_isAsked_430 : decode cL_isAsked 430 = .ok (.iconst 4, 1) := by decide +kernel
end
section
theorem dL_isAsked_431 : decode cL_isAsked 431 = .ok (.invokevirtual 42, 3) := by decide +kernel
theorem dL_isAsked_434 : decode cL_isAsked 434 = .ok (.bipush 60, 2) := by decide +kernel
theorem dL_isAsked_436 : decode cL_isAsked 436 = .ok (.if_icmp .le 5, 3) := by decide +kernel
theorem dL_isAsked_439 : decode cL_isAsked 439 = .ok (.iconst 0, 1) := by decide +kernel
theorem dL_isAsked_440 : decode cL_isAsked 440 = .ok (.ireturn, 1) := by decide +kernel
theorem dL_isAsked_441 : decode cL_isAsked 441 = .ok (.iinc 13 1, 3) := by decide +kernel
theorem dL_isAsked_444 : decode cL_isAsked 444 = .ok (.goto (-55), 3) := by decide +kernel
theorem dL_isAsked_447 : decode cL_isAsked 447 = .ok (.iconst 1, 1) := by decide +kernel
theorem dL_isAsked_448 : decode cL_isAsked 448 = .ok (.ireturn, 1) := by decide +kernel
theorem dL_isPassed_0 : decode cL_isPassed 0 = .ok (.iconst 5, 1) := by decide +kernel
theorem dL_isPassed_1 : decode cL_isPassed 1 = .ok (.anewarray 102, 3) := by decide +kernel
theorem dL_isPassed_4 : decode cL_isPassed 4 = .ok (.astore_n 2, 1) := by decide +kernel
theorem dL_isPassed_5 : decode cL_isPassed 5 = .ok (.aload_n 0, 1) := by decide +kernel
theorem dL_isPassed_6 : decode cL_isPassed 6 = .ok (.iconst 4, 1) := by decide +kernel
theorem dL_isPassed_7 : decode cL_isPassed 7 = .ok (.invokevirtual 36, 3) := by decide +kernel
theorem dL_isPassed_10 : decode cL_isPassed 10 = .ok (.istore_n 3, 1) := by decide +kernel
theorem dL_isPassed_11 : decode cL_isPassed 11 = .ok (.iload_n 3, 1) := by decide +kernel
theorem dL_isPassed_12 : decode cL_isPassed 12 = .ok (.newarray .int, 2) := by decide +kernel
theorem dL_isPassed_14 : decode cL_isPassed 14 = .ok (.astore 4, 2) := by decide +kernel
theorem dL_isPassed_16 : decode cL_isPassed 16 = .ok (.iconst 5, 1) := by decide +kernel
theorem dL_isPassed_17 : decode cL_isPassed 17 = .ok (.newarray .int, 2) := by decide +kernel
theorem dL_isPassed_19 : decode cL_isPassed 19 = .ok (.astore 5, 2) := by decide +kernel
theorem dL_isPassed_21 : decode cL_isPassed 21 = .ok (.iconst 0, 1) := by decide +kernel
theorem dL_isPassed_22 : decode cL_isPassed 22 = .ok (.istore 6, 2) := by decide +kernel
theorem dL_isPassed_24 : decode cL_isPassed 24 = .ok (.iload 6, 2) := by decide +kernel
theorem dL_isPassed_26 : decode cL_isPassed 26 = .ok (.iconst 5, 1) := by decide +kernel
theorem dL_isPassed_27 : decode cL_isPassed 27 = .ok (.if_icmp .ge 71, 3) := by decide +kernel
theorem dL_isPassed_30 : decode cL_isPassed 30 = .ok (.aload_n 2, 1) := by decide +kernel
theorem dL_isPassed_31 : decode cL_isPassed 31 = .ok (.iload 6, 2) := by decide +kernel
theorem dL_isPassed_33 : decode cL_isPassed 33 = .ok (.iconst 4, 1) := by decide +kernel
theorem dL_isPassed_34 : decode cL_isPassed 34 = .ok (.newarray .int, 2) := by decide +kernel
theorem dL_isPassed_36 : decode cL_isPassed 36 = .ok (.dup, 1) := by decide +kernel
theorem dL_isPassed_37 : decode cL_isPassed 37 = .ok (.iconst 0, 1) := by decide +kernel
theorem dL_isPassed_38 : decode cL_isPassed 38 = .ok (.aload_n 0, 1) := by decide +kernel
theorem dL_isPassed_39 : decode cL_isPassed 39 = .ok (.iload 6, 2) := by decide +kernel
theorem dL_isPassed_41 : decode cL_isPassed 41 = .ok (.bipush 6, 2) := by decide +kernel
theorem dL_isPassed_43 : decode cL_isPassed 43 = .ok (.invokevirtual 49, 3) := by decide +kernel
theorem dL_isPassed_46 : decode cL_isPassed 46 = .ok (.iastore, 1) := by decide +kernel
theorem dL_isPassed_47 : decode cL_isPassed 47 = .ok (.dup, 1) := by decide +kernel
theorem dL_isPassed_48 : decode cL_isPassed 48 = .ok (.iconst 1, 1) := by decide +kernel
theorem dL_isPassed_49 : decode cL_isPassed 49 = .ok (.aload_n 0, 1) := by decide +kernel
theorem dL_isPassed_50 : decode cL_isPassed 50 = .ok (.iload 6, 2) := by decide +kernel
theorem dL_isPassed_52 : decode cL_isPassed 52 = .ok (.bipush 7, 2) := by decide +kernel
theorem dL_isPassed_54 : decode cL_isPassed 54 = .ok (.invokevirtual 49, 3) := by decide +kernel
theorem dL_isPassed_57 : decode cL_isPassed 57 = .ok (.iastore, 1) := by decide +kernel
theorem dL_isPassed_58 : decode cL_isPassed 58 = .ok (.dup, 1) := by decide +kernel
theorem dL_isPassed_59 : decode cL_isPassed 59 = .ok (.iconst 2, 1) := by decide +kernel
theorem dL_isPassed_60 : decode cL_isPassed 60 = .ok (.aload_n 0, 1) := by decide +kernel
theorem dL_isPassed_61 : decode cL_isPassed 61 = .ok (.iload 6, 2) := by decide +kernel
theorem dL_isPassed_63 : decode cL_isPassed 63 = .ok (.iconst 3, 1) := by decide +kernel
theorem dL_isPassed_64 : decode cL_isPassed 64 = .ok (.invokevirtual 49, 3) := by decide +kernel
theorem dL_isPassed_67 : decode cL_isPassed 67 = .ok (.iastore, 1) := by decide +kernel
theorem dL_isPassed_68 : decode cL_isPassed 68 = .ok (.dup, 1) := by decide +kernel
theorem dL_isPassed_69 : decode cL_isPassed 69 = .ok (.iconst 3, 1) := by decide +kernel
theorem dL_isPassed_70 : decode cL_isPassed 70 = .ok (.aload_n 0, 1) := by decide +kernel
theorem dL_isPassed_71 : decode cL_isPassed 71 = .ok (.iload 6, 2) := by decide +kernel
theorem dL_isPassed_73 : decode cL_isPassed 73 = .ok (.bipush 8, 2) := by decide +kernel
theorem dL_isPassed_75 : decode cL_isPassed 75 = .ok (.invokevirtual 49, 3) := by decide +kernel
theorem dL_isPassed_78 : decode cL_isPassed 78 = .ok (.iastore, 1) := by decide +kernel
theorem dL_isPassed_79 : decode cL_isPassed 79 = .ok (.aastore, 1) := by decide +kernel
theorem dL_isPassed_80 : decode cL_isPassed 80 = .ok (.aload 5, 2) := by decide +kernel
theorem dL_isPassed_82 : decode cL_isPassed 82 = .ok (.iload 6, 2) := by decide +kernel
theorem dL_isPassed_84 : decode cL_isPassed 84 = .ok (.aload_n 0, 1) := by decide +kernel
theorem dL_isPassed_85 : decode cL_isPassed 85 = .ok (.iload 6, 2) := by decide +kernel
theorem dL_isPassed_87 : decode cL_isPassed 87 = .ok (.iconst 1, 1) := by decide +kernel
theorem dL_isPassed_88 : decode cL_isPassed 88 = .ok (.invokevirtual 104, 3) := by decide +kernel
theorem dL_isPassed_91 : decode cL_isPassed 91 = .ok (.iastore, 1) := by decide +kernel
theorem dL_isPassed_92 : decode cL_isPassed 92 = .ok (.iinc 6 1, 3) := by decide +kernel
theorem dL_isPassed_95 : decode cL_isPassed 95 = .ok (.goto (-71), 3) := by decide +kernel
theorem dL_isPassed_98 : decode cL_isPassed 98 = .ok (.iconst 0, 1) := by decide +kernel
theorem dL_isPassed_99 : decode cL_isPassed 99 = .ok (.istore 6, 2) := by decide +kernel
theorem dL_isPassed_101 : decode cL_isPassed 101 = .ok (.iload 6, 2) := by decide +kernel
theorem dL_isPassed_103 : decode cL_isPassed 103 = .ok (.iload_n 3, 1) := by decide +kernel
theorem dL_isPassed_104 : decode cL_isPassed 104 = .ok (.if_icmp .ge 21, 3) := by decide +kernel
theorem dL_isPassed_107 : decode cL_isPassed 107 = .ok (.aload 4, 2) := by decide +kernel
theorem dL_isPassed_109 : decode cL_isPassed 109 = .ok (.iload 6, 2) := by decide +kernel
theorem dL_isPassed_111 : decode cL_isPassed 111 = .ok (.aload_n 0, 1) := by decide +kernel
theorem dL_isPassed_112 : decode cL_isPassed 112 = .ok (.iload 6, 2) := by decide +kernel
theorem dL_isPassed_114 : decode cL_isPassed 114 = .ok (.iconst 0, 1) := by decide +kernel
theorem dL_isPassed_115 : decode cL_isPassed 115 = .ok (.invokevirtual 62, 3) := by decide +kernel
theorem dL_isPassed_118 : decode cL_isPassed 118 = .ok (.iastore, 1) := by decide +kernel
theorem dL_isPassed_119 : decode cL_isPassed 119 = .ok (.iinc 6 1, 3) := by decide +kernel
theorem dL_isPassed_122 : decode cL_isPassed 122 = .ok (.goto (-21), 3) := by decide +kernel
theorem dL_isPassed_125 : decode cL_isPassed 125 = .ok (.aload_n 0, 1) := by decide +kernel
theorem dL_isPassed_126 : decode cL_isPassed 126 = .ok (.bipush 13, 2) := by decide +kernel
theorem dL_isPassed_128 : decode cL_isPassed 128 = .ok (.invokevirtual 36, 3) := by decide +kernel
theorem dL_isPassed_131 : decode cL_isPassed 131 = .ok (.istore 6, 2) := by decide +kernel
theorem dL_isPassed_133 : decode cL_isPassed 133 = .ok (.aload_n 0, 1) := by decide +kernel
theorem dL_isPassed_134 : decode cL_isPassed 134 = .ok (.iconst 1, 1) := by decide +kernel
theorem dL_isPassed_135 : decode cL_isPassed 135 = .ok (.invokevirtual 76, 3) := by decide +kernel
theorem dL_isPassed_138 : decode cL_isPassed 138 = .ok (.istore 7, 2) := by decide +kernel
theorem dL_isPassed_140 : decode cL_isPassed 140 = .ok (.aload_n 0, 1) := by decide +kernel
theorem dL_isPassed_141 : decode cL_isPassed 141 = .ok (.iconst 0, 1) := by decide +kernel
theorem dL_isPassed_142 : decode cL_isPassed 142 = .ok (.invokevirtual 36, 3) := by decide +kernel
theorem dL_isPassed_145 : decode cL_isPassed 145 = .ok (.istore 8, 2) := by decide +kernel
theorem dL_isPassed_147 : decode cL_isPassed 147 = .ok (.aload_n 0, 1) := by decide +kernel
theorem dL_isPassed_148 : decode cL_isPassed 148 = .ok (.bipush 8, 2) := by decide +kernel
theorem dL_isPassed_150 : decode cL_isPassed 150 = .ok (.invokevirtual 36, 3) := by decide +kernel
theorem dL_isPassed_153 : decode cL_isPassed 153 = .ok (.istore 9, 2) := by decide +kernel
theorem dL_isPassed_155 : decode cL_isPassed 155 = .ok (.aload_n 0, 1) := by decide +kernel
theorem dL_isPassed_156 : decode cL_isPassed 156 = .ok (.iconst 1, 1) := by decide +kernel
theorem dL_isPassed_157 : decode cL_isPassed 157 = .ok (.invokevirtual 107, 3) := by decide +kernel
theorem dL_isPassed_160 : decode cL_isPassed 160 = .ok (.istore 10, 2) := by decide +kernel
theorem dL_isPassed_162 : decode cL_isPassed 162 = .ok (.aload_n 0, 1) := by decide +kernel
theorem dL_isPassed_163 : decode cL_isPassed 163 = .ok (.iconst 0, 1) := by decide +kernel
theorem dL_isPassed_164 : decode cL_isPassed 164 = .ok (.invokevirtual 36, 3) := by decide +kernel
theorem dL_isPassed_167 : decode cL_isPassed 167 = .ok (.iload 8, 2) := by decide +kernel
theorem dL_isPassed_169 : decode cL_isPassed 169 = .ok (.iconst 1, 1) := by decide +kernel
theorem dL_isPassed_170 : decode cL_isPassed 170 = .ok (.iadd, 1) := by decide +kernel
theorem dL_isPassed_171 : decode cL_isPassed 171 = .ok (.if_icmp .ne 53, 3) := by decide +kernel
theorem dL_isPassed_174 : decode cL_isPassed 174 = .ok (.aload_n 0, 1) := by decide +kernel
theorem dL_isPassed_175 : decode cL_isPassed 175 = .ok (.bipush 8, 2) := by decide +kernel
theorem dL_isPassed_177 : decode cL_isPassed 177 = .ok (.invokevirtual 36, 3) := by decide +kernel
theorem dL_isPassed_180 : decode cL_isPassed 180 = .ok (.iload 9, 2) := by decide +kernel
theorem dL_isPassed_182 : decode cL_isPassed 182 = .ok (.iload 10, 2) := by decide +kernel
theorem dL_isPassed_184 : decode cL_isPassed 184 = .ok (.iadd, 1) := by decide +kernel
theorem dL_isPassed_185 : decode cL_isPassed 185 = .ok (.if_icmp .ne 39, 3) := by decide +kernel
theorem dL_isPassed_188 : decode cL_isPassed 188 = .ok (.aload_n 0, 1) := by decide +kernel
theorem dL_isPassed_189 : decode cL_isPassed 189 = .ok (.bipush 13, 2) := by decide +kernel
theorem dL_isPassed_191 : decode cL_isPassed 191 = .ok (.invokevirtual 36, 3) := by decide +kernel
theorem dL_isPassed_194 : decode cL_isPassed 194 = .ok (.iload 6, 2) := by decide +kernel
theorem dL_isPassed_196 : decode cL_isPassed 196 = .ok (.iload 7, 2) := by decide +kernel
theorem dL_isPassed_198 : decode cL_isPassed 198 = .ok (.iadd, 1) := by decide +kernel
theorem dL_isPassed_199 : decode cL_isPassed 199 = .ok (.if_icmp .ne 25, 3) := by decide +kernel
theorem dL_isPassed_202 : decode cL_isPassed 202 = .ok (.iload_n 1, 1) := by decide +kernel
theorem dL_isPassed_203 : decode cL_isPassed 203 = .ok (.ifCond .eq 23, 3) := by decide +kernel
theorem dL_isPassed_206 : decode cL_isPassed 206 = .ok (.aload_n 0, 1) := by decide +kernel
theorem dL_isPassed_207 : decode cL_isPassed 207 = .ok (.bipush 13, 2) := by decide +kernel
theorem dL_isPassed_209 : decode cL_isPassed 209 = .ok (.invokevirtual 36, 3) := by decide +kernel
theorem dL_isPassed_212 : decode cL_isPassed 212 = .ok (.ifCond .le 14, 3) := by decide +kernel
theorem dL_isPassed_215 : decode cL_isPassed 215 = .ok (.aload_n 0, 1) := by decide +kernel
theorem dL_isPassed_216 : decode cL_isPassed 216 = .ok (.bipush 12, 2) := by decide +kernel
theorem dL_isPassed_218 : decode cL_isPassed 218 = .ok (.invokevirtual 36, 3) := by decide +kernel
theorem dL_isPassed_221 : decode cL_isPassed 221 = .ok (.ifCond .ne 5, 3) := by decide +kernel
theorem dL_isPassed_224 : decode cL_isPassed 224 = .ok (.iconst 0, 1) := by decide +kernel
theorem dL_isPassed_225 : decode cL_isPassed 225 = .ok (.ireturn, 1) := by decide +kernel
theorem dL_isPassed_226 : decode cL_isPassed 226 = .ok (.iconst 0, 1) := by decide +kernel
theorem dL_isPassed_227 : decode cL_isPassed 227 = .ok (.istore 11, 2) := by decide +kernel
theorem dL_isPassed_229 : decode cL_isPassed 229 = .ok (.iload 11, 2) := by decide +kernel
theorem dL_isPassed_231 : decode cL_isPassed 231 = .ok (.iload_n 3, 1) := by decide +kernel
theorem dL_isPassed_232 : decode cL_isPassed 232 = .ok (.if_icmp .ge 108, 3) := by decide +kernel
theorem dL_isPassed_235 : decode cL_isPassed 235 = .ok (.aload_n 0, 1) := by decide +kernel
theorem dL_isPassed_236 : decode cL_isPassed 236 = .ok (.iload 11, 2) := by decide +kernel
theorem dL_isPassed_238 : decode cL_isPassed 238 = .ok (.iconst 0, 1) := by decide +kernel
theorem dL_isPassed_239 : decode cL_isPassed 239 = .ok (.invokevirtual 62, 3) := by decide +kernel
theorem dL_isPassed_242 : decode cL_isPassed 242 = .ok (.istore 12, 2) := by decide +kernel
theorem dL_isPassed_244 : decode cL_isPassed 244 = .ok (.iload 12, 2) := by decide +kernel
theorem dL_isPassed_246 : decode cL_isPassed 246 = .ok (.aload 4, 2) := by decide +kernel
theorem dL_isPassed_248 : decode cL_isPassed 248 = .ok (.iload 11, 2) := by decide +kernel
theorem dL_isPassed_250 : decode cL_isPassed 250 = .ok (.iaload, 1) := by decide +kernel
theorem dL_isPassed_251 : decode cL_isPassed 251 = .ok (.if_icmp .eq 83, 3) := by decide +kernel
theorem dL_isPassed_254 : decode cL_isPassed 254 = .ok (.aload 4, 2) := by decide +kernel
theorem dL_isPassed_256 : decode cL_isPassed 256 = .ok (.iload 11, 2) := by decide +kernel
theorem dL_isPassed_258 : decode cL_isPassed 258 = .ok (.iaload, 1) := by decide +kernel
theorem dL_isPassed_259 : decode cL_isPassed 259 = .ok (.ifCond .ne 29, 3) := by decide +kernel
theorem dL_isPassed_262 : decode cL_isPassed 262 = .ok (.iload 12, 2) := by decide +kernel
theorem dL_isPassed_264 : decode cL_isPassed 264 = .ok (.iconst 1, 1) := by decide +kernel
theorem dL_isPassed_265 : decode cL_isPassed 265 = .ok (.if_icmp .eq 9, 3) := by decide +kernel
theorem dL_isPassed_268 : decode cL_isPassed 268 = .ok (.iload 12, 2) := by decide +kernel
theorem dL_isPassed_270 : decode cL_isPassed 270 = .ok (.iconst 4, 1) := by decide +kernel
theorem dL_isPassed_271 : decode cL_isPassed 271 = .ok (.if_icmp .ne 17, 3) := by decide +kernel
theorem dL_isPassed_274 : decode cL_isPassed 274 = .ok (.aload_n 0, 1) := by decide +kernel
theorem dL_isPassed_275 : decode cL_isPassed 275 = .ok (.iload 11, 2) := by decide +kernel
theorem dL_isPassed_277 : decode cL_isPassed 277 = .ok (.iconst 2, 1) := by decide +kernel
theorem dL_isPassed_278 : decode cL_isPassed 278 = .ok (.invokevirtual 62, 3) := by decide +kernel
theorem dL_isPassed_281 : decode cL_isPassed 281 = .ok (.iload 8, 2) := by decide +kernel
theorem dL_isPassed_283 : decode cL_isPassed 283 = .ok (.iconst 1, 1) := by decide +kernel
theorem dL_isPassed_284 : decode cL_isPassed 284 = .ok (.iadd, 1) := by decide +kernel
theorem dL_isPassed_285 : decode cL_isPassed 285 = .ok (.if_icmp .eq 49, 3) := by decide +kernel
theorem dL_isPassed_288 : decode cL_isPassed 288 = .ok (.aload 4, 2) := by decide +kernel
theorem dL_isPassed_290 : decode cL_isPassed 290 = .ok (.iload 11, 2) := by decide +kernel
theorem dL_isPassed_292 : decode cL_isPassed 292 = .ok (.iaload, 1) := by decide +kernel
theorem dL_isPassed_293 : decode cL_isPassed 293 = .ok (.iconst 1, 1) := by decide +kernel
theorem dL_isPassed_294 : decode cL_isPassed 294 = .ok (.if_icmp .ne 22, 3) := by decide +kernel
theorem dL_isPassed_297 : decode cL_isPassed 297 = .ok (.iload 12, 2) := by decide +kernel
theorem dL_isPassed_299 : decode cL_isPassed 299 = .ok (.iconst 2, 1) := by decide +kernel
theorem dL_isPassed_300 : decode cL_isPassed 300 = .ok (.if_icmp .eq 34, 3) := by decide +kernel
theorem dL_isPassed_303 : decode cL_isPassed 303 = .ok (.iload 12, 2) := by decide +kernel
theorem dL_isPassed_305 : decode cL_isPassed 305 = .ok (.iconst 5, 1) := by decide +kernel
theorem dL_isPassed_306 : decode cL_isPassed 306 = .ok (.if_icmp .eq 28, 3) := by decide +kernel
theorem dL_isPassed_309 : decode cL_isPassed 309 = .ok (.iload 12, 2) := by decide +kernel
theorem dL_isPassed_311 : decode cL_isPassed 311 = .ok (.bipush 6, 2) := by decide +kernel
theorem dL_isPassed_313 : decode cL_isPassed 313 = .ok (.if_icmp .eq 21, 3) := by decide +kernel
theorem dL_isPassed_316 : decode cL_isPassed 316 = .ok (.aload 4, 2) := by decide +kernel
theorem dL_isPassed_318 : decode cL_isPassed 318 = .ok (.iload 11, 2) := by decide +kernel
theorem dL_isPassed_320 : decode cL_isPassed 320 = .ok (.iaload, 1) := by decide +kernel
theorem dL_isPassed_321 : decode cL_isPassed 321 = .ok (.iconst 5, 1) := by decide +kernel
theorem dL_isPassed_322 : decode cL_isPassed 322 = .ok (.if_icmp .ne 10, 3) := by decide +kernel
theorem dL_isPassed_325 : decode cL_isPassed 325 = .ok (.iload 12, 2) := by decide +kernel
theorem dL_isPassed_327 : decode cL_isPassed 327 = .ok (.bipush 6, 2) := by decide +kernel
theorem dL_isPassed_329 : decode cL_isPassed 329 = .ok (.if_icmp .eq 5, 3) := by decide +kernel
theorem dL_isPassed_332 : decode cL_isPassed 332 = .ok (.iconst 0, 1) := by decide +kernel
theorem dL_isPassed_333 : decode cL_isPassed 333 = .ok (.ireturn, 1) := by decide +kernel
theorem dL_isPassed_334 : decode cL_isPassed 334 = .ok (.iinc 11 1, 3) := by decide +kernel
theorem dL_isPassed_337 : decode cL_isPassed 337 = .ok (.goto (-108), 3) := by decide +kernel
theorem dL_isPassed_340 : decode cL_isPassed 340 = .ok (.iconst 0, 1) := by decide +kernel
theorem dL_isPassed_341 : decode cL_isPassed 341 = .ok (.istore 11, 2) := by decide +kernel
theorem dL_isPassed_343 : decode cL_isPassed 343 = .ok (.iload 11, 2) := by decide +kernel
theorem dL_isPassed_345 : decode cL_isPassed 345 = .ok (.iconst 5, 1) := by decide +kernel
theorem dL_isPassed_346 : decode cL_isPassed 346 = .ok (.if_icmp .ge 346, 3) := by decide +kernel
theorem dL_isPassed_349 : decode cL_isPassed 349 = .ok (.aload_n 0, 1) := by decide +kernel
theorem dL_isPassed_350 : decode cL_isPassed 350 = .ok (.iload 11, 2) := by decide +kernel
theorem dL_isPassed_352 : decode cL_isPassed 352 = .ok (.bipush 6, 2) := by decide +kernel
theorem dL_isPassed_354 : decode cL_isPassed 354 = .ok (.invokevirtual 49, 3) := by decide +kernel
theorem dL_isPassed_357 : decode cL_isPassed 357 = .ok (.istore 12, 2) := by decide +kernel
theorem dL_isPassed_359 : decode cL_isPassed 359 = .ok (.aload_n 0, 1) := by decide +kernel
theorem dL_isPassed_360 : decode cL_isPassed 360 = .ok (.iload 11, 2) := by decide +kernel
theorem dL_isPassed_362 : decode cL_isPassed 362 = .ok (.iconst 3, 1) := by decide +kernel
theorem dL_isPassed_363 : decode cL_isPassed 363 = .ok (.invokevirtual 49, 3) := by decide +kernel
theorem dL_isPassed_366 : decode cL_isPassed 366 = .ok (.istore 13, 2) := by decide +kernel
theorem dL_isPassed_368 : decode cL_isPassed 368 = .ok (.aload_n 0, 1) := by decide +kernel
theorem dL_isPassed_369 : decode cL_isPassed 369 = .ok (.iload 11, 2) := by decide +kernel
theorem dL_isPassed_371 : decode cL_isPassed 371 = .ok (.bipush 7, 2) := by decide +kernel
theorem dL_isPassed_373 : decode cL_isPassed 373 = .ok (.invokevirtual 49, 3) := by decide +kernel
theorem dL_isPassed_376 : decode cL_isPassed 376 = .ok (.iconst 5, 1) := by decide +kernel
theorem dL_isPassed_377 : decode cL_isPassed 377 = .ok (.idiv, 1) := by decide +kernel
theorem dL_isPassed_378 : decode cL_isPassed 378 = .ok (.aload_n 2, 1) := by decide +kernel
theorem dL_isPassed_379 : decode cL_isPassed 379 = .ok (.iload 11, 2) := by decide +kernel
theorem dL_isPassed_381 : decode cL_isPassed 381 = .ok (.aaload, 1) := by decide +kernel
theorem dL_isPassed_382 : decode cL_isPassed 382 = .ok (.iconst 1, 1) := by decide +kernel
theorem dL_isPassed_383 : decode cL_isPassed 383 = .ok (.iaload, 1) := by decide +kernel
theorem dL_isPassed_384 : decode cL_isPassed 384 = .ok (.iconst 5, 1) := by decide +kernel
theorem dL_isPassed_385 : decode cL_isPassed 385 = .ok (.idiv, 1) := by decide +kernel
theorem dL_isPassed_386 : decode cL_isPassed 386 = .ok (.isub, 1) := by decide +kernel
theorem dL_isPassed_387 : decode cL_isPassed 387 = .ok (.invokestatic 110, 3) := by decide +kernel
theorem dL_isPassed_390 : decode cL_isPassed 390 = .ok (.aload_n 0, 1) := by decide +kernel
theorem dL_isPassed_391 : decode cL_isPassed 391 = .ok (.iload 11, 2) := by decide +kernel
theorem dL_isPassed_393 : decode cL_isPassed 393 = .ok (.bipush 7, 2) := by decide +kernel
theorem dL_isPassed_395 : decode cL_isPassed 395 = .ok (.invokevirtual 49, 3) := by decide +kernel
theorem dL_isPassed_398 : decode cL_isPassed 398 = .ok (.iconst 5, 1) := by decide +kernel
theorem dL_isPassed_399 : decode cL_isPassed 399 = .ok (.irem, 1) := by decide +kernel
theorem dL_isPassed_400 : decode cL_isPassed 400 = .ok (.aload_n 2, 1) := by decide +kernel
theorem dL_isPassed_401 : decode cL_isPassed 401 = .ok (.iload 11, 2) := by decide +kernel
theorem dL_isPassed_403 : decode cL_isPassed 403 = .ok (.aaload, 1) := by decide +kernel
theorem dL_isPassed_404 : decode cL_isPassed 404 = .ok (.iconst 1, 1) := by decide +kernel
theorem dL_isPassed_405 : decode cL_isPassed 405 = .ok (.iaload, 1) := by decide +kernel
theorem dL_isPassed_406 : decode cL_isPassed 406 = .ok (.iconst 5, 1) := by decide +kernel
theorem dL_isPassed_407 : decode cL_isPassed 407 = .ok (.irem, 1) := by decide +kernel
theorem dL_isPassed_408 : decode cL_isPassed 408 = .ok (.isub, 1) := by decide +kernel
theorem dL_isPassed_409 : decode cL_isPassed 409 = .ok (.invokestatic 110, 3) := by decide +kernel
theorem dL_isPassed_412 : decode cL_isPassed 412 = .ok (.iadd, 1) := by decide +kernel
theorem dL_isPassed_413 : decode cL_isPassed 413 = .ok (.istore 14, 2) := by decide +kernel
theorem dL_isPassed_415 : decode cL_isPassed 415 = .ok (.aload 5, 2) := by decide +kernel
theorem dL_isPassed_417 : decode cL_isPassed 417 = .ok (.iload 11, 2) := by decide +kernel
theorem dL_isPassed_419 : decode cL_isPassed 419 = .ok (.iaload, 1) := by decide +kernel
theorem dL_isPassed_420 : decode cL_isPassed 420 = .ok (.iload 12, 2) := by decide +kernel
theorem dL_isPassed_422 : decode cL_isPassed 422 = .ok (.iconst 2, 1) := by decide +kernel
theorem dL_isPassed_423 : decode cL_isPassed 423 = .ok (.if_icmp .ne 7, 3) := by decide +kernel
theorem dL_isPassed_426 : decode cL_isPassed 426 = .ok (.iconst (-1), 1) := by decide +kernel
theorem dL_isPassed_427 : decode cL_isPassed 427 = .ok (.goto 5, 3) := by decide +kernel
theorem dL_isPassed_430 : decode cL_isPassed 430 = .ok (.iload 13, 2) := by decide +kernel
theorem dL_isPassed_432 : decode cL_isPassed 432 = .ok (.if_icmp .ne 72, 3) := by decide +kernel
theorem dL_isPassed_435 : decode cL_isPassed 435 = .ok (.iload 13, 2) := by decide +kernel
theorem dL_isPassed_437 : decode cL_isPassed 437 = .ok (.ifCond .lt 67, 3) := by decide +kernel
theorem dL_isPassed_440 : decode cL_isPassed 440 = .ok (.iload 13, 2) := by decide +kernel
theorem dL_isPassed_442 : decode cL_isPassed 442 = .ok (.aload_n 0, 1) := by decide +kernel
theorem dL_isPassed_443 : decode cL_isPassed 443 = .ok (.iload 11, 2) := by decide +kernel
theorem dL_isPassed_445 : decode cL_isPassed 445 = .ok (.iconst 2, 1) := by decide +kernel
theorem dL_isPassed_446 : decode cL_isPassed 446 = .ok (.invokevirtual 49, 3) := by decide +kernel
theorem dL_isPassed_449 : decode cL_isPassed 449 = .ok (.if_icmp .gt 55, 3) := by decide +kernel
theorem dL_isPassed_452 : decode cL_isPassed 452 = .ok (.iload 14, 2) := by decide +kernel
theorem dL_isPassed_454 : decode cL_isPassed 454 = .ok (.iconst 1, 1) := by decide +kernel
theorem dL_isPassed_455 : decode cL_isPassed 455 = .ok (.if_icmp .gt 49, 3) := by decide +kernel
theorem dL_isPassed_458 : decode cL_isPassed 458 = .ok (.iload 14, 2) := by decide +kernel
theorem dL_isPassed_460 : decode cL_isPassed 460 = .ok (.iconst 1, 1) := by decide +kernel
theorem dL_isPassed_461 : decode cL_isPassed 461 = .ok (.if_icmp .ne 13, 3) := by decide +kernel
theorem dL_isPassed_464 : decode cL_isPassed 464 = .ok (.aload_n 2, 1) := by decide +kernel
theorem dL_isPassed_465 : decode cL_isPassed 465 = .ok (.iload 11, 2) := by decide +kernel
theorem dL_isPassed_467 : decode cL_isPassed 467 = .ok (.aaload, 1) := by decide +kernel
theorem dL_isPassed_468 : decode cL_isPassed 468 = .ok (.iconst 0, 1) := by decide +kernel
theorem dL_isPassed_469 : decode cL_isPassed 469 = .ok (.iaload, 1) := by decide +kernel
theorem dL_isPassed_470 : decode cL_isPassed 470 = .ok (.iconst 1, 1) := by decide +kernel
theorem dL_isPassed_471 : decode cL_isPassed 471 = .ok (.if_icmp .ne 33, 3) := by decide +kernel
theorem dL_isPassed_474 : decode cL_isPassed 474 = .ok (.iload 12, 2) := by decide +kernel
theorem dL_isPassed_476 : decode cL_isPassed 476 = .ok (.iconst 1, 1) := by decide +kernel
theorem dL_isPassed_477 : decode cL_isPassed 477 = .ok (.if_icmp .ne 7, 3) := by decide +kernel
theorem dL_isPassed_480 : decode cL_isPassed 480 = .ok (.iconst 1, 1) := by decide +kernel
theorem dL_isPassed_481 : decode cL_isPassed 481 = .ok (.goto 4, 3) := by decide +kernel
theorem dL_isPassed_484 : decode cL_isPassed 484 = .ok (.iconst 0, 1) := by decide +kernel
theorem dL_isPassed_485 : decode cL_isPassed 485 = .ok (.aload_n 0, 1) := by decide +kernel
theorem dL_isPassed_486 : decode cL_isPassed 486 = .ok (.iload 11, 2) := by decide +kernel
theorem dL_isPassed_488 : decode cL_isPassed 488 = .ok (.bipush 8, 2) := by decide +kernel
theorem dL_isPassed_490 : decode cL_isPassed 490 = .ok (.invokevirtual 49, 3) := by decide +kernel
theorem dL_isPassed_493 : decode cL_isPassed 493 = .ok (.ifCond .lt 7, 3) := by decide +kernel
theorem dL_isPassed_496 : decode cL_isPassed 496 = .ok (.iconst 1, 1) := by decide +kernel
theorem dL_isPassed_497 : decode cL_isPassed 497 = .ok (.goto 4, 3) := by decide +kernel
theorem dL_isPassed_500 : decode cL_isPassed 500 = .ok (.iconst 0, 1) := by decide +kernel
theorem dL_isPassed_501 : decode cL_isPassed 501 = .ok (.if_icmp .eq 5, 3) := by decide +kernel
theorem dL_isPassed_504 : decode cL_isPassed 504 = .ok (.iconst 0, 1) := by decide +kernel
theorem dL_isPassed_505 : decode cL_isPassed 505 = .ok (.ireturn, 1) := by decide +kernel
theorem dL_isPassed_506 : decode cL_isPassed 506 = .ok (.aload_n 2, 1) := by decide +kernel
theorem dL_isPassed_507 : decode cL_isPassed 507 = .ok (.iload 11, 2) := by decide +kernel
theorem dL_isPassed_509 : decode cL_isPassed 509 = .ok (.aaload, 1) := by decide +kernel
theorem dL_isPassed_510 : decode cL_isPassed 510 = .ok (.iconst 0, 1) := by decide +kernel
theorem dL_isPassed_511 : decode cL_isPassed 511 = .ok (.iaload, 1) := by decide +kernel
theorem dL_isPassed_512 : decode cL_isPassed 512 = .ok (.ifCond .ne 31, 3) := by decide +kernel
theorem dL_isPassed_515 : decode cL_isPassed 515 = .ok (.iload 12, 2) := by decide +kernel
theorem dL_isPassed_517 : decode cL_isPassed 517 = .ok (.ifCond .ne 26, 3) := by decide +kernel
theorem dL_isPassed_520 : decode cL_isPassed 520 = .ok (.iload 13, 2) := by decide +kernel
theorem dL_isPassed_522 : decode cL_isPassed 522 = .ok (.aload_n 0, 1) := by decide +kernel
theorem dL_isPassed_523 : decode cL_isPassed 523 = .ok (.iload 11, 2) := by decide +kernel
theorem dL_isPassed_525 : decode cL_isPassed 525 = .ok (.iconst 2, 1) := by decide +kernel
theorem dL_isPassed_526 : decode cL_isPassed 526 = .ok (.invokevirtual 49, 3) := by decide +kernel
theorem dL_isPassed_529 : decode cL_isPassed 529 = .ok (.aload_n 2, 1) := by decide +kernel
theorem dL_isPassed_530 : decode cL_isPassed 530 = .ok (.iload 11, 2) := by decide +kernel
theorem dL_isPassed_532 : decode cL_isPassed 532 = .ok (.aaload, 1) := by decide +kernel
theorem dL_isPassed_533 : decode cL_isPassed 533 = .ok (.iconst 2, 1) := by decide +kernel
theorem dL_isPassed_534 : decode cL_isPassed 534 = .ok (.iaload, 1) := by decide +kernel
theorem dL_isPassed_535 : decode cL_isPassed 535 = .ok (.iconst 3, 1) := by decide +kernel
theorem dL_isPassed_536 : decode cL_isPassed 536 = .ok (.iadd, 1) := by decide +kernel
theorem dL_isPassed_537 : decode cL_isPassed 537 = .ok (.invokestatic 115, 3) := by decide +kernel
theorem dL_isPassed_540 : decode cL_isPassed 540 = .ok (.if_icmp .ne 46, 3) := by decide +kernel
theorem dL_isPassed_543 : decode cL_isPassed 543 = .ok (.aload_n 2, 1) := by decide +kernel
theorem dL_isPassed_544 : decode cL_isPassed 544 = .ok (.iload 11, 2) := by decide +kernel
theorem dL_isPassed_546 : decode cL_isPassed 546 = .ok (.aaload, 1) := by decide +kernel
theorem dL_isPassed_547 : decode cL_isPassed 547 = .ok (.iconst 0, 1) := by decide +kernel
theorem dL_isPassed_548 : decode cL_isPassed 548 = .ok (.iaload, 1) := by decide +kernel
theorem dL_isPassed_549 : decode cL_isPassed 549 = .ok (.ifCond .ne 22, 3) := by decide +kernel
theorem dL_isPassed_552 : decode cL_isPassed 552 = .ok (.iload 12, 2) := by decide +kernel
theorem dL_isPassed_554 : decode cL_isPassed 554 = .ok (.iconst 1, 1) := by decide +kernel
theorem dL_isPassed_555 : decode cL_isPassed 555 = .ok (.if_icmp .ne 16, 3) := by decide +kernel
theorem dL_isPassed_558 : decode cL_isPassed 558 = .ok (.iload 13, 2) := by decide +kernel
theorem dL_isPassed_560 : decode cL_isPassed 560 = .ok (.aload_n 2, 1) := by decide +kernel
theorem dL_isPassed_561 : decode cL_isPassed 561 = .ok (.iload 11, 2) := by decide +kernel
theorem dL_isPassed_563 : decode cL_isPassed 563 = .ok (.aaload, 1) := by decide +kernel
theorem dL_isPassed_564 : decode cL_isPassed 564 = .ok (.iconst 2, 1) := by decide +kernel
theorem dL_isPassed_565 : decode cL_isPassed 565 = .ok (.iaload, 1) := by decide +kernel
theorem dL_isPassed_566 : decode cL_isPassed 566 = .ok (.iconst 2, 1) := by decide +kernel
theorem dL_isPassed_567 : decode cL_isPassed 567 = .ok (.isub, 1) := by decide +kernel
theorem dL_isPassed_568 : decode cL_isPassed 568 = .ok (.if_icmp .ne 18, 3) := by decide +kernel
theorem dL_isPassed_571 : decode cL_isPassed 571 = .ok (.aload_n 2, 1) := by decide +kernel
theorem dL_isPassed_572 : decode cL_isPassed 572 = .ok (.iload 11, 2) := by decide +kernel
theorem dL_isPassed_574 : decode cL_isPassed 574 = .ok (.aaload, 1) := by decide +kernel
theorem dL_isPassed_575 : decode cL_isPassed 575 = .ok (.iconst 0, 1) := by decide +kernel
theorem dL_isPassed_576 : decode cL_isPassed 576 = .ok (.iaload, 1) := by decide +kernel
theorem dL_isPassed_577 : decode cL_isPassed 577 = .ok (.ifCond .ne 11, 3) := by decide +kernel
theorem dL_isPassed_580 : decode cL_isPassed 580 = .ok (.iload 12, 2) := by decide +kernel
theorem dL_isPassed_582 : decode cL_isPassed 582 = .ok (.iconst 2, 1) := by decide +kernel
theorem dL_isPassed_583 : decode cL_isPassed 583 = .ok (.if_icmp .ne 5, 3) := by decide +kernel
theorem dL_isPassed_586 : decode cL_isPassed 586 = .ok (.iconst 0, 1) := by decide +kernel
theorem dL_isPassed_587 : decode cL_isPassed 587 = .ok (.ireturn, 1) := by decide +kernel
theorem dL_isPassed_588 : decode cL_isPassed 588 = .ok (.aload_n 2, 1) := by decide +kernel
theorem dL_isPassed_589 : decode cL_isPassed 589 = .ok (.iload 11, 2) := by decide +kernel
theorem dL_isPassed_591 : decode cL_isPassed 591 = .ok (.aaload, 1) := by decide +kernel
theorem dL_isPassed_592 : decode cL_isPassed 592 = .ok (.iconst 0, 1) := by decide +kernel
theorem dL_isPassed_593 : decode cL_isPassed 593 = .ok (.iaload, 1) := by decide +kernel
theorem dL_isPassed_594 : decode cL_isPassed 594 = .ok (.iconst 1, 1) := by decide +kernel
theorem dL_isPassed_595 : decode cL_isPassed 595 = .ok (.if_icmp .ne 36, 3) := by decide +kernel
theorem dL_isPassed_598 : decode cL_isPassed 598 = .ok (.iload 14, 2) := by decide +kernel
theorem dL_isPassed_600 : decode cL_isPassed 600 = .ok (.iconst 1, 1) := by decide +kernel
theorem dL_isPassed_601 : decode cL_isPassed 601 = .ok (.if_icmp .ne 30, 3) := by decide +kernel
theorem dL_isPassed_604 : decode cL_isPassed 604 = .ok (.iload 13, 2) := by decide +kernel
theorem dL_isPassed_606 : decode cL_isPassed 606 = .ok (.aload_n 2, 1) := by decide +kernel
theorem dL_isPassed_607 : decode cL_isPassed 607 = .ok (.iload 11, 2) := by decide +kernel
theorem dL_isPassed_609 : decode cL_isPassed 609 = .ok (.aaload, 1) := by decide +kernel
theorem dL_isPassed_610 : decode cL_isPassed 610 = .ok (.iconst 2, 1) := by decide +kernel
theorem dL_isPassed_611 : decode cL_isPassed 611 = .ok (.iaload, 1) := by decide +kernel
theorem dL_isPassed_612 : decode cL_isPassed 612 = .ok (.iconst 1, 1) := by decide +kernel
theorem dL_isPassed_613 : decode cL_isPassed 613 = .ok (.isub, 1) := by decide +kernel
theorem dL_isPassed_614 : decode cL_isPassed 614 = .ok (.if_icmp .gt 70, 3) := by decide +kernel
theorem dL_isPassed_617 : decode cL_isPassed 617 = .ok (.iload 13, 2) := by decide +kernel
theorem dL_isPassed_619 : decode cL_isPassed 619 = .ok (.aload_n 2, 1) := by decide +kernel
theorem dL_isPassed_620 : decode cL_isPassed 620 = .ok (.iload 11, 2) := by decide +kernel
theorem dL_isPassed_622 : decode cL_isPassed 622 = .ok (.aaload, 1) := by decide +kernel
theorem dL_isPassed_623 : decode cL_isPassed 623 = .ok (.iconst 2, 1) := by decide +kernel
theorem dL_isPassed_624 : decode cL_isPassed 624 = .ok (.iaload, 1) := by decide +kernel
theorem dL_isPassed_625 : decode cL_isPassed 625 = .ok (.bipush 7, 2) := by decide +kernel
theorem dL_isPassed_627 : decode cL_isPassed 627 = .ok (.isub, 1) := by decide +kernel
theorem dL_isPassed_628 : decode cL_isPassed 628 = .ok (.if_icmp .lt 56, 3) := by decide +kernel
theorem dL_isPassed_631 : decode cL_isPassed 631 = .ok (.aload_n 2, 1) := by decide +kernel
theorem dL_isPassed_632 : decode cL_isPassed 632 = .ok (.iload 11, 2) := by decide +kernel
theorem dL_isPassed_634 : decode cL_isPassed 634 = .ok (.aaload, 1) := by decide +kernel
theorem dL_isPassed_635 : decode cL_isPassed 635 = .ok (.iconst 0, 1) := by decide +kernel
theorem dL_isPassed_636 : decode cL_isPassed 636 = .ok (.iaload, 1) := by decide +kernel
theorem dL_isPassed_637 : decode cL_isPassed 637 = .ok (.iconst 1, 1) := by decide +kernel
theorem dL_isPassed_638 : decode cL_isPassed 638 = .ok (.if_icmp .ne 25, 3) := by decide +kernel
theorem dL_isPassed_641 : decode cL_isPassed 641 = .ok (.iload 14, 2) := by decide +kernel
theorem dL_isPassed_643 : decode cL_isPassed 643 = .ok (.ifCond .ne 20, 3) := by decide +kernel
theorem dL_isPassed_646 : decode cL_isPassed 646 = .ok (.iload 12, 2) := by decide +kernel
theorem dL_isPassed_648 : decode cL_isPassed 648 = .ok (.iconst 2, 1) := by decide +kernel
theorem dL_isPassed_649 : decode cL_isPassed 649 = .ok (.if_icmp .eq 14, 3) := by decide +kernel
theorem dL_isPassed_652 : decode cL_isPassed 652 = .ok (.iload 13, 2) := by decide +kernel
theorem dL_isPassed_654 : decode cL_isPassed 654 = .ok (.aload_n 2, 1) := by decide +kernel
theorem dL_isPassed_655 : decode cL_isPassed 655 = .ok (.iload 11, 2) := by decide +kernel
theorem dL_isPassed_657 : decode cL_isPassed 657 = .ok (.aaload, 1) := by decide +kernel
theorem dL_isPassed_658 : decode cL_isPassed 658 = .ok (.iconst 2, 1) := by decide +kernel
theorem dL_isPassed_659 : decode cL_isPassed 659 = .ok (.iaload, 1) := by decide +kernel
theorem dL_isPassed_660 : decode cL_isPassed 660 = .ok (.if_icmp .ne 24, 3) := by decide +kernel
theorem dL_isPassed_663 : decode cL_isPassed 663 = .ok (.aload_n 2, 1) := by decide +kernel
theorem dL_isPassed_664 : decode cL_isPassed 664 = .ok (.iload 11, 2) := by decide +kernel
theorem dL_isPassed_666 : decode cL_isPassed 666 = .ok (.aaload, 1) := by decide +kernel
theorem dL_isPassed_667 : decode cL_isPassed 667 = .ok (.iconst 0, 1) := by decide +kernel
theorem dL_isPassed_668 : decode cL_isPassed 668 = .ok (.iaload, 1) := by decide +kernel
theorem dL_isPassed_669 : decode cL_isPassed 669 = .ok (.iconst 2, 1) := by decide +kernel
theorem dL_isPassed_670 : decode cL_isPassed 670 = .ok (.if_icmp .ne 16, 3) := by decide +kernel
theorem dL_isPassed_673 : decode cL_isPassed 673 = .ok (.iload 12, 2) := by decide +kernel
theorem dL_isPassed_675 : decode cL_isPassed 675 = .ok (.iconst 2, 1) := by decide +kernel
theorem dL_isPassed_676 : decode cL_isPassed 676 = .ok (.if_icmp .ne 8, 3) := by decide +kernel
theorem dL_isPassed_679 : decode cL_isPassed 679 = .ok (.iload 13, 2) := by decide +kernel
theorem dL_isPassed_681 : decode cL_isPassed 681 = .ok (.ifCond .eq 5, 3) := by decide +kernel
theorem dL_isPassed_684 : decode cL_isPassed 684 = .ok (.iconst 0, 1) := by decide +kernel
theorem dL_isPassed_685 : decode cL_isPassed 685 = .ok (.ireturn, 1) := by decide +kernel
theorem dL_isPassed_686 : decode cL_isPassed 686 = .ok (.iinc 11 1, 3) := by decide +kernel
theorem dL_isPassed_689 : decode cL_isPassed 689 = .ok (.goto (-346), 3) := by decide +kernel
theorem dL_isPassed_692 : decode cL_isPassed 692 = .ok (.iconst 1, 1) := by decide +kernel
theorem dL_isPassed_693 : decode cL_isPassed 693 = .ok (.ireturn, 1) := by decide +kernel
end
section
/-! ===== the machine over cells that are numbered from 1; cell 0 is the script ===== -/
abbrev qY : Type := MethodName × ByteArray × Nat × Option FieldType
abbrev qE : Type := (Nat × vp_A) ⊕ (Nat × List Value)
abbrev qZ : Type := Nat × (Nat → Int32)
abbrev qM : Type := Nat → qE
def qad (b B : Nat) (k : Nat) : Nat := match k with
  | 0 => b
  | j + 1 => B + j
def qv (f : Nat → Nat) (v : Value) : Value := match v with
  | .ref r => .ref (f r)
  | w => w
def qa (f : Nat → Nat) (x : vp_A) : vp_A := match x with
  | (n, .inr (.inr (.inr (.inr g)))) => (n, .inr (.inr (.inr (.inr (fun j => (g j).map f)))))
  | w => w
def qe (f : Nat → Nat) (cA : Nat → ClassId) (e : qE) : va_E := match e with
  | .inl a => .inl (cA a.1, qa f a.2)
  | .inr o => .inr (o.1, o.2.map (qv f))
def qw (f : Nat → Nat) (cA : Nat → ClassId) (M : qM) (n : Nat) : va_W := (List.range n).map (fun k => (f (k + 1), qe f cA (M (k + 1))))
def qset (M : qM) (r : Nat) (e : qE) : qM := fun k => if k = r then e else M k
theorem qw_len (f : Nat → Nat) (cA : Nat → ClassId) (M : qM) (n : Nat) : (qw f cA M n).length = n := by simp [qw]
theorem qw_at (f : Nat → Nat) (cA : Nat → ClassId) (M : qM) {n k : Nat} (h : k < n) : (qw f cA M n)[k]? = some (f (k + 1), qe f cA (M (k + 1))) := by
  simp [qw, h]
theorem qw_at' {f : Nat → Nat} {cA : Nat → ClassId} {M : qM} {n k : Nat} {q : Nat × va_E} (h : (qw f cA M n)[k]? = some q) : k < n ∧ q = (f (k + 1), qe f cA (M (k + 1))) := by
  have hl := (List.getElem?_eq_some_iff.mp h).1
  rw [qw_len] at hl
  rw [qw_at f cA M hl] at h
  exact ⟨hl, (Option.some.inj h).symm⟩
theorem qw_set (f : Nat → Nat) (cA : Nat → ClassId) (M : qM) {n k : Nat} (e : qE) (h : k < n) : (qw f cA M n).set k (f (k + 1), qe f cA e) = qw f cA (qset M (k + 1) e) n := by
  apply List.ext_getElem?
  intro i
  by_cases hi : i < n
  · rw [qw_at _ _ _ hi]
    by_cases hk : i = k
    · subst hk
      rw [List.getElem?_set_self (by rw [qw_len]; exact hi)]
      simp [qset]
    · rw [List.getElem?_set_ne (Ne.symm hk), qw_at _ _ _ hi]
      simp [qset, hk]
  · rw [List.getElem?_eq_none (by rw [List.length_set, qw_len]; omega), List.getElem?_eq_none (by rw [qw_len]; omega)]
theorem qw_push (f : Nat → Nat) (cA : Nat → ClassId) (M : qM) (n : Nat) (e : qE) : qw f cA M n ++ [(f (n + 1), qe f cA e)] = qw f cA (qset M (n + 1) e) (n + 1) := by
  unfold qw
  rw [List.range_succ, List.map_append]
  congr 1
  · apply List.map_congr_left
    intro k hk
    have h1 : k < n := List.mem_range.mp hk
    have h2 : ¬ k = n := by omega
    simp [qset, h2]
  · simp [qset]
theorem qad_inj (b B : Nat) (h : b < B) {i j : Nat} (e : qad b B (i + 1) = qad b B (j + 1)) : i = j := by
  have e' : B + i = B + j := e
  omega
theorem qw_D (b B : Nat) (h : b < B) (cA : Nat → ClassId) (M : qM) (n : Nat) : va_D (fun q => B ≤ q) (qw (qad b B) cA M n) := by
  refine ⟨fun i j p q hi hj he => ?_, fun k q hk => ?_⟩
  · obtain ⟨-, rfl⟩ := qw_at' hi
    obtain ⟨-, rfl⟩ := qw_at' hj
    exact qad_inj b B h he
  · obtain ⟨-, rfl⟩ := qw_at' hk
    exact Nat.le_add_right B k
/-! the tables' words that hold at every later start too -/
def qnest (w : Cond) : Bool := match w with
  | .fieldLinkNest .. => true
  | .methodLinkNest .. => true
  | _ => false
def qover (w : Cond) : Bool := match w with
  | .arrayOver _ => true
  | _ => false
theorem qover_moved {ty : FieldType} {A A' : Array Value} {u U : State} (hvm : u.vm.Alike U.vm) (h : (Cond.arrayOver ty).before A u = true) : (Cond.arrayOver ty).before A' U = true := by
  have e : (Cond.arrayOver ty).before A' U = (Cond.arrayOver ty).before A u := by
    simp only [Cond.before, Cond.holds, Cond.value, hvm.findClass]
    congr 1
    congr 1
    funext comp
    have e1 := va_idx_bare U.vm comp
    have e2 := va_idx_bare u.vm comp
    rw [hvm.bare_eq] at e1
    refine congr (congrArg Option.bind (e1.symm.trans e2)) ?_
    funext c
    exact hvm.class_map _ (fun k r _ _ => rfl) c
  rw [e]; exact h
def qgood (w : Cond) : Bool := goodWord w || qnest w || qover w
def qTBL : List Cond := lw_tbl.filter qgood
theorem qpay {args : Array Value} {s : State} (h : ∀ w ∈ qTBL, w.before args s = true) : ∀ w ∈ qTBL, ∀ (a' : Array Value) (U : State), s.WarmedH U.vm → w.before a' U = true := by
  intro w hw a' U hW
  have hg : qgood w = true := (List.mem_filter.mp hw).2
  have hb := h w hw
  rcases (Bool.or_eq_true _ _).mp hg with hg2 | h1
  rotate_left
  · unfold qover at h1
    split at h1
    · exact qover_moved hW.alike hb
    · cases h1
  rcases (Bool.or_eq_true _ _).mp hg2 with h1 | h1
  · exact word_at hW (good_of_word h1) hb
  · unfold qnest at h1
    split at h1
    · exact va_Nw.use rfl (va_Nw.warmF hW (va_Nw.of rfl hb))
    · exact va_Nw.use rfl (va_Nw.warmM hW (va_Nw.of rfl hb))
    · cases h1
def qws (y : qY) : List Cond := .code y.1 y.2.1 y.2.2.1 y.2.2.2 :: qTBL
/-! what is known of classes and array classes -/
def qT (cA : Nat → ClassId) : List (ClassId × FieldType) := [(cA 0, .int), (cA 1, .boolean), (cA 2, .object "LowAir$Zone"), (cA 3, .object "LowAir$Craft"), (cA 4, .object "LowAir$Flight"), (cA 5, .array .int)]
def qAA (cA : Nat → ClassId) (U : State) : Prop := ∃ kA kC : Class, U.vm.classes[cA 5]? = some kA ∧ kA.kind = .array (cA 0) (.array .int) ∧ U.vm.classes[cA 0]? = some kC
def qK (D : va_G) (cA : Nat → ClassId) (U : State) : Prop := va_K D vwCl (qT cA) U ∧ qAA cA U
theorem qK.moved {D : va_G} {cA : Nat → ClassId} {u U : State} (hvm : u.vm.Alike U.vm) (h : qK D cA u) : qK D cA U := by
  refine ⟨h.1.moved hvm, ?_⟩
  obtain ⟨kA, kC, h1, h2, h3⟩ := h.2
  obtain ⟨k', hk', he⟩ := hvm.2.2 _ _ h1
  obtain ⟨k2, hk2, -⟩ := hvm.2.2 _ _ h3
  exact ⟨k', k2, hk', by rw [he]; exact h2, hk2⟩
def qR (D : va_G) (cA : Nat → ClassId) (b B : Nat) (M : qM) (n : Nat) (H : Heap) : Prop := va_P D vwCl (qw (qad b B) cA M n) H ∧ H.size = B + n
def qrm (k mc ms : Nat) : Room := { frames := k, cells := mc, slots := ms, locals := 40 * k }
def qPre (z : qZ) (D : va_G) (cA : Nat → ClassId) (b B : Nat) (M : qM) (n : Nat) (U : State) : Prop := (b < B ∧ B ≤ U.heap.size) ∧ qR D cA b B M n U.heap ∧ qK D cA U ∧ va_X b z.1 z.2 U U.heap
abbrev qQ : Type := Option Value → qM → Nat → Prop
def qPost (D : va_G) (cA : Nat → ClassId) (b B : Nat) (Q : qQ) : Array Value → State → Outcome → State → Prop := fun _ st oc t =>
  (∃ (v : Option Value) (M' : qM) (n' : Nat), oc = .returned (v.map (qv (qad b B))) ∧ Q v M' n' ∧ qR D cA b B M' n' t.heap) ∧ va_F (fun q => B ≤ q) st t
/-- the contract of a method at these arguments, over this memory -/
def CT (z : qZ) (k : Nat) (y : qY) (as : List Value) (M : qM) (n mc ms : Nat) (Q : qQ) : Prop :=
  ∀ (l : Launch) (D : va_G) (cA : Nat → ClassId) (b B : Nat), Met l y.1 (qws y) (qrm k mc ms) (va_Pc (as.map (qv (qad b B))) (qPre z D cA b B M n)) (qPost D cA b B Q) mc ms (fun q => B ≤ q)
def qret (y : qY) (v : Option Value) (pc : Nat) : Prop := match v with
  | none => y.2.2.2 = none ∧ decode y.2.1 pc = .ok (.return_, 1)
  | some (.int x) => (∃ ty, y.2.2.2 = some ty ∧ narrow ty (.int x) = .int x) ∧ decode y.2.1 pc = .ok (.ireturn, 1)
  | some (.long _) => y.2.2.2 = some .long ∧ decode y.2.1 pc = .ok (.lreturn, 1)
  | some (.double _) => y.2.2.2 = some .double ∧ decode y.2.1 pc = .ok (.dreturn, 1)
  | _ => False
def qC (z : qZ) (k : Nat) (y : qY) (Q : qQ) (p : Program) (l : Launch) (e : Env) (R : Room) (s : State) (m : MethodId) (args : Array Value) (below : List Frame) (meth : Method) (c : Code) (D : va_G) (cA : Nat → ClassId) (b B tc ts : Nat) (Qf : State → Prop) : Prop :=
  p.tables.exec = Jvm.exec ∧ c.code = y.2.1 ∧ c.maxLocals = y.2.2.1 ∧ s.vm.findClass y.1.cls = some m.cls ∧ meth.name = y.1.name ∧ (∀ w ∈ qTBL, w.before args s = true) ∧ qK D cA s ∧ va_X b z.1 z.2 s s.heap ∧ (b < B ∧ B ≤ s.heap.size) ∧
  (k ≤ R.frames ∧ 40 * k ≤ R.locals ∧ tc ≤ R.cells ∧ ts ≤ R.slots) ∧
  (∀ (v : Option Value) (M' : qM) (n' : Nat) (H' : Heap) (locs' : List Loc) (ls' : Array Slot) (pc' : Nat), Q v M' n' → qR D cA b B M' n' H' → va_S (fun q => B ≤ q) s.heap H' locs' → qret y v pc' → W p l e R s m args below meth c H' locs' tc ts Qf (F0 m pc' ls' ((v.map (qv (qad b B))).toList)))
def qll (f : Nat → Nat) : Nat → List Value → List (Nat × Value)
  | _, [] => []
  | i, .null :: t => qll f (i + 1) t
  | i, v :: t => (i, qv f v) :: qll f (i + 1) t
/-- from this point, with these locals, this stack, this memory of n cells, with room for bc cells and bs slots more, the method comes to its end with Q -/
def EV (z : qZ) (k : Nat) (y : qY) (pc : Nat) (Lc st : List Value) (M : qM) (n bc bs : Nat) (Q : qQ) : Prop :=
  ∀ (p : Program) (l : Launch) (e : Env) (R : Room) (s : State) (m : MethodId) (args : Array Value) (below : List Frame) (meth : Method) (c : Code) (D : va_G) (cA : Nat → ClassId) (b B tc ts : Nat) (Qf : State → Prop), qC z k y Q p l e R s m args below meth c D cA b B tc ts Qf →
  ∀ (H : Heap) (locs : List Loc) (cells slots : Nat) (ls : Array Slot), cells + bc = tc → slots + bs = ts → qR D cA b B M n H → va_S (fun q => B ≤ q) s.heap H locs → lv_has ls y.2.2.1 (qll (qad b B) 0 Lc) →
  W p l e R s m args below meth c H locs cells slots Qf (F0 m pc ls (st.map (qv (qad b B))))
/-! ===== locals ===== -/
theorem qll_cons (f : Nat → Nat) (i : Nat) (v : Value) (t : List Value) (h : v ≠ .null) : qll f i (v :: t) = (i, qv f v) :: qll f (i + 1) t := by
  cases v <;> first | rfl | exact absurd rfl h
theorem qll_mem (f : Nat → Nat) : ∀ (L : List Value) (j i : Nat) (v : Value), L[i]? = some v → v ≠ .null → (j + i, qv f v) ∈ qll f j L
  | [], j, i, v, h, _ => by simp at h
  | w :: t, j, 0, v, h, hn => by
    simp only [List.getElem?_cons_zero, Option.some.injEq] at h
    subst h
    rw [qll_cons f j w t hn]
    exact List.mem_cons_self
  | w :: t, j, i + 1, v, h, hn => by
    simp only [List.getElem?_cons_succ] at h
    have h1 := qll_mem f t (j + 1) i v h hn
    rw [show j + 1 + i = j + (i + 1) by omega] at h1
    by_cases hw : w = .null
    · subst hw; exact h1
    · rw [qll_cons f j w t hw]
      exact List.mem_cons_of_mem _ h1
theorem qll_of (f : Nat → Nat) : ∀ (L : List Value) (j : Nat) (q : Nat × Value), q ∈ qll f j L → ∃ (i : Nat) (v : Value), q = (j + i, qv f v) ∧ L[i]? = some v ∧ v ≠ .null
  | [], j, q, h => by simp [qll] at h
  | w :: t, j, q, h => by
    have rec' : q ∈ qll f (j + 1) t → ∃ (i : Nat) (v : Value), q = (j + i, qv f v) ∧ (w :: t)[i]? = some v ∧ v ≠ .null := fun h1 => by
      obtain ⟨i, v, e1, e2, e3⟩ := qll_of f t (j + 1) q h1
      exact ⟨i + 1, v, by rw [e1, show j + 1 + i = j + (i + 1) by omega], by simpa using e2, e3⟩
    by_cases hw : w = .null
    · subst hw; exact rec' h
    · rw [qll_cons f j w t hw] at h
      rcases List.mem_cons.mp h with h1 | h1
      · exact ⟨0, w, h1, rfl, hw⟩
      · exact rec' h1
theorem qls_at {f : Nat → Nat} {ls : Array Slot} {nL : Nat} {L : List Value} (h : lv_has ls nL (qll f 0 L)) {i : Nat} {v : Value} (hL : L[i]? = some v) (hn : v ≠ .null) : ls[i]? = some (.val (qv f v)) := by
  have h1 := qll_mem f L 0 i v hL hn
  rw [Nat.zero_add] at h1
  exact h.2.2 _ h1
/-- the place before i holds nothing of two words -/
def qok1 (L : List Value) (i : Nat) : Bool := match i with
  | 0 => true
  | j + 1 => match L[j]? with
    | some v => v.category != 2
    | none => true
theorem qcat (f : Nat → Nat) (v : Value) : (qv f v).category = v.category := by cases v <;> rfl
theorem qll_put {f : Nat → Nat} {ls : Array Slot} {nL i : Nat} {L L' : List Value} {w : Value} {lv : List (Nat × Value)} (ho : qok1 L i = true)
    (hL' : ∀ (j : Nat) (v : Value), L'[j]? = some v → v ≠ .null → (j = i ∧ v = w) ∨ (j ≠ i ∧ L[j]? = some v))
    (hlv : ∀ q : Nat × Value, q = (i, qv f w) ∨ (q ∈ qll f 0 L ∧ q.1 ≠ i ∧ ¬ (q.1 + 1 = i ∧ q.2.category = 2)) → q ∈ lv)
    (h : lv_has ls nL lv) : lv_has ls nL (qll f 0 L') := by
  refine ⟨h.1, h.2.1, fun q hq => h.2.2 q (hlv q ?_)⟩
  obtain ⟨j, v, rfl, h1, h2⟩ := qll_of f L' 0 q hq
  rcases hL' j v h1 h2 with ⟨e1, e2⟩ | ⟨e1, e2⟩
  · left; rw [Nat.zero_add, e1, e2]
  · right
    refine ⟨qll_mem f L 0 j v e2 h2, by rw [Nat.zero_add]; exact e1, fun hx => ?_⟩
    rw [Nat.zero_add] at hx
    obtain ⟨h3, h4⟩ := hx
    subst h3
    simp only [qok1, e2] at ho
    rw [qcat] at h4
    simp [h4] at ho
theorem qset_of {L : List Value} {i : Nat} {w : Value} (hi : i < L.length) (j : Nat) (v : Value) (h : (L.set i w)[j]? = some v) (_ : v ≠ .null) : (j = i ∧ v = w) ∨ (j ≠ i ∧ L[j]? = some v) := by
  by_cases hj : j = i
  · subst hj
    rw [List.getElem?_set_self hi] at h
    exact Or.inl ⟨rfl, (Option.some.inj h).symm⟩
  · rw [List.getElem?_set_ne (Ne.symm hj)] at h
    exact Or.inr ⟨hj, h⟩
theorem qset2_of {L : List Value} {i : Nat} {w : Value} (hi : i < L.length) (j : Nat) (v : Value) (h : ((L.set i w).set (i + 1) .null)[j]? = some v) (hv : v ≠ .null) : (j = i ∧ v = w) ∨ (j ≠ i ∧ j ≠ i + 1 ∧ L[j]? = some v) := by
  by_cases hj : j = i + 1
  · subst hj
    by_cases hl : i + 1 < L.length
    · rw [List.getElem?_set_self (by rw [List.length_set]; exact hl)] at h
      exact absurd (Option.some.inj h).symm hv
    · rw [List.getElem?_eq_none (by rw [List.length_set, List.length_set]; omega)] at h
      cases h
  · rw [List.getElem?_set_ne (Ne.symm hj)] at h
    rcases qset_of hi j v h hv with h1 | h1
    · exact Or.inl h1
    · exact Or.inr ⟨h1.1, hj, h1.2⟩

theorem qll_put2 {f : Nat → Nat} {ls : Array Slot} {nL i : Nat} {L : List Value} {w : Value} {lv : List (Nat × Value)} (ho : qok1 L i = true) (hi : i < L.length)
    (hlv : ∀ q : Nat × Value, q = (i, qv f w) ∨ (q ∈ qll f 0 L ∧ q.1 ≠ i ∧ q.1 ≠ i + 1 ∧ ¬ (q.1 + 1 = i ∧ q.2.category = 2)) → q ∈ lv)
    (h : lv_has ls nL lv) : lv_has ls nL (qll f 0 ((L.set i w).set (i + 1) .null)) := by
  refine ⟨h.1, h.2.1, fun q hq => h.2.2 q (hlv q ?_)⟩
  obtain ⟨j, v, rfl, h1, h2⟩ := qll_of f _ 0 q hq
  rcases qset2_of hi j v h1 h2 with ⟨e1, e2⟩ | ⟨e1, e3, e2⟩
  · left; rw [Nat.zero_add, e1, e2]
  · right
    refine ⟨qll_mem f L 0 j v e2 h2, by rw [Nat.zero_add]; exact e1, by rw [Nat.zero_add]; exact e3, fun hx => ?_⟩
    rw [Nat.zero_add] at hx
    obtain ⟨h3, h4⟩ := hx
    subst h3
    simp only [qok1, e2] at ho
    rw [qcat] at h4
    simp [h4] at ho
section QRows
variable {z : qZ} {k : Nat} {y : qY} {pc : Nat} {Lc st : List Value} {M : qM} {n bc bs : Nat} {Q : qQ}
theorem EV_iadd {x x0 : Int32} (hd : decode y.2.1 pc = .ok (.iadd, 1))  (kk : EV z k y (pc + 1) Lc (.int (x + x0) :: st) M n bc bs Q) : EV z k y pc Lc (.int x0 :: .int x :: st) M n bc bs Q := by
  intro p l e R s m args below meth c D cA b B tc ts Qf C H locs cells slots ls h1 h2 hR hS hl
  exact lv_iadd C.1 C.2.1 hd (kk p l e R s m args below meth c D cA b B tc ts Qf C H locs cells slots ls h1 h2 hR hS hl)
theorem EV_isub {x x0 : Int32} (hd : decode y.2.1 pc = .ok (.isub, 1))  (kk : EV z k y (pc + 1) Lc (.int (x - x0) :: st) M n bc bs Q) : EV z k y pc Lc (.int x0 :: .int x :: st) M n bc bs Q := by
  intro p l e R s m args below meth c D cA b B tc ts Qf C H locs cells slots ls h1 h2 hR hS hl
  exact lv_isub C.1 C.2.1 hd (kk p l e R s m args below meth c D cA b B tc ts Qf C H locs cells slots ls h1 h2 hR hS hl)
theorem EV_imul {x x0 : Int32} (hd : decode y.2.1 pc = .ok (.imul, 1))  (kk : EV z k y (pc + 1) Lc (.int (x * x0) :: st) M n bc bs Q) : EV z k y pc Lc (.int x0 :: .int x :: st) M n bc bs Q := by
  intro p l e R s m args below meth c D cA b B tc ts Qf C H locs cells slots ls h1 h2 hR hS hl
  exact lv_imul C.1 C.2.1 hd (kk p l e R s m args below meth c D cA b B tc ts Qf C H locs cells slots ls h1 h2 hR hS hl)
theorem EV_idiv {x x0 : Int32} (hd : decode y.2.1 pc = .ok (.idiv, 1)) (hne : ¬ x0 = 0) (kk : EV z k y (pc + 1) Lc (.int (x / x0) :: st) M n bc bs Q) : EV z k y pc Lc (.int x0 :: .int x :: st) M n bc bs Q := by
  intro p l e R s m args below meth c D cA b B tc ts Qf C H locs cells slots ls h1 h2 hR hS hl
  exact lv_idiv C.1 C.2.1 hd hne (kk p l e R s m args below meth c D cA b B tc ts Qf C H locs cells slots ls h1 h2 hR hS hl)
theorem EV_irem {x x0 : Int32} (hd : decode y.2.1 pc = .ok (.irem, 1)) (hne : ¬ x0 = 0) (kk : EV z k y (pc + 1) Lc (.int (x - x / x0 * x0) :: st) M n bc bs Q) : EV z k y pc Lc (.int x0 :: .int x :: st) M n bc bs Q := by
  intro p l e R s m args below meth c D cA b B tc ts Qf C H locs cells slots ls h1 h2 hR hS hl
  exact lv_irem C.1 C.2.1 hd hne (kk p l e R s m args below meth c D cA b B tc ts Qf C H locs cells slots ls h1 h2 hR hS hl)
theorem EV_iand {x x0 : Int32} (hd : decode y.2.1 pc = .ok (.iand, 1))  (kk : EV z k y (pc + 1) Lc (.int (x &&& x0) :: st) M n bc bs Q) : EV z k y pc Lc (.int x0 :: .int x :: st) M n bc bs Q := by
  intro p l e R s m args below meth c D cA b B tc ts Qf C H locs cells slots ls h1 h2 hR hS hl
  exact lv_iand C.1 C.2.1 hd (kk p l e R s m args below meth c D cA b B tc ts Qf C H locs cells slots ls h1 h2 hR hS hl)
theorem EV_ishr {x x0 : Int32} (hd : decode y.2.1 pc = .ok (.ishr, 1))  (kk : EV z k y (pc + 1) Lc (.int (x >>> (x0 &&& 31)) :: st) M n bc bs Q) : EV z k y pc Lc (.int x0 :: .int x :: st) M n bc bs Q := by
  intro p l e R s m args below meth c D cA b B tc ts Qf C H locs cells slots ls h1 h2 hR hS hl
  exact lv_ishr C.1 C.2.1 hd (kk p l e R s m args below meth c D cA b B tc ts Qf C H locs cells slots ls h1 h2 hR hS hl)
theorem EV_ladd {x x0 : Int64} (hd : decode y.2.1 pc = .ok (.ladd, 1))  (kk : EV z k y (pc + 1) Lc (.long (x + x0) :: st) M n bc bs Q) : EV z k y pc Lc (.long x0 :: .long x :: st) M n bc bs Q := by
  intro p l e R s m args below meth c D cA b B tc ts Qf C H locs cells slots ls h1 h2 hR hS hl
  exact lv_ladd C.1 C.2.1 hd (kk p l e R s m args below meth c D cA b B tc ts Qf C H locs cells slots ls h1 h2 hR hS hl)
theorem EV_lmul {x x0 : Int64} (hd : decode y.2.1 pc = .ok (.lmul, 1))  (kk : EV z k y (pc + 1) Lc (.long (x * x0) :: st) M n bc bs Q) : EV z k y pc Lc (.long x0 :: .long x :: st) M n bc bs Q := by
  intro p l e R s m args below meth c D cA b B tc ts Qf C H locs cells slots ls h1 h2 hR hS hl
  exact lv_lmul C.1 C.2.1 hd (kk p l e R s m args below meth c D cA b B tc ts Qf C H locs cells slots ls h1 h2 hR hS hl)
theorem EV_dadd {x x0 : UInt64} (hd : decode y.2.1 pc = .ok (.dadd, 1)) (hne : vf_n64 (FP.dadd x x0)) (kk : EV z k y (pc + 1) Lc (.double (FP.dadd x x0) :: st) M n bc bs Q) : EV z k y pc Lc (.double x0 :: .double x :: st) M n bc bs Q := by
  intro p l e R s m args below meth c D cA b B tc ts Qf C H locs cells slots ls h1 h2 hR hS hl
  exact lv_dadd C.1 C.2.1 hd hne (kk p l e R s m args below meth c D cA b B tc ts Qf C H locs cells slots ls h1 h2 hR hS hl)
theorem EV_ddiv {x x0 : UInt64} (hd : decode y.2.1 pc = .ok (.ddiv, 1)) (hne : vf_n64 (FP.ddiv x x0)) (kk : EV z k y (pc + 1) Lc (.double (FP.ddiv x x0) :: st) M n bc bs Q) : EV z k y pc Lc (.double x0 :: .double x :: st) M n bc bs Q := by
  intro p l e R s m args below meth c D cA b B tc ts Qf C H locs cells slots ls h1 h2 hR hS hl
  exact lv_ddiv C.1 C.2.1 hd hne (kk p l e R s m args below meth c D cA b B tc ts Qf C H locs cells slots ls h1 h2 hR hS hl)
theorem EV_ineg {x : Int32} (hd : decode y.2.1 pc = .ok (.ineg, 1))  (kk : EV z k y (pc + 1) Lc (.int (-x) :: st) M n bc bs Q) : EV z k y pc Lc (.int x :: st) M n bc bs Q := by
  intro p l e R s m args below meth c D cA b B tc ts Qf C H locs cells slots ls h1 h2 hR hS hl
  exact lv_ineg C.1 C.2.1 hd (kk p l e R s m args below meth c D cA b B tc ts Qf C H locs cells slots ls h1 h2 hR hS hl)
theorem EV_i2l {x : Int32} (hd : decode y.2.1 pc = .ok (.i2l, 1))  (kk : EV z k y (pc + 1) Lc (.long x.toInt64 :: st) M n bc bs Q) : EV z k y pc Lc (.int x :: st) M n bc bs Q := by
  intro p l e R s m args below meth c D cA b B tc ts Qf C H locs cells slots ls h1 h2 hR hS hl
  exact lv_i2l C.1 C.2.1 hd rfl (kk p l e R s m args below meth c D cA b B tc ts Qf C H locs cells slots ls h1 h2 hR hS hl)
theorem EV_i2d {x : Int32} (hd : decode y.2.1 pc = .ok (.i2d, 1))  (kk : EV z k y (pc + 1) Lc (.double (FP.i2d x) :: st) M n bc bs Q) : EV z k y pc Lc (.int x :: st) M n bc bs Q := by
  intro p l e R s m args below meth c D cA b B tc ts Qf C H locs cells slots ls h1 h2 hR hS hl
  exact lv_i2d C.1 C.2.1 hd (kk p l e R s m args below meth c D cA b B tc ts Qf C H locs cells slots ls h1 h2 hR hS hl)
theorem EV_dcmp {x x0 : UInt64} {op : CmpOp} (hd : decode y.2.1 pc = .ok (.dcmp op, 1))  (kk : EV z k y (pc + 1) Lc (.int (Op.cmpValue (FP.dcmp x x0) op) :: st) M n bc bs Q) : EV z k y pc Lc (.double x0 :: .double x :: st) M n bc bs Q := by
  intro p l e R s m args below meth c D cA b B tc ts Qf C H locs cells slots ls h1 h2 hR hS hl
  exact lv_dcmp C.1 C.2.1 hd (kk p l e R s m args below meth c D cA b B tc ts Qf C H locs cells slots ls h1 h2 hR hS hl)
theorem EV_lcmp {x x0 : Int64} (hd : decode y.2.1 pc = .ok (.lcmp, 1))  (kk : EV z k y (pc + 1) Lc (.int (lg_cmp x x0) :: st) M n bc bs Q) : EV z k y pc Lc (.long x0 :: .long x :: st) M n bc bs Q := by
  intro p l e R s m args below meth c D cA b B tc ts Qf C H locs cells slots ls h1 h2 hR hS hl
  exact W.lcmp C.1 C.2.1 hd (kk p l e R s m args below meth c D cA b B tc ts Qf C H locs cells slots ls h1 h2 hR hS hl)
theorem EV_iconst {i : Int} {v : Int32} (hd : decode y.2.1 pc = .ok (.iconst i, 1)) (hv : Int32.ofInt i = v) (kk : EV z k y (pc + 1) Lc (.int v :: st) M n bc bs Q) : EV z k y pc Lc st M n bc bs Q := by
  intro p l e R s m args below meth c D cA b B tc ts Qf C H locs cells slots ls h1 h2 hR hS hl
  exact lv_iconst C.1 C.2.1 hd hv (kk p l e R s m args below meth c D cA b B tc ts Qf C H locs cells slots ls h1 h2 hR hS hl)
theorem EV_bipush {i : Int} {v : Int32} (hd : decode y.2.1 pc = .ok (.bipush i, 2)) (hv : (Int8.ofInt i).toInt32 = v) (kk : EV z k y (pc + 2) Lc (.int v :: st) M n bc bs Q) : EV z k y pc Lc st M n bc bs Q := by
  intro p l e R s m args below meth c D cA b B tc ts Qf C H locs cells slots ls h1 h2 hR hS hl
  exact lv_bipush C.1 C.2.1 hd hv (kk p l e R s m args below meth c D cA b B tc ts Qf C H locs cells slots ls h1 h2 hR hS hl)
theorem EV_sipush {i : Int} {v : Int32} (hd : decode y.2.1 pc = .ok (.sipush i, 3)) (hv : (Int16.ofInt i).toInt32 = v) (kk : EV z k y (pc + 3) Lc (.int v :: st) M n bc bs Q) : EV z k y pc Lc st M n bc bs Q := by
  intro p l e R s m args below meth c D cA b B tc ts Qf C H locs cells slots ls h1 h2 hR hS hl
  exact lv_sipush C.1 C.2.1 hd hv (kk p l e R s m args below meth c D cA b B tc ts Qf C H locs cells slots ls h1 h2 hR hS hl)
theorem EV_dconst0  (hd : decode y.2.1 pc = .ok (.dconst 0, 1))  (kk : EV z k y (pc + 1) Lc (.double FP.dconst0 :: st) M n bc bs Q) : EV z k y pc Lc st M n bc bs Q := by
  intro p l e R s m args below meth c D cA b B tc ts Qf C H locs cells slots ls h1 h2 hR hS hl
  exact lv_dconst0 C.1 C.2.1 hd (kk p l e R s m args below meth c D cA b B tc ts Qf C H locs cells slots ls h1 h2 hR hS hl)
theorem EV_dconst1  (hd : decode y.2.1 pc = .ok (.dconst 1, 1))  (kk : EV z k y (pc + 1) Lc (.double FP.dconst1 :: st) M n bc bs Q) : EV z k y pc Lc st M n bc bs Q := by
  intro p l e R s m args below meth c D cA b B tc ts Qf C H locs cells slots ls h1 h2 hR hS hl
  exact lv_dconst1 C.1 C.2.1 hd (kk p l e R s m args below meth c D cA b B tc ts Qf C H locs cells slots ls h1 h2 hR hS hl)
theorem EV_ldc {i : Nat} {v : Int32} (hd : decode y.2.1 pc = .ok (.ldc i, 2)) (hw : Cond.constant y.1.cls i v ∈ qTBL) (kk : EV z k y (pc + 2) Lc (.int v :: st) M n bc bs Q) : EV z k y pc Lc st M n bc bs Q := by
  intro p l e R s m args below meth c D cA b B tc ts Qf C H locs cells slots ls h1 h2 hR hS hl
  exact lv_ldc C.1 C.2.1 C.2.2.2.1 (C.2.2.2.2.2.1 _ hw) hd (kk p l e R s m args below meth c D cA b B tc ts Qf C H locs cells slots ls h1 h2 hR hS hl)
theorem EV_ldcw {i : Nat} {v : Int32} (hd : decode y.2.1 pc = .ok (.ldc_w i, 3)) (hw : Cond.constant y.1.cls i v ∈ qTBL) (kk : EV z k y (pc + 3) Lc (.int v :: st) M n bc bs Q) : EV z k y pc Lc st M n bc bs Q := by
  intro p l e R s m args below meth c D cA b B tc ts Qf C H locs cells slots ls h1 h2 hR hS hl
  exact lv_ldcw C.1 C.2.1 C.2.2.2.1 (C.2.2.2.2.2.1 _ hw) hd (kk p l e R s m args below meth c D cA b B tc ts Qf C H locs cells slots ls h1 h2 hR hS hl)
theorem EV_ldc2 {i : Nat} {v : Int64} (hd : decode y.2.1 pc = .ok (.ldc2_w i, 3)) (hw : Cond.constantLong y.1.cls i v ∈ qTBL) (kk : EV z k y (pc + 3) Lc (.long v :: st) M n bc bs Q) : EV z k y pc Lc st M n bc bs Q := by
  intro p l e R s m args below meth c D cA b B tc ts Qf C H locs cells slots ls h1 h2 hR hS hl
  exact lv_ldc2 C.1 C.2.1 C.2.2.2.1 (C.2.2.2.2.2.1 _ hw) hd (kk p l e R s m args below meth c D cA b B tc ts Qf C H locs cells slots ls h1 h2 hR hS hl)
theorem EV_iload_n {i : Fin 4} {x : Int32} (hd : decode y.2.1 pc = .ok (.iload_n i, 1)) (hL : Lc[(i : Nat)]? = some (.int x)) (kk : EV z k y (pc + 1) Lc (.int x :: st) M n bc bs Q) : EV z k y pc Lc st M n bc bs Q := by
  intro p l e R s m args below meth c D cA b B tc ts Qf C H locs cells slots ls h1 h2 hR hS hl
  exact lv_iload_n C.1 C.2.1 hd rfl (qls_at hl hL (by intro h; cases h)) (kk p l e R s m args below meth c D cA b B tc ts Qf C H locs cells slots ls h1 h2 hR hS hl)
theorem EV_iload {i : Nat} {x : Int32} (hd : decode y.2.1 pc = .ok (.iload i, 2)) (hL : Lc[i]? = some (.int x)) (kk : EV z k y (pc + 2) Lc (.int x :: st) M n bc bs Q) : EV z k y pc Lc st M n bc bs Q := by
  intro p l e R s m args below meth c D cA b B tc ts Qf C H locs cells slots ls h1 h2 hR hS hl
  exact lv_iload C.1 C.2.1 hd (qls_at hl hL (by intro h; cases h)) (kk p l e R s m args below meth c D cA b B tc ts Qf C H locs cells slots ls h1 h2 hR hS hl)
theorem EV_lload_n {i : Fin 4} {x : Int64} (hd : decode y.2.1 pc = .ok (.lload_n i, 1)) (hL : Lc[(i : Nat)]? = some (.long x)) (kk : EV z k y (pc + 1) Lc (.long x :: st) M n bc bs Q) : EV z k y pc Lc st M n bc bs Q := by
  intro p l e R s m args below meth c D cA b B tc ts Qf C H locs cells slots ls h1 h2 hR hS hl
  exact lv_lload_n C.1 C.2.1 hd rfl (qls_at hl hL (by intro h; cases h)) (kk p l e R s m args below meth c D cA b B tc ts Qf C H locs cells slots ls h1 h2 hR hS hl)
theorem EV_lload {i : Nat} {x : Int64} (hd : decode y.2.1 pc = .ok (.lload i, 2)) (hL : Lc[i]? = some (.long x)) (kk : EV z k y (pc + 2) Lc (.long x :: st) M n bc bs Q) : EV z k y pc Lc st M n bc bs Q := by
  intro p l e R s m args below meth c D cA b B tc ts Qf C H locs cells slots ls h1 h2 hR hS hl
  exact lv_lload C.1 C.2.1 hd (qls_at hl hL (by intro h; cases h)) (kk p l e R s m args below meth c D cA b B tc ts Qf C H locs cells slots ls h1 h2 hR hS hl)
theorem EV_aload_n {i : Fin 4} {x : Nat} (hd : decode y.2.1 pc = .ok (.aload_n i, 1)) (hL : Lc[(i : Nat)]? = some (.ref x)) (kk : EV z k y (pc + 1) Lc (.ref x :: st) M n bc bs Q) : EV z k y pc Lc st M n bc bs Q := by
  intro p l e R s m args below meth c D cA b B tc ts Qf C H locs cells slots ls h1 h2 hR hS hl
  exact lv_aload_n C.1 C.2.1 hd rfl (qls_at hl hL (by intro h; cases h)) (kk p l e R s m args below meth c D cA b B tc ts Qf C H locs cells slots ls h1 h2 hR hS hl)
theorem EV_aload {i : Nat} {x : Nat} (hd : decode y.2.1 pc = .ok (.aload i, 2)) (hL : Lc[i]? = some (.ref x)) (kk : EV z k y (pc + 2) Lc (.ref x :: st) M n bc bs Q) : EV z k y pc Lc st M n bc bs Q := by
  intro p l e R s m args below meth c D cA b B tc ts Qf C H locs cells slots ls h1 h2 hR hS hl
  exact lv_aload C.1 C.2.1 hd (qls_at hl hL (by intro h; cases h)) (kk p l e R s m args below meth c D cA b B tc ts Qf C H locs cells slots ls h1 h2 hR hS hl)
theorem EV_dload_n {i : Fin 4} {x : UInt64} (hd : decode y.2.1 pc = .ok (.dload_n i, 1)) (hL : Lc[(i : Nat)]? = some (.double x)) (kk : EV z k y (pc + 1) Lc (.double x :: st) M n bc bs Q) : EV z k y pc Lc st M n bc bs Q := by
  intro p l e R s m args below meth c D cA b B tc ts Qf C H locs cells slots ls h1 h2 hR hS hl
  exact lv_dload_n C.1 C.2.1 hd rfl (qls_at hl hL (by intro h; cases h)) (kk p l e R s m args below meth c D cA b B tc ts Qf C H locs cells slots ls h1 h2 hR hS hl)
theorem EV_dload {i : Nat} {x : UInt64} (hd : decode y.2.1 pc = .ok (.dload i, 2)) (hL : Lc[i]? = some (.double x)) (kk : EV z k y (pc + 2) Lc (.double x :: st) M n bc bs Q) : EV z k y pc Lc st M n bc bs Q := by
  intro p l e R s m args below meth c D cA b B tc ts Qf C H locs cells slots ls h1 h2 hR hS hl
  exact lv_dload C.1 C.2.1 hd (qls_at hl hL (by intro h; cases h)) (kk p l e R s m args below meth c D cA b B tc ts Qf C H locs cells slots ls h1 h2 hR hS hl)
theorem EV_dup {v : Value} (hd : decode y.2.1 pc = .ok (.dup, 1)) (hv : v.category = 1) (kk : EV z k y (pc + 1) Lc (v :: v :: st) M n bc bs Q) : EV z k y pc Lc (v :: st) M n bc bs Q := by
  intro p l e R s m args below meth c D cA b B tc ts Qf C H locs cells slots ls h1 h2 hR hS hl
  exact lv_dup C.1 C.2.1 hd ((qcat _ v).trans hv) (kk p l e R s m args below meth c D cA b B tc ts Qf C H locs cells slots ls h1 h2 hR hS hl)
theorem EV_pop {v : Value} (hd : decode y.2.1 pc = .ok (.pop, 1)) (hv : v.category = 1) (kk : EV z k y (pc + 1) Lc st M n bc bs Q) : EV z k y pc Lc (v :: st) M n bc bs Q := by
  intro p l e R s m args below meth c D cA b B tc ts Qf C H locs cells slots ls h1 h2 hR hS hl
  exact lv_pop C.1 C.2.1 hd ((qcat _ v).trans hv) (kk p l e R s m args below meth c D cA b B tc ts Qf C H locs cells slots ls h1 h2 hR hS hl)
theorem EV_dup_x1 {v v0 : Value} (hd : decode y.2.1 pc = .ok (.dup_x1, 1)) (hv : v.category = 1) (hv0 : v0.category = 1) (kk : EV z k y (pc + 1) Lc (v :: v0 :: v :: st) M n bc bs Q) : EV z k y pc Lc (v :: v0 :: st) M n bc bs Q := by
  intro p l e R s m args below meth c D cA b B tc ts Qf C H locs cells slots ls h1 h2 hR hS hl
  exact lv_dup_x1 C.1 C.2.1 hd ((qcat _ v).trans hv) ((qcat _ v0).trans hv0) (kk p l e R s m args below meth c D cA b B tc ts Qf C H locs cells slots ls h1 h2 hR hS hl)
theorem EV_dup2 {v v0 : Value} (hd : decode y.2.1 pc = .ok (.dup2, 1)) (hv : v.category = 1) (hv0 : v0.category = 1) (kk : EV z k y (pc + 1) Lc (v :: v0 :: v :: v0 :: st) M n bc bs Q) : EV z k y pc Lc (v :: v0 :: st) M n bc bs Q := by
  intro p l e R s m args below meth c D cA b B tc ts Qf C H locs cells slots ls h1 h2 hR hS hl
  exact lv_dup2_11 C.1 C.2.1 hd ((qcat _ v).trans hv) ((qcat _ v0).trans hv0) (kk p l e R s m args below meth c D cA b B tc ts Qf C H locs cells slots ls h1 h2 hR hS hl)
theorem EV_istore_n {i : Fin 4} {x : Int32} (hd : decode y.2.1 pc = .ok (.istore_n i, 1)) (hi : (i : Nat) < Lc.length) (hn : (i : Nat) < y.2.2.1) (ho : qok1 Lc (i : Nat) = true) (kk : EV z k y (pc + 1) (Lc.set (i : Nat) (.int x)) st M n bc bs Q) : EV z k y pc Lc (.int x :: st) M n bc bs Q := by
  intro p l e R s m args below meth c D cA b B tc ts Qf C H locs cells slots ls h1 h2 hR hS hl
  refine lv_istore_n C.1 C.2.1 hd rfl hl hn rfl (fun ls9 hl9 => ?_)
  exact kk p l e R s m args below meth c D cA b B tc ts Qf C H locs cells slots ls9 h1 h2 hR hS (qll_put (w := .int x) ho (qset_of hi) (fun q hq => by
    rcases hq with rfl | ⟨g1, g2, g3⟩
    · exact List.mem_cons_self
    · refine List.mem_cons_of_mem _ (List.mem_filter.mpr ⟨g1, ?_⟩)
      simp only [Bool.and_eq_true, Bool.not_eq_true', beq_eq_false_iff_ne, Bool.and_eq_false_iff]
      refine ⟨g2, ?_⟩
      by_cases h7 : q.1 + 1 = (i : Nat)
      · right
        intro h8
        exact g3 ⟨h7, h8⟩
      · left
        exact h7) hl9)
theorem EV_istore {i : Nat} {x : Int32} (hd : decode y.2.1 pc = .ok (.istore i, 2)) (hi : i < Lc.length) (hn : i < y.2.2.1) (ho : qok1 Lc i = true) (kk : EV z k y (pc + 2) (Lc.set i (.int x)) st M n bc bs Q) : EV z k y pc Lc (.int x :: st) M n bc bs Q := by
  intro p l e R s m args below meth c D cA b B tc ts Qf C H locs cells slots ls h1 h2 hR hS hl
  refine lv_istore C.1 C.2.1 hd hl hn rfl (fun ls9 hl9 => ?_)
  exact kk p l e R s m args below meth c D cA b B tc ts Qf C H locs cells slots ls9 h1 h2 hR hS (qll_put (w := .int x) ho (qset_of hi) (fun q hq => by
    rcases hq with rfl | ⟨g1, g2, g3⟩
    · exact List.mem_cons_self
    · refine List.mem_cons_of_mem _ (List.mem_filter.mpr ⟨g1, ?_⟩)
      simp only [Bool.and_eq_true, Bool.not_eq_true', beq_eq_false_iff_ne, Bool.and_eq_false_iff]
      refine ⟨g2, ?_⟩
      by_cases h7 : q.1 + 1 = i
      · right
        intro h8
        exact g3 ⟨h7, h8⟩
      · left
        exact h7) hl9)
theorem EV_astore_n {i : Fin 4} {x : Nat} (hd : decode y.2.1 pc = .ok (.astore_n i, 1)) (hi : (i : Nat) < Lc.length) (hn : (i : Nat) < y.2.2.1) (ho : qok1 Lc (i : Nat) = true) (kk : EV z k y (pc + 1) (Lc.set (i : Nat) (.ref x)) st M n bc bs Q) : EV z k y pc Lc (.ref x :: st) M n bc bs Q := by
  intro p l e R s m args below meth c D cA b B tc ts Qf C H locs cells slots ls h1 h2 hR hS hl
  refine lv_astore_n C.1 C.2.1 hd rfl hl hn rfl (fun ls9 hl9 => ?_)
  exact kk p l e R s m args below meth c D cA b B tc ts Qf C H locs cells slots ls9 h1 h2 hR hS (qll_put (w := .ref x) ho (qset_of hi) (fun q hq => by
    rcases hq with rfl | ⟨g1, g2, g3⟩
    · exact List.mem_cons_self
    · refine List.mem_cons_of_mem _ (List.mem_filter.mpr ⟨g1, ?_⟩)
      simp only [Bool.and_eq_true, Bool.not_eq_true', beq_eq_false_iff_ne, Bool.and_eq_false_iff]
      refine ⟨g2, ?_⟩
      by_cases h7 : q.1 + 1 = (i : Nat)
      · right
        intro h8
        exact g3 ⟨h7, h8⟩
      · left
        exact h7) hl9)
theorem EV_astore {i : Nat} {x : Nat} (hd : decode y.2.1 pc = .ok (.astore i, 2)) (hi : i < Lc.length) (hn : i < y.2.2.1) (ho : qok1 Lc i = true) (kk : EV z k y (pc + 2) (Lc.set i (.ref x)) st M n bc bs Q) : EV z k y pc Lc (.ref x :: st) M n bc bs Q := by
  intro p l e R s m args below meth c D cA b B tc ts Qf C H locs cells slots ls h1 h2 hR hS hl
  refine lv_astore C.1 C.2.1 hd hl hn rfl (fun ls9 hl9 => ?_)
  exact kk p l e R s m args below meth c D cA b B tc ts Qf C H locs cells slots ls9 h1 h2 hR hS (qll_put (w := .ref x) ho (qset_of hi) (fun q hq => by
    rcases hq with rfl | ⟨g1, g2, g3⟩
    · exact List.mem_cons_self
    · refine List.mem_cons_of_mem _ (List.mem_filter.mpr ⟨g1, ?_⟩)
      simp only [Bool.and_eq_true, Bool.not_eq_true', beq_eq_false_iff_ne, Bool.and_eq_false_iff]
      refine ⟨g2, ?_⟩
      by_cases h7 : q.1 + 1 = i
      · right
        intro h8
        exact g3 ⟨h7, h8⟩
      · left
        exact h7) hl9)
theorem EV_lstore_n {i : Fin 4} {x : Int64} (hd : decode y.2.1 pc = .ok (.lstore_n i, 1)) (hi : (i : Nat) < Lc.length) (hn : (i : Nat) + 1 < y.2.2.1) (ho : qok1 Lc (i : Nat) = true) (kk : EV z k y (pc + 1) ((Lc.set (i : Nat) (.long x)).set ((i : Nat) + 1) .null) st M n bc bs Q) : EV z k y pc Lc (.long x :: st) M n bc bs Q := by
  intro p l e R s m args below meth c D cA b B tc ts Qf C H locs cells slots ls h1 h2 hR hS hl
  refine lv_lstore_n C.1 C.2.1 hd rfl hl hn rfl (fun ls9 hl9 => ?_)
  exact kk p l e R s m args below meth c D cA b B tc ts Qf C H locs cells slots ls9 h1 h2 hR hS (qll_put2 (w := .long x) ho hi (fun q hq => by
    rcases hq with rfl | ⟨g1, g2, g4, g3⟩
    · exact List.mem_cons_self
    · refine List.mem_cons_of_mem _ (List.mem_filter.mpr ⟨g1, ?_⟩)
      simp only [Bool.and_eq_true, Bool.not_eq_true', beq_eq_false_iff_ne, Bool.and_eq_false_iff]
      refine ⟨g2, g4, ?_⟩
      by_cases h7 : q.1 + 1 = (i : Nat)
      · right
        intro h8
        exact g3 ⟨h7, h8⟩
      · left
        exact h7) hl9)
theorem EV_lstore {i : Nat} {x : Int64} (hd : decode y.2.1 pc = .ok (.lstore i, 2)) (hi : i < Lc.length) (hn : i + 1 < y.2.2.1) (ho : qok1 Lc i = true) (kk : EV z k y (pc + 2) ((Lc.set i (.long x)).set (i + 1) .null) st M n bc bs Q) : EV z k y pc Lc (.long x :: st) M n bc bs Q := by
  intro p l e R s m args below meth c D cA b B tc ts Qf C H locs cells slots ls h1 h2 hR hS hl
  refine lv_lstore C.1 C.2.1 hd hl hn rfl (fun ls9 hl9 => ?_)
  exact kk p l e R s m args below meth c D cA b B tc ts Qf C H locs cells slots ls9 h1 h2 hR hS (qll_put2 (w := .long x) ho hi (fun q hq => by
    rcases hq with rfl | ⟨g1, g2, g4, g3⟩
    · exact List.mem_cons_self
    · refine List.mem_cons_of_mem _ (List.mem_filter.mpr ⟨g1, ?_⟩)
      simp only [Bool.and_eq_true, Bool.not_eq_true', beq_eq_false_iff_ne, Bool.and_eq_false_iff]
      refine ⟨g2, g4, ?_⟩
      by_cases h7 : q.1 + 1 = i
      · right
        intro h8
        exact g3 ⟨h7, h8⟩
      · left
        exact h7) hl9)
theorem EV_dstore_n {i : Fin 4} {x : UInt64} (hd : decode y.2.1 pc = .ok (.dstore_n i, 1)) (hi : (i : Nat) < Lc.length) (hn : (i : Nat) + 1 < y.2.2.1) (ho : qok1 Lc (i : Nat) = true) (kk : EV z k y (pc + 1) ((Lc.set (i : Nat) (.double x)).set ((i : Nat) + 1) .null) st M n bc bs Q) : EV z k y pc Lc (.double x :: st) M n bc bs Q := by
  intro p l e R s m args below meth c D cA b B tc ts Qf C H locs cells slots ls h1 h2 hR hS hl
  refine lv_dstore_n C.1 C.2.1 hd rfl hl hn rfl (fun ls9 hl9 => ?_)
  exact kk p l e R s m args below meth c D cA b B tc ts Qf C H locs cells slots ls9 h1 h2 hR hS (qll_put2 (w := .double x) ho hi (fun q hq => by
    rcases hq with rfl | ⟨g1, g2, g4, g3⟩
    · exact List.mem_cons_self
    · refine List.mem_cons_of_mem _ (List.mem_filter.mpr ⟨g1, ?_⟩)
      simp only [Bool.and_eq_true, Bool.not_eq_true', beq_eq_false_iff_ne, Bool.and_eq_false_iff]
      refine ⟨g2, g4, ?_⟩
      by_cases h7 : q.1 + 1 = (i : Nat)
      · right
        intro h8
        exact g3 ⟨h7, h8⟩
      · left
        exact h7) hl9)
theorem EV_dstore {i : Nat} {x : UInt64} (hd : decode y.2.1 pc = .ok (.dstore i, 2)) (hi : i < Lc.length) (hn : i + 1 < y.2.2.1) (ho : qok1 Lc i = true) (kk : EV z k y (pc + 2) ((Lc.set i (.double x)).set (i + 1) .null) st M n bc bs Q) : EV z k y pc Lc (.double x :: st) M n bc bs Q := by
  intro p l e R s m args below meth c D cA b B tc ts Qf C H locs cells slots ls h1 h2 hR hS hl
  refine lv_dstore C.1 C.2.1 hd hl hn rfl (fun ls9 hl9 => ?_)
  exact kk p l e R s m args below meth c D cA b B tc ts Qf C H locs cells slots ls9 h1 h2 hR hS (qll_put2 (w := .double x) ho hi (fun q hq => by
    rcases hq with rfl | ⟨g1, g2, g4, g3⟩
    · exact List.mem_cons_self
    · refine List.mem_cons_of_mem _ (List.mem_filter.mpr ⟨g1, ?_⟩)
      simp only [Bool.and_eq_true, Bool.not_eq_true', beq_eq_false_iff_ne, Bool.and_eq_false_iff]
      refine ⟨g2, g4, ?_⟩
      by_cases h7 : q.1 + 1 = i
      · right
        intro h8
        exact g3 ⟨h7, h8⟩
      · left
        exact h7) hl9)
theorem EV_iinc {i : Nat} {j : Int} {x : Int32} (hd : decode y.2.1 pc = .ok (.iinc i j, 3)) (hL : Lc[i]? = some (.int x)) (hn : i < y.2.2.1) (ho : qok1 Lc i = true) (kk : EV z k y (pc + 3) (Lc.set i (.int (x + Int32.ofInt j))) st M n bc bs Q) : EV z k y pc Lc st M n bc bs Q := by
  intro p l e R s m args below meth c D cA b B tc ts Qf C H locs cells slots ls h1 h2 hR hS hl
  have hi : i < Lc.length := (List.getElem?_eq_some_iff.mp hL).1
  have hm := qll_mem (qad b B) Lc 0 i (.int x) hL (by intro h; cases h)
  rw [Nat.zero_add] at hm
  obtain ⟨k9, hk9⟩ := List.getElem?_of_mem hm
  refine lv_iinc C.1 C.2.1 hd hl hk9 rfl hn rfl (fun ls9 hl9 => ?_)
  exact kk p l e R s m args below meth c D cA b B tc ts Qf C H locs cells slots ls9 h1 h2 hR hS (qll_put (w := .int (x + Int32.ofInt j)) ho (qset_of hi) (fun q hq => by
    rcases hq with rfl | ⟨g1, g2, g3⟩
    · exact List.mem_cons_self
    · refine List.mem_cons_of_mem _ (List.mem_filter.mpr ⟨g1, ?_⟩)
      simp only [Bool.and_eq_true, Bool.not_eq_true', beq_eq_false_iff_ne, Bool.and_eq_false_iff]
      refine ⟨g2, ?_⟩
      by_cases h7 : q.1 + 1 = i
      · right
        intro h8
        exact g3 ⟨h7, h8⟩
      · left
        exact h7) hl9)
theorem EV_goto {off : Int} (tgt : Nat) (hd : decode y.2.1 pc = .ok (.goto off, 3)) (ht : (pc : Int) + off = (tgt : Int)) (kk : EV z k y tgt Lc st M n bc bs Q) : EV z k y pc Lc st M n bc bs Q := by
  intro p l e R s m args below meth c D cA b B tc ts Qf C H locs cells slots ls h1 h2 hR hS hl
  exact lv_goto C.1 C.2.1 hd ht (kk p l e R s m args below meth c D cA b B tc ts Qf C H locs cells slots ls h1 h2 hR hS hl)
theorem EV_if_eq {x : Int32} {off : Int} (tgt : Nat) (hd : decode y.2.1 pc = .ok (.ifCond .eq off, 3)) (ht : (pc : Int) + off = (tgt : Int)) (kt : x = 0 → EV z k y tgt Lc st M n bc bs Q) (kf : ¬ x = 0 → EV z k y (pc + 3) Lc st M n bc bs Q) : EV z k y pc Lc (.int x :: st) M n bc bs Q := by
  intro p l e R s m args below meth c D cA b B tc ts Qf C H locs cells slots ls h1 h2 hR hS hl
  exact lv_if_eq C.1 C.2.1 hd ht (fun h9 => (kt h9 p l e R s m args below meth c D cA b B tc ts Qf C H locs cells slots ls h1 h2 hR hS hl)) (fun h9 => (kf h9 p l e R s m args below meth c D cA b B tc ts Qf C H locs cells slots ls h1 h2 hR hS hl))
theorem EV_icmp_eq {x x0 : Int32} {off : Int} (tgt : Nat) (hd : decode y.2.1 pc = .ok (.if_icmp .eq off, 3)) (ht : (pc : Int) + off = (tgt : Int)) (kt : x = x0 → EV z k y tgt Lc st M n bc bs Q) (kf : ¬ x = x0 → EV z k y (pc + 3) Lc st M n bc bs Q) : EV z k y pc Lc (.int x0 :: .int x :: st) M n bc bs Q := by
  intro p l e R s m args below meth c D cA b B tc ts Qf C H locs cells slots ls h1 h2 hR hS hl
  exact lv_icmp_eq C.1 C.2.1 hd ht (fun h9 => (kt h9 p l e R s m args below meth c D cA b B tc ts Qf C H locs cells slots ls h1 h2 hR hS hl)) (fun h9 => (kf h9 p l e R s m args below meth c D cA b B tc ts Qf C H locs cells slots ls h1 h2 hR hS hl))
theorem EV_if_ne {x : Int32} {off : Int} (tgt : Nat) (hd : decode y.2.1 pc = .ok (.ifCond .ne off, 3)) (ht : (pc : Int) + off = (tgt : Int)) (kt : ¬ x = 0 → EV z k y tgt Lc st M n bc bs Q) (kf : x = 0 → EV z k y (pc + 3) Lc st M n bc bs Q) : EV z k y pc Lc (.int x :: st) M n bc bs Q := by
  intro p l e R s m args below meth c D cA b B tc ts Qf C H locs cells slots ls h1 h2 hR hS hl
  exact lv_if_ne C.1 C.2.1 hd ht (fun h9 => (kt h9 p l e R s m args below meth c D cA b B tc ts Qf C H locs cells slots ls h1 h2 hR hS hl)) (fun h9 => (kf h9 p l e R s m args below meth c D cA b B tc ts Qf C H locs cells slots ls h1 h2 hR hS hl))
theorem EV_icmp_ne {x x0 : Int32} {off : Int} (tgt : Nat) (hd : decode y.2.1 pc = .ok (.if_icmp .ne off, 3)) (ht : (pc : Int) + off = (tgt : Int)) (kt : ¬ x = x0 → EV z k y tgt Lc st M n bc bs Q) (kf : x = x0 → EV z k y (pc + 3) Lc st M n bc bs Q) : EV z k y pc Lc (.int x0 :: .int x :: st) M n bc bs Q := by
  intro p l e R s m args below meth c D cA b B tc ts Qf C H locs cells slots ls h1 h2 hR hS hl
  exact lv_icmp_ne C.1 C.2.1 hd ht (fun h9 => (kt h9 p l e R s m args below meth c D cA b B tc ts Qf C H locs cells slots ls h1 h2 hR hS hl)) (fun h9 => (kf h9 p l e R s m args below meth c D cA b B tc ts Qf C H locs cells slots ls h1 h2 hR hS hl))
theorem EV_if_lt {x : Int32} {off : Int} (tgt : Nat) (hd : decode y.2.1 pc = .ok (.ifCond .lt off, 3)) (ht : (pc : Int) + off = (tgt : Int)) (kt : x < 0 → EV z k y tgt Lc st M n bc bs Q) (kf : ¬ x < 0 → EV z k y (pc + 3) Lc st M n bc bs Q) : EV z k y pc Lc (.int x :: st) M n bc bs Q := by
  intro p l e R s m args below meth c D cA b B tc ts Qf C H locs cells slots ls h1 h2 hR hS hl
  exact lv_if_lt C.1 C.2.1 hd ht (fun h9 => (kt h9 p l e R s m args below meth c D cA b B tc ts Qf C H locs cells slots ls h1 h2 hR hS hl)) (fun h9 => (kf h9 p l e R s m args below meth c D cA b B tc ts Qf C H locs cells slots ls h1 h2 hR hS hl))
theorem EV_icmp_lt {x x0 : Int32} {off : Int} (tgt : Nat) (hd : decode y.2.1 pc = .ok (.if_icmp .lt off, 3)) (ht : (pc : Int) + off = (tgt : Int)) (kt : x < x0 → EV z k y tgt Lc st M n bc bs Q) (kf : ¬ x < x0 → EV z k y (pc + 3) Lc st M n bc bs Q) : EV z k y pc Lc (.int x0 :: .int x :: st) M n bc bs Q := by
  intro p l e R s m args below meth c D cA b B tc ts Qf C H locs cells slots ls h1 h2 hR hS hl
  exact lv_icmp_lt C.1 C.2.1 hd ht (fun h9 => (kt h9 p l e R s m args below meth c D cA b B tc ts Qf C H locs cells slots ls h1 h2 hR hS hl)) (fun h9 => (kf h9 p l e R s m args below meth c D cA b B tc ts Qf C H locs cells slots ls h1 h2 hR hS hl))
theorem EV_if_ge {x : Int32} {off : Int} (tgt : Nat) (hd : decode y.2.1 pc = .ok (.ifCond .ge off, 3)) (ht : (pc : Int) + off = (tgt : Int)) (kt : 0 ≤ x → EV z k y tgt Lc st M n bc bs Q) (kf : ¬ 0 ≤ x → EV z k y (pc + 3) Lc st M n bc bs Q) : EV z k y pc Lc (.int x :: st) M n bc bs Q := by
  intro p l e R s m args below meth c D cA b B tc ts Qf C H locs cells slots ls h1 h2 hR hS hl
  exact lv_if_ge C.1 C.2.1 hd ht (fun h9 => (kt h9 p l e R s m args below meth c D cA b B tc ts Qf C H locs cells slots ls h1 h2 hR hS hl)) (fun h9 => (kf h9 p l e R s m args below meth c D cA b B tc ts Qf C H locs cells slots ls h1 h2 hR hS hl))
theorem EV_icmp_ge {x x0 : Int32} {off : Int} (tgt : Nat) (hd : decode y.2.1 pc = .ok (.if_icmp .ge off, 3)) (ht : (pc : Int) + off = (tgt : Int)) (kt : x0 ≤ x → EV z k y tgt Lc st M n bc bs Q) (kf : ¬ x0 ≤ x → EV z k y (pc + 3) Lc st M n bc bs Q) : EV z k y pc Lc (.int x0 :: .int x :: st) M n bc bs Q := by
  intro p l e R s m args below meth c D cA b B tc ts Qf C H locs cells slots ls h1 h2 hR hS hl
  exact lv_icmp_ge C.1 C.2.1 hd ht (fun h9 => (kt h9 p l e R s m args below meth c D cA b B tc ts Qf C H locs cells slots ls h1 h2 hR hS hl)) (fun h9 => (kf h9 p l e R s m args below meth c D cA b B tc ts Qf C H locs cells slots ls h1 h2 hR hS hl))
theorem EV_if_gt {x : Int32} {off : Int} (tgt : Nat) (hd : decode y.2.1 pc = .ok (.ifCond .gt off, 3)) (ht : (pc : Int) + off = (tgt : Int)) (kt : 0 < x → EV z k y tgt Lc st M n bc bs Q) (kf : ¬ 0 < x → EV z k y (pc + 3) Lc st M n bc bs Q) : EV z k y pc Lc (.int x :: st) M n bc bs Q := by
  intro p l e R s m args below meth c D cA b B tc ts Qf C H locs cells slots ls h1 h2 hR hS hl
  exact lv_if_gt C.1 C.2.1 hd ht (fun h9 => (kt h9 p l e R s m args below meth c D cA b B tc ts Qf C H locs cells slots ls h1 h2 hR hS hl)) (fun h9 => (kf h9 p l e R s m args below meth c D cA b B tc ts Qf C H locs cells slots ls h1 h2 hR hS hl))
theorem EV_icmp_gt {x x0 : Int32} {off : Int} (tgt : Nat) (hd : decode y.2.1 pc = .ok (.if_icmp .gt off, 3)) (ht : (pc : Int) + off = (tgt : Int)) (kt : x0 < x → EV z k y tgt Lc st M n bc bs Q) (kf : ¬ x0 < x → EV z k y (pc + 3) Lc st M n bc bs Q) : EV z k y pc Lc (.int x0 :: .int x :: st) M n bc bs Q := by
  intro p l e R s m args below meth c D cA b B tc ts Qf C H locs cells slots ls h1 h2 hR hS hl
  exact lv_icmp_gt C.1 C.2.1 hd ht (fun h9 => (kt h9 p l e R s m args below meth c D cA b B tc ts Qf C H locs cells slots ls h1 h2 hR hS hl)) (fun h9 => (kf h9 p l e R s m args below meth c D cA b B tc ts Qf C H locs cells slots ls h1 h2 hR hS hl))
theorem EV_if_le {x : Int32} {off : Int} (tgt : Nat) (hd : decode y.2.1 pc = .ok (.ifCond .le off, 3)) (ht : (pc : Int) + off = (tgt : Int)) (kt : x ≤ 0 → EV z k y tgt Lc st M n bc bs Q) (kf : ¬ x ≤ 0 → EV z k y (pc + 3) Lc st M n bc bs Q) : EV z k y pc Lc (.int x :: st) M n bc bs Q := by
  intro p l e R s m args below meth c D cA b B tc ts Qf C H locs cells slots ls h1 h2 hR hS hl
  exact lv_if_le C.1 C.2.1 hd ht (fun h9 => (kt h9 p l e R s m args below meth c D cA b B tc ts Qf C H locs cells slots ls h1 h2 hR hS hl)) (fun h9 => (kf h9 p l e R s m args below meth c D cA b B tc ts Qf C H locs cells slots ls h1 h2 hR hS hl))
theorem EV_icmp_le {x x0 : Int32} {off : Int} (tgt : Nat) (hd : decode y.2.1 pc = .ok (.if_icmp .le off, 3)) (ht : (pc : Int) + off = (tgt : Int)) (kt : x ≤ x0 → EV z k y tgt Lc st M n bc bs Q) (kf : ¬ x ≤ x0 → EV z k y (pc + 3) Lc st M n bc bs Q) : EV z k y pc Lc (.int x0 :: .int x :: st) M n bc bs Q := by
  intro p l e R s m args below meth c D cA b B tc ts Qf C H locs cells slots ls h1 h2 hR hS hl
  exact lv_icmp_le C.1 C.2.1 hd ht (fun h9 => (kt h9 p l e R s m args below meth c D cA b B tc ts Qf C H locs cells slots ls h1 h2 hR hS hl)) (fun h9 => (kf h9 p l e R s m args below meth c D cA b B tc ts Qf C H locs cells slots ls h1 h2 hR hS hl))
theorem EV_tableOut {dflt lo hi : Int} {offs : Array Int} {len : Nat} {x : Int32} (tgt : Nat) (hd : decode y.2.1 pc = .ok (.tableswitch dflt lo hi offs, len)) (h9 : x.toInt < lo ∨ hi < x.toInt) (ht : (pc : Int) + dflt = (tgt : Int)) (kk : EV z k y tgt Lc st M n bc bs Q) : EV z k y pc Lc (.int x :: st) M n bc bs Q := by
  intro p l e R s m args below meth c D cA b B tc ts Qf C H locs cells slots ls h1 h2 hR hS hl
  exact lv_tableOut C.1 C.2.1 hd h9 ht (kk p l e R s m args below meth c D cA b B tc ts Qf C H locs cells slots ls h1 h2 hR hS hl)
theorem EV_tableIn {dflt lo hi off : Int} {offs : Array Int} {len : Nat} {x : Int32} (tgt : Nat) (hd : decode y.2.1 pc = .ok (.tableswitch dflt lo hi offs, len)) (h8 : ¬ x.toInt < lo) (h9 : ¬ hi < x.toInt) (ho : offs[(x.toInt - lo).toNat]? = some off) (ht : (pc : Int) + off = (tgt : Int)) (kk : EV z k y tgt Lc st M n bc bs Q) : EV z k y pc Lc (.int x :: st) M n bc bs Q := by
  intro p l e R s m args below meth c D cA b B tc ts Qf C H locs cells slots ls h1 h2 hR hS hl
  exact lv_tableIn C.1 C.2.1 hd h8 h9 ho ht (kk p l e R s m args below meth c D cA b B tc ts Qf C H locs cells slots ls h1 h2 hR hS hl)
theorem EV_iret {x : Int32} {ty : FieldType} (hd : decode y.2.1 pc = .ok (.ireturn, 1)) (hr : y.2.2.2 = some ty) (hn : narrow ty (.int x) = .int x) (hq : Q (some (.int x)) M n) : EV z k y pc Lc [.int x] M n bc bs Q := by
  intro p l e R s m args below meth c D cA b B tc ts Qf C H locs cells slots ls h1 h2 hR hS hl
  exact W.widen (by omega) (by omega) (C.2.2.2.2.2.2.2.2.2.2 (some (.int x)) M n H locs ls pc hq hR hS ⟨⟨ty, hr, hn⟩, hd⟩)
theorem EV_lret {x : Int64} (hd : decode y.2.1 pc = .ok (.lreturn, 1)) (hr : y.2.2.2 = some .long) (hq : Q (some (.long x)) M n) : EV z k y pc Lc [.long x] M n bc bs Q := by
  intro p l e R s m args below meth c D cA b B tc ts Qf C H locs cells slots ls h1 h2 hR hS hl
  exact W.widen (by omega) (by omega) (C.2.2.2.2.2.2.2.2.2.2 (some (.long x)) M n H locs ls pc hq hR hS ⟨hr, hd⟩)
theorem EV_dret {x : UInt64} (hd : decode y.2.1 pc = .ok (.dreturn, 1)) (hr : y.2.2.2 = some .double) (hq : Q (some (.double x)) M n) : EV z k y pc Lc [.double x] M n bc bs Q := by
  intro p l e R s m args below meth c D cA b B tc ts Qf C H locs cells slots ls h1 h2 hR hS hl
  exact W.widen (by omega) (by omega) (C.2.2.2.2.2.2.2.2.2.2 (some (.double x)) M n H locs ls pc hq hR hS ⟨hr, hd⟩)
theorem EV_vret  (hd : decode y.2.1 pc = .ok (.return_, 1)) (hr : y.2.2.2 = none) (hq : Q none M n) : EV z k y pc Lc [] M n bc bs Q := by
  intro p l e R s m args below meth c D cA b B tc ts Qf C H locs cells slots ls h1 h2 hR hS hl
  exact W.widen (by omega) (by omega) (C.2.2.2.2.2.2.2.2.2.2 none M n H locs ls pc hq hR hS ⟨hr, hd⟩)
end QRows
end
section
section QMem
variable {z : qZ} {k : Nat} {y : qY} {pc : Nat} {Lc st : List Value} {M : qM} {n bc bs : Nat} {Q : qQ}
/-- a class of the worlds: its words are in the tables, its fields' types, its names apart -/
def qcok (ci : Nat) : Prop := ∀ (C : String) (T : u_T) (N : Nat), vwCl[ci]? = some (C, T, N) →
  (∀ w ∈ u_ws C T N, w ∈ qTBL) ∧ (∃ ty0 : Nat → FieldType, ∀ j, j < N → parseFieldDescriptor (T j).2.2.1 = some (ty0 j)) ∧ (∀ a, a < N → ∀ b, b < N → a ≠ b → (T a).2.1 ≠ (T b).2.1)
/-- a field as the code of a class names it: class, place, type, final or not -/
def qLK (own : String) (idx ci j : Nat) (ty : FieldType) (fin : Bool) : Prop := ∃ (C : String) (T : u_T) (N : Nat), vwCl[ci]? = some (C, T, N) ∧ j < N ∧ parseFieldDescriptor (T j).2.2.1 = some ty ∧ (T j).2.2.2 = fin ∧ qcok ci ∧
  (Cond.fieldLink own idx (T j).1 (T j).2.1 (T j).2.2.1 ∈ qTBL ∨ ∃ host, Cond.fieldLinkNest own idx (T j).1 (T j).2.1 (T j).2.2.1 host ∈ qTBL)
theorem qw_here (f : Nat → Nat) (cA : Nat → ClassId) {r : Nat} (hr : 0 < r ∧ r ≤ n) {e : qE} (hM : M r = e) : (qw f cA M n)[r - 1]? = some (f r, qe f cA e) := by
  rw [qw_at f cA M (show r - 1 < n by omega), show r - 1 + 1 = r by omega, hM]
theorem qw_put (f : Nat → Nat) (cA : Nat → ClassId) {r : Nat} (hr : 0 < r ∧ r ≤ n) (e : qE) : (qw f cA M n).set (r - 1) (f r, qe f cA e) = qw f cA (qset M r e) n := by
  have h := qw_set f cA M e (show r - 1 < n by omega)
  rw [show r - 1 + 1 = r by omega] at h
  exact h
/-- a heap behind a store is as large as before -/
theorem qR.of {D : va_G} {cA : Nat → ClassId} {b B : Nat} {M M' : qM} {n : Nat} {H : Heap} (h : va_P D vwCl (qw (qad b B) cA M' n) H) (hz : H.size = B + n) : qR D cA b B M' n H := ⟨h, hz⟩
theorem EV_getf {idx ci j r : Nat} {ty : FieldType} {fin : Bool} {fs : List Value} {v : Value} (hd : decode y.2.1 pc = .ok (.getfield idx, 3)) (hl : qLK y.1.cls idx ci j ty fin) (hr : 0 < r ∧ r ≤ n) (hM : M r = .inr (ci, fs)) (hv : fs[j]? = some v)
    (kk : EV z k y (pc + 3) Lc (v :: st) M n bc bs Q) : EV z k y pc Lc (.ref r :: st) M n bc bs Q := by
  intro p l e R s m args below meth c D cA b B tc ts Qf C H locs cells slots ls h1 h2 hR hS hl9
  obtain ⟨Cn, T, N, hc, hj, hty, hfin, hco, hlk⟩ := hl
  have he := qw_here (qad b B) cA hr hM
  have hv' : (fs.map (qv (qad b B)))[j]? = some (qv (qad b B) v) := by rw [List.getElem?_map, hv]; rfl
  have K := kk p l e R s m args below meth c D cA b B tc ts Qf C H locs cells slots ls h1 h2 hR hS hl9
  rcases hlk with hw | ⟨host, hw⟩
  · exact va_get (D := D) (cl := vwCl) (ci := ci) C.1 C.2.1 C.2.2.2.2.2.1 ((hco Cn T N hc).1) C.2.2.2.1 C.2.2.2.2.2.2.1.1 hR.1 (r - 1) he hc j hj (C.2.2.2.2.2.1 _ hw) (fun _ h => h) hv' hd K
  · exact va_getN (D := D) (cl := vwCl) (ci := ci) C.1 C.2.1 C.2.2.2.2.2.1 ((hco Cn T N hc).1) C.2.2.2.1 C.2.2.2.2.2.2.1.1 hR.1 (r - 1) he hc j hj (C.2.2.2.2.2.1 _ hw) (fun _ h => h) hv' hd K
theorem EV_putf {idx ci j r : Nat} {ty : FieldType} {fs : List Value} {v : Value} (hd : decode y.2.1 pc = .ok (.putfield idx, 3)) (hl : qLK y.1.cls idx ci j ty false) (hr : 0 < r ∧ r ≤ n) (hM : M r = .inr (ci, fs)) (hj2 : j < fs.length)
    (hn : ∀ f : Nat → Nat, narrow ty (qv f v) = qv f v) (hf : ∀ f : Nat → Nat, fits ty (qv f v) = true)
    (kk : EV z k y (pc + 3) Lc st (qset M r (.inr (ci, fs.set j v))) n bc bs Q) : EV z k y pc Lc (v :: .ref r :: st) M n bc bs Q := by
  intro p l e R s m args below meth c D cA b B tc ts Qf C H locs cells slots ls h1 h2 hR hS hl9
  obtain ⟨Cn, T, N, hc, hj, hty, hfin, hco, hlk⟩ := hl
  obtain ⟨hin, ⟨ty0, hty0⟩, hnm⟩ := hco Cn T N hc
  have he := qw_here (qad b B) cA hr hM
  have hD := qw_D b B C.2.2.2.2.2.2.2.2.1.1 cA M n
  have hset : (qw (qad b B) cA M n).set (r - 1) (qad b B r, .inr (ci, (fs.map (qv (qad b B))).set j (qv (qad b B) v))) = qw (qad b B) cA (qset M r (.inr (ci, fs.set j v))) n := by
    rw [← qw_put (qad b B) cA hr, ← List.map_set]; rfl
  have K : ∀ (H1 : Heap) (locs1 : List Loc), H1.size = H.size → va_P D vwCl ((qw (qad b B) cA M n).set (r - 1) (qad b B r, .inr (ci, (fs.map (qv (qad b B))).set j (qv (qad b B) v)))) H1 → va_S (fun q => B ≤ q) s.heap H1 locs1 → W p l e R s m args below meth c H1 locs1 cells slots Qf (F0 m (pc + 3) ls (st.map (qv (qad b B)))) := by
    intro H1 locs1 hz hP hS1
    rw [hset] at hP
    exact kk p l e R s m args below meth c D cA b B tc ts Qf C H1 locs1 cells slots ls h1 h2 ⟨hP, hz.trans hR.2⟩ hS1 hl9
  have hap := va_apart (own := y.1.cls) C.2.2.2.2.2.1 hin ty0 hty0 hnm C.2.2.2.2.2.2.1.1 hc
  obtain ⟨r', g1, cell, q1, q2, q3, q4⟩ := hR.1 (r - 1) _ he
  have hr' : r' = (Cn, T, N) := Option.some.inj (g1.symm.trans hc)
  subst hr'
  obtain ⟨hSl, hfc, kC, hkC, hkind⟩ := C.2.2.2.2.2.2.1.1.1 ci _ hc
  obtain ⟨cf, kf, fi, f, hi, hsl⟩ := hSl j hj
  have hlay := C.2.2.2.2.2.1 _ (hin _ (u_in_lay hj))
  unfold u_lay at hlay
  rw [if_neg (by rw [hfin]; decide)] at hlay
  have hst := (u_facts hfc hkC (u_lays C.2.2.2.2.2.1 hin hj) hi).1
  have h6 := u_store hfc hkC hkind hlay hi hty (hn (qad b B)) (hf (qad b B))
  have fin : ∀ H' : Heap, H'[qad b B r]? = some (cell.setSlot f.slot (qv (qad b B) v)) → H'.size = H.size → (∀ q, q ≠ qad b B r → H'[q]? = H[q]?) → W p l e R s m args below meth c H' (locs ++ [⟨qad b B r, f.slot⟩]) cells slots Qf (F0 m (pc + 3) ls (st.map (qv (qad b B)))) := by
    intro H' e1 e2 e3
    rw [hsl] at e1 ⊢
    exact K H' _ e2 (hR.1.set hD he ⟨_, hc, t_OB.to (V := updV (vp_V (fs.map (qv (qad b B)))) j (qv (qad b B) v)) ⟨_, e1, q2, q3, t_set q4 hap hj _⟩ (fun i _ => vp_updV_set (by rw [List.length_map]; exact hj2) _ i)⟩ e3) (hS.put e2 e3 (hD.2 (r - 1) _ he))
  rcases hlk with hw | ⟨host, hw⟩
  · exact W.putK C.1 C.2.1 (f := f) ⟨C.2.2.2.1, C.2.2.2.2.2.1 _ hw, ⟨_, _, _, hi⟩, hst⟩ (by rw [q2]; exact h6) q1 q3 (by rw [hsl]; exact k2_hasslot (q4 j hj)) rfl rfl hd fin
  · exact va_WputK C.1 C.2.1 (f := f) C.2.2.2.1 (C.2.2.2.2.2.1 _ hw) hi hst (by rw [q2]; exact h6) q1 q3 (by rw [hsl]; exact k2_hasslot (q4 j hj)) rfl rfl hd fin
theorem EV_putfin {idx ci j r : Nat} {ty : FieldType} {fs : List Value} {v : Value} (hd : decode y.2.1 pc = .ok (.putfield idx, 3)) (hl : qLK y.1.cls idx ci j ty true) (hin2 : y.1.name = "<init>") (hdecl : ∀ (C : String) (T : u_T) (N : Nat), vwCl[ci]? = some (C, T, N) → (T j).1 = y.1.cls ∧ Cond.fieldLink y.1.cls idx (T j).1 (T j).2.1 (T j).2.2.1 ∈ qTBL) (hr : 0 < r ∧ r ≤ n) (hM : M r = .inr (ci, fs)) (hj2 : j < fs.length)
    (hn : ∀ f : Nat → Nat, narrow ty (qv f v) = qv f v) (hf : ∀ f : Nat → Nat, fits ty (qv f v) = true)
    (kk : EV z k y (pc + 3) Lc st (qset M r (.inr (ci, fs.set j v))) n bc bs Q) : EV z k y pc Lc (v :: .ref r :: st) M n bc bs Q := by
  intro p l e R s m args below meth c D cA b B tc ts Qf C H locs cells slots ls h1 h2 hR hS hl9
  obtain ⟨Cn, T, N, hc, hj, hty, hfin, hco, -⟩ := hl
  obtain ⟨hdec, hw⟩ := hdecl Cn T N hc
  obtain ⟨hin, ⟨ty0, hty0⟩, hnm⟩ := hco Cn T N hc
  have he := qw_here (qad b B) cA hr hM
  have hD := qw_D b B C.2.2.2.2.2.2.2.2.1.1 cA M n
  have hset : (qw (qad b B) cA M n).set (r - 1) (qad b B r, .inr (ci, (fs.map (qv (qad b B))).set j (qv (qad b B) v))) = qw (qad b B) cA (qset M r (.inr (ci, fs.set j v))) n := by
    rw [← qw_put (qad b B) cA hr, ← List.map_set]; rfl
  have hap := va_apart (own := y.1.cls) C.2.2.2.2.2.1 hin ty0 hty0 hnm C.2.2.2.2.2.2.1.1 hc
  obtain ⟨r', g1, cell, q1, q2, q3, q4⟩ := hR.1 (r - 1) _ he
  have hr' : r' = (Cn, T, N) := Option.some.inj (g1.symm.trans hc)
  subst hr'
  obtain ⟨hSl, hfc, kC, hkC, hkind⟩ := C.2.2.2.2.2.2.1.1.1 ci _ hc
  obtain ⟨cf, kf, fi, f, hi, hsl⟩ := hSl j hj
  have hlay := C.2.2.2.2.2.1 _ (hin _ (u_in_lay hj))
  unfold u_lay at hlay
  rw [if_pos hfin] at hlay
  have hst := (u_facts hfc hkC (u_lays C.2.2.2.2.2.1 hin hj) hi).1
  have hcf : m.cls = cf := by
    obtain ⟨_, _, c', _, _, _, -, -, hf', -, -, -, hown2, -⟩ := Cond.laysFinal_spec hlay
    have e1 : c' = cf := by have := hi.symm.trans hf'; simp at this; exact this.1.symm
    rw [hdec] at hown2
    rw [← e1]; exact Option.some.inj (C.2.2.2.1.symm.trans hown2)
  have h6 := u_fits hfc hkC hkind (Or.inr hlay) hi hty (hn (qad b B)) (hf (qad b B))
  refine W.putFinK C.1 C.2.1 C.2.2.2.1 (C.2.2.2.2.2.1 _ hw) hi hst hcf (C.2.2.2.2.1.trans hin2) (by rw [q2]; exact h6) q1 q3 (by rw [hsl]; exact k2_hasslot (q4 j hj)) rfl rfl hd fun H' e1 e2 e3 => ?_
  rw [hsl] at e1 ⊢
  have hP := hR.1.set (e := .inr (ci, (fs.map (qv (qad b B))).set j (qv (qad b B) v))) hD he (H1 := H') ⟨_, hc, t_OB.to (V := updV (vp_V (fs.map (qv (qad b B)))) j (qv (qad b B) v)) ⟨_, e1, q2, q3, t_set q4 hap hj _⟩ (fun i _ => vp_updV_set (by rw [List.length_map]; exact hj2) _ i)⟩ e3
  rw [hset] at hP
  exact kk p l e R s m args below meth c D cA b B tc ts Qf C H' _ cells slots ls h1 h2 ⟨hP, e2.trans hR.2⟩ (hS.put e2 e3 (hD.2 (r - 1) _ he)) hl9
/-! arrays -/
theorem EV_iald {r len : Nat} {f : Nat → Int32} {i : Int32} (hd : decode y.2.1 pc = .ok (.iaload, 1)) (hr : 0 < r ∧ r ≤ n) (hM : M r = .inl (0, len, .inl f)) (hin : vp_in i len)
    (kk : EV z k y (pc + 1) Lc (.int (f i.toNatClampNeg) :: st) M n bc bs Q) : EV z k y pc Lc (.int i :: .ref r :: st) M n bc bs Q := by
  intro p l e R s m args below meth c D cA b B tc ts Qf C H locs cells slots ls h1 h2 hR hS hl9
  exact va_iald (D := D) (cl := vwCl) C.1 C.2.1 C.2.2.2.2.2.2.1.1 hR.1 (r - 1) 0 (qw_here (qad b B) cA hr hM) rfl hin hd (kk p l e R s m args below meth c D cA b B tc ts Qf C H locs cells slots ls h1 h2 hR hS hl9)
theorem EV_zald {r len : Nat} {f : Nat → Int32} {i : Int32} (hd : decode y.2.1 pc = .ok (.baload, 1)) (hr : 0 < r ∧ r ≤ n) (hM : M r = .inl (1, len, .inl f)) (hin : vp_in i len)
    (kk : EV z k y (pc + 1) Lc (.int (f i.toNatClampNeg) :: st) M n bc bs Q) : EV z k y pc Lc (.int i :: .ref r :: st) M n bc bs Q := by
  intro p l e R s m args below meth c D cA b B tc ts Qf C H locs cells slots ls h1 h2 hR hS hl9
  exact va_zald (D := D) (cl := vwCl) C.1 C.2.1 C.2.2.2.2.2.2.1.1 hR.1 (r - 1) 1 (qw_here (qad b B) cA hr hM) rfl hin hd (kk p l e R s m args below meth c D cA b B tc ts Qf C H locs cells slots ls h1 h2 hR hS hl9)
theorem EV_aald {r r' len t : Nat} {g : Nat → Option Nat} {i : Int32} {ty : FieldType} (hd : decode y.2.1 pc = .ok (.aaload, 1)) (hr : 0 < r ∧ r ≤ n) (hM : M r = .inl (t, len, .inr (.inr (.inr (.inr g))))) (ht : ∀ cA : Nat → ClassId, (qT cA)[t]? = some (cA t, ty)) (hty : ty.isReference = true) (hin : vp_in i len) (hg : g i.toNatClampNeg = some r')
    (kk : EV z k y (pc + 1) Lc (.ref r' :: st) M n bc bs Q) : EV z k y pc Lc (.int i :: .ref r :: st) M n bc bs Q := by
  intro p l e R s m args below meth c D cA b B tc ts Qf C H locs cells slots ls h1 h2 hR hS hl9
  have he := qw_here (qad b B) cA hr hM
  have hlt : i.toNatClampNeg < len := Nat.not_le.mp fun q => hin (Or.inr q)
  have K := kk p l e R s m args below meth c D cA b B tc ts Qf C H locs cells slots ls h1 h2 hR hS hl9
  refine W.aald (v := .ref (qad b B r')) (ty := ty) C.1 C.2.1 (hR.1 (r - 1) _ he) ((C.2.2.2.2.2.2.1.1.2 t _ (ht cA)).1 len (fun j => va_rf ((g j).map (qad b B)))) hty (fun q => by cases q) (by show ¬ (i < 0 ∨ (arrV _ _ _).slots.size ≤ _); rw [arrV_size]; exact hin) ?_ rfl rfl hd K
  exact (arrV_read _ (fun j => va_rf ((g j).map (qad b B))) hlt).trans (by rw [hg]; rfl)
theorem EV_iast {r len : Nat} {f : Nat → Int32} {i x : Int32} (hd : decode y.2.1 pc = .ok (.iastore, 1)) (hr : 0 < r ∧ r ≤ n) (hM : M r = .inl (0, len, .inl f)) (hin : vp_in i len)
    (kk : EV z k y (pc + 1) Lc st (qset M r (.inl (0, len, .inl (upd f i.toNatClampNeg x)))) n bc bs Q) : EV z k y pc Lc (.int x :: .int i :: .ref r :: st) M n bc bs Q := by
  intro p l e R s m args below meth c D cA b B tc ts Qf C H locs cells slots ls h1 h2 hR hS hl9
  have hD := qw_D b B C.2.2.2.2.2.2.2.2.1.1 cA M n
  have he := qw_here (qad b B) cA hr hM
  refine W.iast C.1 C.2.1 (hR.1 (r - 1) _ he) ((C.2.2.2.2.2.2.1.1.2 0 _ rfl).1 len (fun j => .int (f j))) (fun q => by cases q) (by show ¬ (i < 0 ∨ (arrV _ _ _).slots.size ≤ _); rw [arrV_size]; exact hin) rfl rfl hd fun H1 e1 z1 oq => ?_
  have hP := hR.1.set (e := qe (qad b B) cA (.inl (0, len, .inl (upd f i.toNatClampNeg x)))) hD he (H1 := H1) ?_ oq
  · rw [qw_put (qad b B) cA hr] at hP
    exact kk p l e R s m args below meth c D cA b B tc ts Qf C H1 _ cells slots ls h1 h2 ⟨hP, z1.trans hR.2⟩ (hS.put z1 oq (hD.2 (r - 1) _ he)) hl9
  · show H1[qad b B r]? = some (vp_cell _ _)
    rw [e1]
    show some ((arrV (cA 0) len (fun j => Value.int (f j))).setSlot _ _) = some (arrV (cA 0) len (fun j => Value.int (upd f i.toNatClampNeg x j)))
    rw [arrV_store]
    congr 2
    funext q
    by_cases hq : q = i.toNatClampNeg
    · subst hq; simp [updV, upd]
    · simp [updV, upd, hq]
theorem EV_zast {r len : Nat} {f : Nat → Int32} {i x : Int32} (hd : decode y.2.1 pc = .ok (.bastore, 1)) (hr : 0 < r ∧ r ≤ n) (hM : M r = .inl (1, len, .inl f)) (hin : vp_in i len) (hx : vp_nar .boolean x = x)
    (kk : EV z k y (pc + 1) Lc st (qset M r (.inl (1, len, .inl (upd f i.toNatClampNeg x)))) n bc bs Q) : EV z k y pc Lc (.int x :: .int i :: .ref r :: st) M n bc bs Q := by
  intro p l e R s m args below meth c D cA b B tc ts Qf C H locs cells slots ls h1 h2 hR hS hl9
  have hD := qw_D b B C.2.2.2.2.2.2.2.2.1.1 cA M n
  have he := qw_here (qad b B) cA hr hM
  refine W.zast C.1 C.2.1 (hR.1 (r - 1) _ he) ((C.2.2.2.2.2.2.1.1.2 1 _ rfl).1 len (fun j => .int (f j))) (fun q => by cases q) (by show ¬ (i < 0 ∨ (arrV _ _ _).slots.size ≤ _); rw [arrV_size]; exact hin) rfl rfl hd fun H1 e1 z1 oq => ?_
  have hP := hR.1.set (e := qe (qad b B) cA (.inl (1, len, .inl (upd f i.toNatClampNeg (vp_nar .boolean x))))) hD he (H1 := H1) ?_ oq
  · rw [qw_put (qad b B) cA hr, hx] at hP
    exact kk p l e R s m args below meth c D cA b B tc ts Qf C H1 _ cells slots ls h1 h2 ⟨hP, z1.trans hR.2⟩ (hS.put z1 oq (hD.2 (r - 1) _ he)) hl9
  · show H1[qad b B r]? = some (vp_cell _ _)
    rw [e1]
    show some ((arrV (cA 1) len (fun j => Value.int (f j))).setSlot _ _) = some (arrV (cA 1) len (fun j => Value.int (upd f i.toNatClampNeg (vp_nar .boolean x) j)))
    rw [arrV_store]
    congr 2
    funext q
    by_cases hq : q = i.toNatClampNeg
    · subst hq
      simp [updV, upd, vp_nar]
      try rfl
    · simp [updV, upd, hq]
theorem EV_alen {r len t : Nat} {x : (Nat → Int32) ⊕ (Nat → Int64) ⊕ (Nat → UInt32) ⊕ (Nat → UInt64) ⊕ (Nat → Option Nat)} {ty : FieldType} (hd : decode y.2.1 pc = .ok (.arraylength, 1)) (hr : 0 < r ∧ r ≤ n) (hM : M r = .inl (t, len, x)) (ht : ∀ cA : Nat → ClassId, (qT cA)[t]? = some (cA t, ty))
    (kk : EV z k y (pc + 1) Lc (.int (Int32.ofNat len) :: st) M n bc bs Q) : EV z k y pc Lc (.ref r :: st) M n bc bs Q := by
  intro p l e R s m args below meth c D cA b B tc ts Qf C H locs cells slots ls h1 h2 hR hS hl9
  have he := qw_here (qad b B) cA hr hM
  refine va_alen (D := D) (cl := vwCl) C.1 C.2.1 C.2.2.2.2.2.2.1.1 hR.1 (r - 1) t he (ht cA) ?_ hd (kk p l e R s m args below meth c D cA b B tc ts Qf C H locs cells slots ls h1 h2 hR hS hl9)
  rcases x with x | x | x | x | x <;> rfl
/-- the script -/
theorem EV_sld {i : Int32} (hd : decode y.2.1 pc = .ok (.iaload, 1)) (hin : vp_in i z.1)
    (kk : EV z k y (pc + 1) Lc (.int (z.2 i.toNatClampNeg) :: st) M n bc bs Q) : EV z k y pc Lc (.int i :: .ref 0 :: st) M n bc bs Q := by
  intro p l e R s m args below meth c D cA b B tc ts Qf C H locs cells slots ls h1 h2 hR hS hl9
  exact va_sld C.1 C.2.1 C.2.2.2.2.2.2.2.1 (Nat.lt_of_lt_of_le C.2.2.2.2.2.2.2.2.1.1 C.2.2.2.2.2.2.2.2.1.2) (Nat.not_le.mpr C.2.2.2.2.2.2.2.2.1.1) hS hin hd (kk p l e R s m args below meth c D cA b B tc ts Qf C H locs cells slots ls h1 h2 hR hS hl9)
theorem EV_slen (hd : decode y.2.1 pc = .ok (.arraylength, 1))
    (kk : EV z k y (pc + 1) Lc (.int (Int32.ofNat z.1) :: st) M n bc bs Q) : EV z k y pc Lc (.ref 0 :: st) M n bc bs Q := by
  intro p l e R s m args below meth c D cA b B tc ts Qf C H locs cells slots ls h1 h2 hR hS hl9
  exact va_slen C.1 C.2.1 C.2.2.2.2.2.2.2.1 (Nat.lt_of_lt_of_le C.2.2.2.2.2.2.2.2.1.1 C.2.2.2.2.2.2.2.2.1.2) (Nat.not_le.mpr C.2.2.2.2.2.2.2.2.1.1) hS hd (kk p l e R s m args below meth c D cA b B tc ts Qf C H locs cells slots ls h1 h2 hR hS hl9)
end QMem
end
section
theorem q_self (vm : Vm) (c : ClassId) : vm.assignable c c = true := by
  show Vm.assignableAux vm (255 + 1) c c = true
  rw [Vm.assignableAux]
  simp only [beq_self_eq_true, Bool.true_or]
section QNew
variable {z : qZ} {k : Nat} {y : qY} {pc : Nat} {Lc st : List Value} {M : qM} {n bc bs : Nat} {Q : qQ}
theorem qR_push {D : va_G} {cA : Nat → ClassId} {b B : Nat} {H H1 : Heap} {e : qE} (hR : qR D cA b B M n H) (z1 : H1.size = H.size + 1) (o1 : ∀ q, q < H.size → H1[q]? = H[q]?) (he : va_at D vwCl (qad b B (n + 1), qe (qad b B) cA e) H1) : qR D cA b B (qset M (n + 1) e) (n + 1) H1 := by
  refine ⟨?_, by rw [z1, hR.2]; omega⟩
  rw [← qw_push]
  refine (hR.1.kept (fun k x hx => o1 x.1 (hR.1 k x hx).lt)).app (fun k x hx => ?_)
  have hz : k < 1 := (List.getElem?_eq_some_iff.mp hx).1
  rw [show k = 0 by omega] at hx
  cases hx
  exact he
theorem qS_push {A : Nat → Prop} {H0 H H1 : Heap} {locs : List Loc} (hS : va_S A H0 H locs) (z1 : H1.size = H.size + 1) (o1 : ∀ q, q < H.size → H1[q]? = H[q]?) : va_S A H0 H1 locs :=
  ⟨Nat.le_trans hS.1 (by omega), fun x h1 h2 => (o1 x (Nat.lt_of_lt_of_le h1 hS.1)).trans (hS.2.1 x h1 h2), hS.2.2⟩
theorem EV_new {idx ci N : Nat} {Cn : String} {T : u_T} {fs : List Value} (hd : decode y.2.1 pc = .ok (.new idx, 3)) (hc : vwCl[ci]? = some (Cn, T, N)) (hco : qcok ci) (hlk : Cond.classLink y.1.cls idx Cn ∈ qTBL) (hin : Cond.instantiable Cn N ∈ qTBL) (hini : Cond.initialized Cn ∈ qTBL)
    (hfs : ∀ j, j < N → ∀ ty, parseFieldDescriptor (T j).2.2.1 = some ty → ∀ f : Nat → Nat, defaultValue ty = vp_V (fs.map (qv f)) j)
    (kk : EV z k y (pc + 3) Lc (.ref (n + 1) :: st) (qset M (n + 1) (.inr (ci, fs))) (n + 1) bc bs Q) : EV z k y pc Lc st M n (bc + 1) (bs + N) Q := by
  intro p l e R s m args below meth c D cA b B tc ts Qf C H locs cells slots ls h1 h2 hR hS hl9
  obtain ⟨hin1, ⟨ty0, hty0⟩, hnm⟩ := hco Cn T N hc
  have hKn := C.2.2.2.2.2.2.1.1.1 ci _ hc
  have hb1 := C.2.2.2.2.2.2.2.2.2.1
  refine W.newcK C.1 C.2.1 C.2.2.2.1 (C.2.2.2.2.2.1 _ hlk) (C.2.2.2.2.2.1 _ hin) (C.2.2.2.2.2.1 _ hini) rfl hd (by omega) (by omega) hKn.2.1 rfl fun H1 kC hkC e1 z1 o1 => ?_
  have hsz : H.size = qad b B (n + 1) := hR.2
  rw [hsz]
  refine kk p l e R s m args below meth c D cA b B tc ts Qf C H1 locs (cells + 1) (slots + N) ls (by omega) (by omega) (qR_push hR z1 o1 ?_) (qS_push hS z1 o1) hl9
  rw [hsz] at e1
  exact ⟨_, hc, (u_born ty0 C.2.2.2.2.2.1 hin1 hKn hkC e1 hty0).to (fun j hj => hfs j hj (ty0 j) (hty0 j hj) (qad b B))⟩
theorem EV_newarr {atype : ArrayType} {t : Nat} {ty : FieldType} {a0 : vp_A} {cnt : Int32} {len : Nat} (hd : decode y.2.1 pc = .ok (.newarray atype, 2)) (hty : newarray.typeOf atype = ty) (hw : Cond.arrayClass ty ∈ qTBL) (ht : ∀ cA : Nat → ClassId, (qT cA)[t]? = some (cA t, ty)) (hra : ∀ (U : State) (c : ClassId), va_RA U c ty → U.vm.findClass ("[" ++ ty.toString) = some c) (ha : ∀ (f : Nat → Nat) (cA : ClassId), vp_cell cA (qa f a0) = arrV cA len (fun _ => defaultValue ty)) (hn : ¬ cnt < 0) (hN : cnt.toNatClampNeg = len) (hbytes : len * componentBytes ty ≤ 536870912)
    (kk : EV z k y (pc + 2) Lc (.ref (n + 1) :: st) (qset M (n + 1) (.inl (t, a0))) (n + 1) bc bs Q) : EV z k y pc Lc (.int cnt :: st) M n (bc + 1) (bs + len) Q := by
  intro p l e R s m args below meth c D cA b B tc ts Qf C H locs cells slots ls h1 h2 hR hS hl9
  subst hty
  have hb1 := C.2.2.2.2.2.2.2.2.2.1
  refine va_newaK C.1 C.2.1 (C.2.2.2.2.2.1 _ hw) rfl hd rfl hn hN hbytes (by omega) (by omega) rfl fun H1 cA' e1 z1 o1 hAr hNm => ?_
  have hcA : cA' = cA t := Option.some.inj (hNm.symm.trans (hra s _ (C.2.2.2.2.2.2.1.1.2 t _ (ht cA)).2))
  subst hcA
  have hsz : H.size = qad b B (n + 1) := hR.2
  rw [hsz]
  refine kk p l e R s m args below meth c D cA b B tc ts Qf C H1 locs (cells + 1) (slots + len) ls (by omega) (by omega) (qR_push hR z1 o1 ?_) (qS_push hS z1 o1) hl9
  rw [hsz] at e1
  show H1[_]? = some (vp_cell _ _)
  rw [ha]
  exact e1
theorem q_rep (cA : ClassId) (len : Nat) (f : Nat → Nat) : vp_cell cA (qa f (len, .inr (.inr (.inr (.inr (fun _ => none)))))) = { cls := cA, slots := Array.replicate len .null, vm := .none } := by
  have h : (arrV cA len (fun _ => Value.null)) = { cls := cA, slots := Array.replicate len .null, vm := .none } := by first | exact (arrV_new cA len .null).symm | exact arrV_new cA len .null | rw [arrV_new] | rw [← arrV_new]
  rw [← h]
  rfl
theorem EV_anew {idx t : Nat} {Cn : String} {cnt : Int32} {len : Nat} (hd : decode y.2.1 pc = .ok (.anewarray idx, 3)) (hlk : Cond.classLink y.1.cls idx Cn ∈ qTBL) (how : ∀ (A : Array Value) (U : State), (∀ w ∈ qTBL, w.before A U = true) → (Cond.arrayOver (.object Cn)).before A U = true) (ht : ∀ cA : Nat → ClassId, (qT cA)[t]? = some (cA t, .object Cn)) (hn : ¬ cnt < 0) (hN : cnt.toNatClampNeg = len) (hbytes : len * 4 ≤ 536870912)
    (kk : EV z k y (pc + 3) Lc (.ref (n + 1) :: st) (qset M (n + 1) (.inl (t, len, .inr (.inr (.inr (.inr (fun _ => none))))))) (n + 1) bc bs Q) : EV z k y pc Lc (.int cnt :: st) M n (bc + 1) (bs + len) Q := by
  intro p l e R s m args below meth c D cA b B tc ts Qf C H locs cells slots ls h1 h2 hR hS hl9
  have hb1 := C.2.2.2.2.2.2.2.2.2.1
  subst hN
  refine W.anew C.1 C.2.1 C.2.2.2.1 (C.2.2.2.2.2.1 _ hlk) (how args s C.2.2.2.2.2.1) rfl hd rfl hn hbytes (by omega) (by omega) fun cA' kA comp f1 f2 f3 f4 => ?_
  obtain ⟨kA2, comp2, g1, g2, g3, g4⟩ := (C.2.2.2.2.2.2.1.1.2 t _ (ht cA)).2
  have hcA : cA' = cA t := Option.some.inj (f1.symm.trans g4)
  subst hcA
  have hsz : H.size = qad b B (n + 1) := hR.2
  generalize hH1 : H.push ({ cls := cA t, slots := Array.replicate cnt.toNatClampNeg .null, vm := .none } : Cell) = H1
  have z1 : H1.size = H.size + 1 := by rw [← hH1, Array.size_push]
  have o1 : ∀ q, q < H.size → H1[q]? = H[q]? := fun q hq => by rw [← hH1, Array.getElem?_push, if_neg (Nat.ne_of_lt hq)]
  rw [hsz]
  refine kk p l e R s m args below meth c D cA b B tc ts Qf C H1 locs (cells + 1) (slots + cnt.toNatClampNeg) ls (by omega) (by omega) (qR_push hR z1 o1 ?_) (qS_push hS z1 o1) hl9
  show H1[qad b B (n + 1)]? = some (vp_cell _ _)
  rw [← hsz, ← hH1, Array.getElem?_push_size, q_rep]
theorem EV_anewA {idx : Nat} {cnt : Int32} {len : Nat} (hd : decode y.2.1 pc = .ok (.anewarray idx, 3)) (hlk : Cond.classLink y.1.cls idx (FieldType.array .int).toString ∈ qTBL) (how : ∀ (A : Array Value) (U : State), (∀ w ∈ qTBL, w.before A U = true) → (Cond.arrayOver (.array .int)).before A U = true) (hn : ¬ cnt < 0) (hN : cnt.toNatClampNeg = len) (hbytes : len * 4 ≤ 536870912)
    (kk : EV z k y (pc + 3) Lc (.ref (n + 1) :: st) (qset M (n + 1) (.inl (5, len, .inr (.inr (.inr (.inr (fun _ => none))))))) (n + 1) bc bs Q) : EV z k y pc Lc (.int cnt :: st) M n (bc + 1) (bs + len) Q := by
  intro p l e R s m args below meth c D cA b B tc ts Qf C H locs cells slots ls h1 h2 hR hS hl9
  have hb1 := C.2.2.2.2.2.2.2.2.2.1
  subst hN
  refine W.anewA C.1 C.2.1 C.2.2.2.1 (C.2.2.2.2.2.1 _ hlk) (how args s C.2.2.2.2.2.1) rfl hd rfl hn hbytes (by omega) (by omega) fun cA' kA comp f1 f2 f3 f4 => ?_
  have g4 : s.vm.findClass ("[" ++ (FieldType.array .int).toString) = some (cA 5) := (C.2.2.2.2.2.2.1.1.2 5 _ rfl).2
  have hcA : cA' = cA 5 := Option.some.inj (f1.symm.trans g4)
  subst hcA
  have hsz : H.size = qad b B (n + 1) := hR.2
  generalize hH1 : H.push ({ cls := cA 5, slots := Array.replicate cnt.toNatClampNeg .null, vm := .none } : Cell) = H1
  have z1 : H1.size = H.size + 1 := by rw [← hH1, Array.size_push]
  have o1 : ∀ q, q < H.size → H1[q]? = H[q]? := fun q hq => by rw [← hH1, Array.getElem?_push, if_neg (Nat.ne_of_lt hq)]
  rw [hsz]
  refine kk p l e R s m args below meth c D cA b B tc ts Qf C H1 locs (cells + 1) (slots + cnt.toNatClampNeg) ls (by omega) (by omega) (qR_push hR z1 o1 ?_) (qS_push hS z1 o1) hl9
  show H1[qad b B (n + 1)]? = some (vp_cell _ _)
  rw [← hsz, ← hH1, Array.getElem?_push_size, q_rep]
theorem EV_aast {r rv len t ci : Nat} {q : vw_C} {vs : List Value} {g : Nat → Option Nat} {i : Int32} (hd : decode y.2.1 pc = .ok (.aastore, 1)) (hr : 0 < r ∧ r ≤ n) (hrv : 0 < rv ∧ rv ≤ n) (hM : M r = .inl (t, len, .inr (.inr (.inr (.inr g))))) (hMv : M rv = .inr (ci, vs)) (hc : vwCl[ci]? = some q) (ht : ∀ cA : Nat → ClassId, (qT cA)[t]? = some (cA t, .object q.1)) (hin : vp_in i len)
    (kk : EV z k y (pc + 1) Lc st (qset M r (.inl (t, len, .inr (.inr (.inr (.inr (va_up g i.toNatClampNeg (some rv)))))))) n bc bs Q) : EV z k y pc Lc (.ref rv :: .int i :: .ref r :: st) M n bc bs Q := by
  intro p l e R s m args below meth c D cA b B tc ts Qf C H locs cells slots ls h1 h2 hR hS hl9
  have hD := qw_D b B C.2.2.2.2.2.2.2.2.1.1 cA M n
  have he := qw_here (qad b B) cA hr hM
  have hev := qw_here (qad b B) cA hrv hMv
  have hlt : i.toNatClampNeg < len := Nat.not_le.mp fun q => hin (Or.inr q)
  have h0 : ¬ i < 0 := fun q => hin (Or.inl q)
  obtain ⟨r', hr', cellV, g1, g2, g3, -⟩ := hR.1 (rv - 1) _ hev
  have hcls := (C.2.2.2.2.2.2.1.1.1 ci q hc).2
  obtain ⟨kA, comp, k1, k2, k3, -⟩ := (C.2.2.2.2.2.2.1.1.2 t _ (ht cA)).2
  have hcomp : comp = D.1 ci := Option.some.inj (k3.symm.trans hcls.1)
  subst hcomp
  obtain ⟨kC, hkC, -⟩ := hcls.2
  refine W.aast C.1 C.2.1 (hR.1 (r - 1) _ he) (fun q h => by cases h) (fun h => by cases h) k1 k2 rfl hkC ⟨h0, by show _ < (arrV _ _ _).slots.size; rw [arrV_size]; exact hlt⟩ g1 (fun q h => by rw [g3] at h; cases h) (by rw [g2]; exact hkC) (by rw [g2]; exact va_assign hcls) rfl rfl hd fun H1 e1 z1 oq => ?_
  have hP := hR.1.set (e := qe (qad b B) cA (.inl (t, len, .inr (.inr (.inr (.inr (va_up g i.toNatClampNeg (some rv)))))))) hD he (H1 := H1) ?_ oq
  · rw [qw_put (qad b B) cA hr] at hP
    exact kk p l e R s m args below meth c D cA b B tc ts Qf C H1 _ cells slots ls h1 h2 ⟨hP, z1.trans hR.2⟩ (hS.put z1 oq (hD.2 (r - 1) _ he)) hl9
  · show H1[qad b B r]? = some (vp_cell _ _)
    rw [e1]
    show some ((arrV _ _ (fun j => va_rf ((g j).map (qad b B)))).setSlot _ _) = some (arrV _ _ (fun j => va_rf ((va_up g i.toNatClampNeg (some rv) j).map (qad b B))))
    rw [arrV_store]
    congr 2
    funext j
    by_cases hq : j = i.toNatClampNeg
    · subst hq; simp [updV, va_up, va_rf]
    · simp [updV, va_up, hq]
/-- a row of ints into a row of such rows -/
theorem EV_aastA {r rv len lv : Nat} {fv : Nat → Int32} {g : Nat → Option Nat} {i : Int32} (hd : decode y.2.1 pc = .ok (.aastore, 1)) (hr : 0 < r ∧ r ≤ n) (hrv : 0 < rv ∧ rv ≤ n) (hM : M r = .inl (5, len, .inr (.inr (.inr (.inr g))))) (hMv : M rv = .inl (0, lv, .inl fv)) (hin : vp_in i len)
    (kk : EV z k y (pc + 1) Lc st (qset M r (.inl (5, len, .inr (.inr (.inr (.inr (va_up g i.toNatClampNeg (some rv)))))))) n bc bs Q) : EV z k y pc Lc (.ref rv :: .int i :: .ref r :: st) M n bc bs Q := by
  intro p l e R s m args below meth c D cA b B tc ts Qf C H locs cells slots ls h1 h2 hR hS hl9
  have hD := qw_D b B C.2.2.2.2.2.2.2.2.1.1 cA M n
  have he := qw_here (qad b B) cA hr hM
  have hev := hR.1 (rv - 1) _ (qw_here (qad b B) cA hrv hMv)
  have hlt : i.toNatClampNeg < len := Nat.not_le.mp fun q => hin (Or.inr q)
  have h0 : ¬ i < 0 := fun q => hin (Or.inl q)
  obtain ⟨kA, kC, k1, k2, k3⟩ := C.2.2.2.2.2.2.1.2
  refine W.aast C.1 C.2.1 (hR.1 (r - 1) _ he) (fun q h => by cases h) (fun h => by cases h) k1 k2 rfl k3 ⟨h0, by show _ < (arrV _ _ _).slots.size; rw [arrV_size]; exact hlt⟩ hev (fun q h => by cases h) k3 (q_self _ _) rfl rfl hd fun H1 e1 z1 oq => ?_
  have hP := hR.1.set (e := qe (qad b B) cA (.inl (5, len, .inr (.inr (.inr (.inr (va_up g i.toNatClampNeg (some rv)))))))) hD he (H1 := H1) ?_ oq
  · rw [qw_put (qad b B) cA hr] at hP
    exact kk p l e R s m args below meth c D cA b B tc ts Qf C H1 _ cells slots ls h1 h2 ⟨hP, z1.trans hR.2⟩ (hS.put z1 oq (hD.2 (r - 1) _ he)) hl9
  · show H1[qad b B r]? = some (vp_cell _ _)
    rw [e1]
    show some ((arrV _ _ (fun j => va_rf ((g j).map (qad b B)))).setSlot _ _) = some (arrV _ _ (fun j => va_rf ((va_up g i.toNatClampNeg (some rv) j).map (qad b B))))
    rw [arrV_store]
    congr 2
    funext j
    by_cases hq : j = i.toNatClampNeg
    · subst hq; simp [updV, va_up, va_rf]
    · simp [updV, va_up, hq]
end QNew
end
section
/-! ===== calls ===== -/
def qent : List Value → List Value
  | [] => []
  | v :: t => if v.category = 2 then v :: .null :: qent t else v :: qent t
theorem qent_mem (f : Nat → Nat) (m0 : Nat) : ∀ (as : List Value) (j : Nat) (q : Nat × Value), q ∈ qll f j (qent as ++ List.replicate m0 .null) → q ∈ lv_args j (as.map (qv f))
  | [], j, q, h => by
    exfalso
    simp only [qent, List.nil_append] at h
    induction m0 generalizing j with
    | zero => simp [qll] at h
    | succ m ih => exact ih (j + 1) h
  | v :: t, j, q, h => by
    by_cases hc : v.category = 2
    · have hn : v ≠ .null := fun e => by rw [e] at hc; cases hc
      simp only [qent, hc, if_true, List.cons_append] at h
      rw [qll_cons f j v _ hn] at h
      show q ∈ (j, qv f v) :: lv_args (if (qv f v).category = 2 then j + 2 else j + 1) (t.map (qv f))
      rw [qcat, if_pos hc]
      rcases List.mem_cons.mp h with h1 | h1
      · rw [h1]; exact List.mem_cons_self
      · exact List.mem_cons_of_mem _ (qent_mem f m0 t (j + 2) q h1)
    · simp only [qent, hc, if_false, List.cons_append] at h
      show q ∈ (j, qv f v) :: lv_args (if (qv f v).category = 2 then j + 2 else j + 1) (t.map (qv f))
      rw [qcat, if_neg hc]
      by_cases hn : v = .null
      · subst hn
        exact List.mem_cons_of_mem _ (qent_mem f m0 t (j + 1) q h)
      · rw [qll_cons f j v _ hn] at h
        rcases List.mem_cons.mp h with h1 | h1
        · rw [h1]; exact List.mem_cons_self
        · exact List.mem_cons_of_mem _ (qent_mem f m0 t (j + 1) q h1)
theorem qlen (f : Nat → Nat) (as : List Value) : (lg_sl (as.map (qv f))).length = (lg_sl as).length := by
  induction as with
  | nil => rfl
  | cons v t ih =>
    simp only [lg_sl, List.map_cons, List.flatMap_cons, List.length_append] at ih ⊢
    rw [ih, qcat]
    by_cases hc : v.category = 2 <;> simp [hc]
theorem CT_of {z : qZ} {k : Nat} {w : qY} {as : List Value} {M : qM} {n mc ms : Nat} {Q : qQ} (m0 : Nat) (hpl : plainName w.1.cls = true) (hlen : (lg_sl as).length ≤ w.2.2.1) (h : EV z k w 0 (qent as ++ List.replicate m0 .null) [] M n mc ms Q) : CT z k w as M n mc ms Q := by
  intro l D cA b B
  refine Met.ofW (cc := w.2.1) (maxL := w.2.2.1) (ret := w.2.2.2) (ws' := qTBL) hpl rfl ?_
  intro p e s m args below meth c s₁ Bd hml hv
  obtain ⟨rfl, hbB, hR, hK, hX⟩ := hv
  have hts := atoms_spec (ws := qws w) Bd.pre
  have hown : s.vm.findClass w.1.cls = some m.cls := findClass_of_methodNamed Bd.named
  have hl := lv_entry (as.map (qv (qad b B))) (n := w.2.2.1) (by rw [qlen]; exact hlen)
  rw [lg_entry_eq]
  generalize (lg_sl (as.map (qv (qad b B))) ++ List.replicate (w.2.2.1 - (lg_sl (as.map (qv (qad b B)))).length) Slot.unset).toArray = ls at hl ⊢
  refine h p l e (qrm k mc ms) s m _ below meth c D cA b B mc ms _ ⟨Bd.exec, Bd.bytes, hml, hown, (name_of_methodNamed Bd.named Bd.method).1, fun x hx => hts x (List.mem_cons_of_mem _ hx), hK, hX, hbB, ⟨Nat.le_refl _, Nat.le_refl _, Nat.le_refl _, Nat.le_refl _⟩, ?_⟩ s.heap [] 0 0 ls (Nat.zero_add _) (Nat.zero_add _) hR va_S.rf ?_
  · intro v M' n' H' locs' ls' pc' hQ hR' hS' hret
    have F : ∀ t : State, t.heap = H' → s.WarmedH t.vm → qPost D cA b B Q (as.map (qv (qad b B))).toArray s (.returned (v.map (qv (qad b B)))) t := fun t ht _ => ⟨⟨v, M', n', rfl, hQ, by rw [ht]; exact hR'⟩, hS'.F ht⟩
    cases v with
    | none => exact W.vret Bd.exec Bd.bytes (Bd.returns.trans hret.1) F hS'.2.2 hret.2 Bd.notSynchronized
    | some v =>
      cases v with
      | int x =>
        obtain ⟨⟨ty, g1, g2⟩, g3⟩ := hret
        exact W.zret Bd.exec Bd.bytes (Bd.returns.trans g1) g2 F hS'.2.2 g3 Bd.notSynchronized
      | long x => exact W.lret Bd.exec Bd.bytes (Bd.returns.trans hret.1) F hS'.2.2 hret.2 Bd.notSynchronized
      | double x => exact W.dret Bd.exec Bd.bytes (Bd.returns.trans hret.1) F hS'.2.2 hret.2 Bd.notSynchronized
      | _ => exact hret.elim
  · exact ⟨hl.1, hl.2.1, fun q hq => hl.2.2 q (qent_mem _ m0 as 0 q hq)⟩
theorem q_blind {z : qZ} {D : va_G} {cA : Nat → ClassId} {b B : Nat} {M : qM} {n : Nat} (av : List Value) : FrameBlind (va_Pc av (qPre z D cA b B M n)) := by
  intro a U g mk q
  obtain ⟨q0, q1, q2, q3, q4⟩ := q
  exact ⟨q0, q1, q2, qK.moved (u := U) (U := U.calling g mk a) (Vm.Alike.refl U.vm) q3, va_X.moved (u := U) (U := U.calling g mk a) (Vm.Alike.refl U.vm) q4⟩
theorem q_pre {z : qZ} {D : va_G} {cA : Nat → ClassId} {b B : Nat} {M : qM} {n : Nat} {s : State} {H : Heap} {locs : List Loc} (hbB : b < B ∧ B ≤ s.heap.size) (hK : qK D cA s) (hX : va_X b z.1 z.2 s s.heap) (hR : qR D cA b B M n H) (hS : va_S (fun q => B ≤ q) s.heap H locs) (U : State) (hU : U.heap = H) (hW : s.WarmedH U.vm) : qPre z D cA b B M n U := by
  refine ⟨⟨hbB.1, by rw [hU]; exact Nat.le_trans hbB.2 hS.1⟩, by rw [hU]; exact hR, hK.moved hW.alike, ?_⟩
  rw [hU]
  exact (hX.kept (hS.2.1 b (Nat.lt_of_lt_of_le hbB.1 hbB.2) (Nat.not_le.mpr hbB.1))).moved hW.alike
section QCall
variable {p : Program} {l : Launch} {e : Env} {R : Room} {s : State} {m : MethodId} {args : Array Value} {below : List Frame} {meth : Method} {c : Code} {H : Heap} {locs : List Loc} {cells slots : Nat} {Qf : State → Prop}
theorem q_call {pc : Nat} {ls : Array Slot} {rest st0 : List Value} {a : Array Value} {D : va_G} {cA : Nat → ClassId} {b B mc ms : Nat} {Q : qQ} (hr : va_Run p l e R s m args below meth c H locs cells slots mc ms (F0 m pc ls st0) rest (qPost D cA b B Q a) (fun q => B ≤ q)) (hS : va_S (fun q => B ≤ q) s.heap H locs)
    (kk : ∀ (v : Option Value) (M' : qM) (n' : Nat) (H1 : Heap) (locs1 : List Loc), Q v M' n' → qR D cA b B M' n' H1 → va_S (fun q => B ≤ q) s.heap H1 locs1 → W p l e R s m args below meth c H1 locs1 (cells + mc) (slots + ms) Qf (F0 m (pc + 3) ls ((v.map (qv (qad b B))).toList ++ rest))) : W p l e R s m args below meth c H locs cells slots Qf (F0 m pc ls st0) := by
  intro T hT X
  obtain ⟨v, st₀, t, T', L, h0, X', hL, e1, e2, ⟨⟨v', M', n', hv, hq, hR⟩, hz, hk⟩, st⟩ := hr T hT X
  cases hv
  rw [h0] at hz hk
  obtain ⟨t2, a1, b1⟩ := kk v' M' n' T'.heap (locs ++ L) hq (by rw [e1]; exact hR)
    ⟨Nat.le_trans hS.1 (by rw [e1]; exact hz), fun q h1 h2 => by rw [e1, hk q (Nat.lt_of_lt_of_le h1 hS.1) h2]; exact hS.2.1 q h1 h2, fun q hq => by
      rcases List.mem_append.mp hq with h | h
      · exact hS.2.2 q h
      · exact hL q h⟩ T' rfl X'
  exact ⟨t2, st t2 a1, b1⟩
end QCall
def qLM (own : String) (idx : Nat) (w : qY) : Prop := Cond.methodLink own idx w.1 ∈ qTBL ∨ ∃ host, Cond.methodLinkNest own idx w.1 host ∈ qTBL
def qMf (w : qY) (na : Nat) : Prop := Cond.code w.1 w.2.1 w.2.2.1 w.2.2.2 ∈ qTBL ∧ Cond.initialized w.1.cls ∈ qTBL ∧ (w.1.cls ≠ "java/lang/invoke/MethodHandle" ∧ w.1.cls ≠ "java/lang/invoke/VarHandle") ∧ (parseMethodDescriptor w.1.desc).map (fun d => d.parameters.length) = some na ∧ w.2.2.1 ≤ 21
def qMv (w : qY) : Prop := Cond.instanceMethod w.1 ∈ qTBL ∧ Cond.selects w.1.cls w.1 w.1 ∈ qTBL
def qMi (w : qY) : Prop := Cond.instanceMethod w.1 ∈ qTBL ∧ w.1.name = "<init>" ∧ w.2.2.2 = none
theorem q_cats (f : Nat → Nat) (l : List Value) : ((l.map (qv f)).map fun v => v.category).sum = (l.map fun v => v.category).sum := by
  rw [List.map_map]
  congr 1
  exact List.map_congr_left fun v _ => qcat f v
section QCalls
variable {z : qZ} {k : Nat} {y w : qY} {pc : Nat} {Lc st st0 : List Value} {M : qM} {n bc bs mc ms : Nat} {Q Q' : qQ}
theorem EV_callV {idx na r ci : Nat} {T : u_T} {N : Nat} {fs As : List Value} (hd : decode y.2.1 pc = .ok (.invokevirtual idx, 3)) (hl : qLM y.1.cls idx w) (hf : qMf w na) (hv : qMv w) (hr : 0 < r ∧ r ≤ n) (hM : M r = .inr (ci, fs)) (hc : vwCl[ci]? = some (w.1.cls, T, N)) (hct : CT z k w (.ref r :: As) M n mc ms Q') (hst : st0 = As.reverse ++ .ref r :: st) (hn : As.length = na) (hcat : (st.map fun v => v.category).sum ≤ 8)
    (kk : ∀ (v : Option Value) (M' : qM) (n' : Nat), Q' v M' n' → EV z (k + 1) y (pc + 3) Lc (v.toList ++ st) M' n' bc bs Q) : EV z (k + 1) y pc Lc st0 M n (bc + mc) (bs + ms) Q := by
  intro p l e R s m args below meth c D cA b B tc ts Qf C H locs cells slots ls h1 h2 hR hS hl9
  have hb1 := C.2.2.2.2.2.2.2.2.2.1
  obtain ⟨f1, f2, f3, f4, f5⟩ := hf
  have hts := C.2.2.2.2.2.1
  have hpay := qpay hts
  have hbb : ∀ x ∈ qws w, ∀ (a' : Array Value) (U : State), s.WarmedH U.vm → x.before a' U = true := fun x hx => by
    rcases List.mem_cons.mp hx with h | h
    · rw [h]; exact hpay _ f1
    · exact hpay x h
  have hpre : PreV s H w.1.cls (qad b B r) (va_Pc ((Value.ref r :: As).map (qv (qad b B))) (qPre z D cA b B M n)) (As.map (qv (qad b B))) := ⟨q_blind _, va_recv C.2.2.2.2.2.2.1.1 hR.1 hc (qw_here (qad b B) cA hr hM), fun U hU hW => ⟨rfl, q_pre C.2.2.2.2.2.2.2.2.1 C.2.2.2.2.2.2.1 C.2.2.2.2.2.2.2.1 hR hS U hU hW⟩⟩
  have hlen : ∀ sig, parseMethodDescriptor w.1.desc = some sig → na = sig.parameters.length := fun sig h => by rw [h] at f4; exact (Option.some.inj f4).symm
  have hstk : (F0 m pc ls (st0.map (qv (qad b B)))).stack = (As.map (qv (qad b B))).reverse ++ .ref (qad b B r) :: st.map (qv (qad b B)) := by
    rw [hst]
    show List.map _ _ = _
    rw [List.map_append, List.map_reverse]; rfl
  have hroom : 2 * (F0 m pc ls (st0.map (qv (qad b B)))).monitorRoom + ((st.map (qv (qad b B))).map fun v => v.category).sum ≤ 8 := lv_room (by rw [q_cats]; exact hcat)
  refine q_call (rest := st.map (qv (qad b B))) (mc := mc) (ms := ms) (a := (Value.ref (qad b B r) :: As.map (qv (qad b B))).toArray) (D := D) (cA := cA) (b := b) (Q := Q') ?_ hS (fun v M' n' H1 locs1 hq hR1 hS1 => ?_)
  · rcases hl with hl | ⟨host, hl⟩
    · exact va_runV (Ts := qTBL) (own := y.1.cls) ⟨C.1, C.2.1, C.2.2.1, C.2.2.2.1, hts⟩ (hct l D cA b B) ⟨⟨rfl, rfl, by show k + 1 ≤ _; omega, by show 8 + (w.2.2.1 + 11) + 40 * k ≤ _; omega, hbb, List.mem_cons_self, hts _ f1, hts _ f2, f3, hlen, hts _ hl⟩, hts _ hv.1, hts _ hv.2⟩ hpre rfl (by rw [List.length_map]; exact hn) hl9.1 hstk hroom hd ⟨by omega, by omega⟩
    · exact va_runVN (Ts := qTBL) (own := y.1.cls) ⟨C.1, C.2.1, C.2.2.1, C.2.2.2.1, hts⟩ (hct l D cA b B) ⟨⟨⟨rfl, rfl, by show k + 1 ≤ _; omega, by show 8 + (w.2.2.1 + 11) + 40 * k ≤ _; omega, hbb, List.mem_cons_self⟩, hts _ f1, hts _ f2, f3, hlen, hts _ hl⟩, hts _ hv.1, hts _ hv.2⟩ hpre rfl (by rw [List.length_map]; exact hn) hl9.1 hstk hroom hd ⟨by omega, by omega⟩
  · have K := kk v M' n' hq p l e R s m args below meth c D cA b B tc ts Qf C H1 locs1 (cells + mc) (slots + ms) ls (by omega) (by omega) hR1 hS1 hl9
    rw [List.map_append] at K
    cases v <;> exact K
theorem EV_callS {idx na : Nat} {As : List Value} (hd : decode y.2.1 pc = .ok (.invokestatic idx, 3)) (hl : qLM y.1.cls idx w) (hf : qMf w na) (hv : Cond.static w.1 ∈ qTBL) (hct : CT z k w As M n mc ms Q') (hst : st0 = As.reverse ++ st) (hn : As.length = na) (hcat : (st.map fun v => v.category).sum ≤ 8)
    (kk : ∀ (v : Option Value) (M' : qM) (n' : Nat), Q' v M' n' → EV z (k + 1) y (pc + 3) Lc (v.toList ++ st) M' n' bc bs Q) : EV z (k + 1) y pc Lc st0 M n (bc + mc) (bs + ms) Q := by
  intro p l e R s m args below meth c D cA b B tc ts Qf C H locs cells slots ls h1 h2 hR hS hl9
  have hb1 := C.2.2.2.2.2.2.2.2.2.1
  obtain ⟨f1, f2, f3, f4, f5⟩ := hf
  have hts := C.2.2.2.2.2.1
  have hpay := qpay hts
  have hbb : ∀ x ∈ qws w, ∀ (a' : Array Value) (U : State), s.WarmedH U.vm → x.before a' U = true := fun x hx => by
    rcases List.mem_cons.mp hx with h | h
    · rw [h]; exact hpay _ f1
    · exact hpay x h
  have hpre : PreS s H (va_Pc (As.map (qv (qad b B))) (qPre z D cA b B M n)) (As.map (qv (qad b B))) := ⟨q_blind _, fun U hU hW => ⟨rfl, q_pre C.2.2.2.2.2.2.2.2.1 C.2.2.2.2.2.2.1 C.2.2.2.2.2.2.2.1 hR hS U hU hW⟩⟩
  have hlen : ∀ sig, parseMethodDescriptor w.1.desc = some sig → na = sig.parameters.length := fun sig h => by rw [h] at f4; exact (Option.some.inj f4).symm
  have hstk : (F0 m pc ls (st0.map (qv (qad b B)))).stack = (As.map (qv (qad b B))).reverse ++ st.map (qv (qad b B)) := by
    rw [hst]
    show List.map _ _ = _
    rw [List.map_append, List.map_reverse]
  have hroom : 2 * (F0 m pc ls (st0.map (qv (qad b B)))).monitorRoom + ((st.map (qv (qad b B))).map fun v => v.category).sum ≤ 8 := lv_room (by rw [q_cats]; exact hcat)
  refine q_call (rest := st.map (qv (qad b B))) (mc := mc) (ms := ms) (a := (As.map (qv (qad b B))).toArray) (D := D) (cA := cA) (b := b) (Q := Q') ?_ hS (fun v M' n' H1 locs1 hq hR1 hS1 => ?_)
  · rcases hl with hl | ⟨host, hl⟩
    · exact va_runS (Ts := qTBL) (own := y.1.cls) ⟨C.1, C.2.1, C.2.2.1, C.2.2.2.1, hts⟩ (hct l D cA b B) ⟨⟨rfl, rfl, by show k + 1 ≤ _; omega, by show 8 + (w.2.2.1 + 11) + 40 * k ≤ _; omega, hbb, List.mem_cons_self, hts _ f1, hts _ f2, f3, hlen, hts _ hl⟩, hts _ hv⟩ hpre rfl (by rw [List.length_map]; exact hn) hl9.1 hstk hroom hd ⟨by omega, by omega⟩
    · exact va_runSN (Ts := qTBL) (own := y.1.cls) ⟨C.1, C.2.1, C.2.2.1, C.2.2.2.1, hts⟩ (hct l D cA b B) ⟨⟨⟨rfl, rfl, by show k + 1 ≤ _; omega, by show 8 + (w.2.2.1 + 11) + 40 * k ≤ _; omega, hbb, List.mem_cons_self⟩, hts _ f1, hts _ f2, f3, hlen, hts _ hl⟩, hts _ hv, trivial⟩ hpre rfl (by rw [List.length_map]; exact hn) hl9.1 hstk hroom hd ⟨by omega, by omega⟩
  · have K := kk v M' n' hq p l e R s m args below meth c D cA b B tc ts Qf C H1 locs1 (cells + mc) (slots + ms) ls (by omega) (by omega) hR1 hS1 hl9
    rw [List.map_append] at K
    cases v <;> exact K
theorem EV_callI {idx na r : Nat} {As : List Value} (hd : decode y.2.1 pc = .ok (.invokespecial idx, 3)) (hl : qLM y.1.cls idx w) (hf : qMf w na) (hv : qMi w) (hct : CT z k w (.ref r :: As) M n mc ms Q') (hst : st0 = As.reverse ++ .ref r :: st) (hn : As.length = na) (hcat : (st.map fun v => v.category).sum ≤ 8)
    (kk : ∀ (v : Option Value) (M' : qM) (n' : Nat), Q' v M' n' → EV z (k + 1) y (pc + 3) Lc (v.toList ++ st) M' n' bc bs Q) : EV z (k + 1) y pc Lc st0 M n (bc + mc) (bs + ms) Q := by
  intro p l e R s m args below meth c D cA b B tc ts Qf C H locs cells slots ls h1 h2 hR hS hl9
  have hb1 := C.2.2.2.2.2.2.2.2.2.1
  obtain ⟨wn, wb, wl, wr⟩ := w
  obtain ⟨v1, v2, v3⟩ := hv
  cases v3
  obtain ⟨f1, f2, f3, f4, f5⟩ := hf
  have hts := C.2.2.2.2.2.1
  have hpay := qpay hts
  have hbb : ∀ x ∈ qws (wn, wb, wl, none), ∀ (a' : Array Value) (U : State), s.WarmedH U.vm → x.before a' U = true := fun x hx => by
    rcases List.mem_cons.mp hx with h | h
    · rw [h]; exact hpay _ f1
    · exact hpay x h
  have hpre : PreS s H (va_Pc ((Value.ref r :: As).map (qv (qad b B))) (qPre z D cA b B M n)) (.ref (qad b B r) :: As.map (qv (qad b B))) := ⟨q_blind _, fun U hU hW => ⟨rfl, q_pre C.2.2.2.2.2.2.2.2.1 C.2.2.2.2.2.2.1 C.2.2.2.2.2.2.2.1 hR hS U hU hW⟩⟩
  have hlen : ∀ sig, parseMethodDescriptor wn.desc = some sig → na = sig.parameters.length := fun sig h => by
    have f4' : (parseMethodDescriptor wn.desc).map (fun d => d.parameters.length) = some na := f4
    rw [h] at f4'; exact (Option.some.inj f4').symm
  have hstk : (F0 m pc ls (st0.map (qv (qad b B)))).stack = (As.map (qv (qad b B))).reverse ++ .ref (qad b B r) :: st.map (qv (qad b B)) := by
    rw [hst]
    show List.map _ _ = _
    rw [List.map_append, List.map_reverse]; rfl
  have hroom : 2 * (F0 m pc ls (st0.map (qv (qad b B)))).monitorRoom + ((st.map (qv (qad b B))).map fun v => v.category).sum ≤ 8 := lv_room (by rw [q_cats]; exact hcat)
  have f5' : wl ≤ 21 := f5
  refine q_call (rest := st.map (qv (qad b B))) (mc := mc) (ms := ms) (a := (Value.ref (qad b B r) :: As.map (qv (qad b B))).toArray) (D := D) (cA := cA) (b := b) (Q := Q') ?_ hS (fun v M' n' H1 locs1 hq hR1 hS1 => ?_)
  · rcases hl with hl | ⟨host, hl⟩
    · exact va_runI (Ts := qTBL) (own := y.1.cls) ⟨C.1, C.2.1, C.2.2.1, C.2.2.2.1, hts⟩ (hct l D cA b B) ⟨⟨rfl, rfl, by show k + 1 ≤ _; omega, by show 8 + (wl + 11) + 40 * k ≤ _; omega, hbb, List.mem_cons_self, hts _ f1, hts _ f2, f3, hlen, hts _ hl⟩, v2, hts _ v1⟩ hpre rfl (by rw [List.length_map]; exact hn) hl9.1 hstk hroom hd ⟨by omega, by omega⟩
    · exact va_runIN (Ts := qTBL) (own := y.1.cls) ⟨C.1, C.2.1, C.2.2.1, C.2.2.2.1, hts⟩ (hct l D cA b B) ⟨⟨⟨rfl, rfl, by show k + 1 ≤ _; omega, by show 8 + (wl + 11) + 40 * k ≤ _; omega, hbb, List.mem_cons_self⟩, hts _ f1, hts _ f2, f3, hlen, hts _ hl⟩, v2, hts _ v1⟩ hpre rfl (by rw [List.length_map]; exact hn) hl9.1 hstk hroom hd ⟨by omega, by omega⟩
  · have K := kk v M' n' hq p l e R s m args below meth c D cA b B tc ts Qf C H1 locs1 (cells + mc) (slots + ms) ls (by omega) (by omega) hR1 hS1 hl9
    rw [List.map_append] at K
    cases v <;> exact K
/-- Object.<init> -/
theorem EV_objInit {idx r : Nat} (hd : decode y.2.1 pc = .ok (.invokespecial idx, 3)) (hl : Cond.methodLink y.1.cls idx Lib.objectInit ∈ qTBL) (hi : Cond.instanceMethod Lib.objectInit ∈ qTBL) (hc : Cond.code Lib.objectInit ⟨#[0xb1]⟩ 1 none ∈ qTBL) (hcat : (st.map fun v => v.category).sum ≤ 8)
    (kk : EV z (k + 1) y (pc + 3) Lc st M n bc bs Q) : EV z (k + 1) y pc Lc (.ref r :: st) M n bc bs Q := by
  intro p l e R s m args below meth c D cA b B tc ts Qf C H locs cells slots ls h1 h2 hR hS hl9
  have hb1 := C.2.2.2.2.2.2.2.2.2.1
  have hts := C.2.2.2.2.2.1
  refine W.objInit C.1 C.2.1 C.2.2.2.1 (hts _ hl) (hts _ hi) (hts _ hc) rfl (hl9.1.trans C.2.2.1.symm) rfl hd (by omega) ?_ (kk p l e R s m args below meth c D cA b B tc ts Qf C H locs cells slots ls h1 h2 hR hS hl9)
  have h9 : 2 * (F0 m pc ls ((Value.ref r :: st).map (qv (qad b B)))).monitorRoom + ((st.map (qv (qad b B))).map fun v => v.category).sum ≤ 8 := lv_room (by rw [q_cats]; exact hcat)
  omega
theorem EV_max {idx : Nat} {x x0 : Int32} (hd : decode y.2.1 pc = .ok (.invokestatic idx, 3)) (hl : Cond.methodLink y.1.cls idx Lib.Math.max.name ∈ qTBL) (h3 : Cond.static Lib.Math.max.name ∈ qTBL) (h4 : Cond.initialized "java/lang/Math" ∈ qTBL) (h5 : Cond.code Lib.Math.max.name Lib.Math.max.code 2 (some .int) ∈ qTBL) (hcat : (st.map fun v => v.category).sum ≤ 8)
    (kk : EV z (k + 1) y (pc + 3) Lc (.int (if x < x0 then x0 else x) :: st) M n bc bs Q) : EV z (k + 1) y pc Lc (.int x0 :: .int x :: st) M n bc bs Q := by
  intro p l e R s m args below meth c D cA b B tc ts Qf C H locs cells slots ls h1 h2 hR hS hl9
  have hb1 := C.2.2.2.2.2.2.2.2.2.1
  have hts := C.2.2.2.2.2.1
  have h9 : ((st.map (qv (qad b B))).map fun v => v.category).sum ≤ 8 := by rw [q_cats]; exact hcat
  exact va_mmax C.1 C.2.1 (C.2.2.1.trans hl9.1.symm) C.2.2.2.1 (hts _ hl) (hts _ h3) (hts _ h4) (hts _ h5) (by omega) (by omega) (by omega) (by omega) hd (kk p l e R s m args below meth c D cA b B tc ts Qf C H locs cells slots ls h1 h2 hR hS hl9)
theorem EV_min {idx : Nat} {x x0 : Int32} (hd : decode y.2.1 pc = .ok (.invokestatic idx, 3)) (hl : Cond.methodLink y.1.cls idx Lib.Math.min.name ∈ qTBL) (h3 : Cond.static Lib.Math.min.name ∈ qTBL) (h4 : Cond.initialized "java/lang/Math" ∈ qTBL) (h5 : Cond.code Lib.Math.min.name Lib.Math.min.code 2 (some .int) ∈ qTBL) (hcat : (st.map fun v => v.category).sum ≤ 8)
    (kk : EV z (k + 1) y (pc + 3) Lc (.int (if x0 < x then x0 else x) :: st) M n bc bs Q) : EV z (k + 1) y pc Lc (.int x0 :: .int x :: st) M n bc bs Q := by
  intro p l e R s m args below meth c D cA b B tc ts Qf C H locs cells slots ls h1 h2 hR hS hl9
  have hb1 := C.2.2.2.2.2.2.2.2.2.1
  have hts := C.2.2.2.2.2.1
  have h9 : ((st.map (qv (qad b B))).map fun v => v.category).sum ≤ 8 := by rw [q_cats]; exact hcat
  exact va_mmin C.1 C.2.1 (C.2.2.1.trans hl9.1.symm) C.2.2.2.1 (hts _ hl) (hts _ h3) (hts _ h4) (hts _ h5) (by omega) (by omega) (by omega) (by omega) hd (kk p l e R s m args below meth c D cA b B tc ts Qf C H locs cells slots ls h1 h2 hR hS hl9)
theorem EV_abs {idx : Nat} {x : Int32} (hd : decode y.2.1 pc = .ok (.invokestatic idx, 3)) (hl : Cond.methodLink y.1.cls idx Lib.Math.abs.name ∈ qTBL) (h3 : Cond.static Lib.Math.abs.name ∈ qTBL) (h4 : Cond.initialized "java/lang/Math" ∈ qTBL) (h5 : Cond.code Lib.Math.abs.name Lib.Math.abs.code 1 (some .int) ∈ qTBL) (hcat : (st.map fun v => v.category).sum ≤ 8)
    (kk : EV z (k + 1) y (pc + 3) Lc (.int (if 0 ≤ x then x else 0 - x) :: st) M n bc bs Q) : EV z (k + 1) y pc Lc (.int x :: st) M n bc bs Q := by
  intro p l e R s m args below meth c D cA b B tc ts Qf C H locs cells slots ls h1 h2 hR hS hl9
  have hb1 := C.2.2.2.2.2.2.2.2.2.1
  have hts := C.2.2.2.2.2.1
  have h9 : ((st.map (qv (qad b B))).map fun v => v.category).sum ≤ 8 := by rw [q_cats]; exact hcat
  exact va_mabs C.1 C.2.1 (C.2.2.1.trans hl9.1.symm) C.2.2.2.1 (hts _ hl) (hts _ h3) (hts _ h4) (hts _ h5) (by omega) (by omega) (by omega) (by omega) hd (kk p l e R s m args below meth c D cA b B tc ts Qf C H locs cells slots ls h1 h2 hR hS hl9)
/-- System.arraycopy: the first len ints of a row over those of another one as long -/
theorem EV_acopy {idx r0 r1 len : Nat} {f g : Nat → Int32} {cn : Int32} (hd : decode y.2.1 pc = .ok (.invokestatic idx, 3)) (hl : Cond.methodLink y.1.cls idx arraycopyName ∈ qTBL) (hnat : Cond.native arraycopyName ∈ qTBL) (h3 : Cond.static arraycopyName ∈ qTBL) (h4 : Cond.initialized "java/lang/System" ∈ qTBL) (hr0 : 0 < r0 ∧ r0 ≤ n) (hr1 : 0 < r1 ∧ r1 ≤ n) (hM0 : M r0 = .inl (0, len, .inl f)) (hM1 : M r1 = .inl (0, len, .inl g)) (hcn : cn.toInt = (len : Int)) (hcat : (st.map fun v => v.category).sum ≤ 8)
    (kk : EV z (k + 1) y (pc + 3) Lc st (qset M r1 (.inl (0, len, .inl (va_cpy f g 0 0 len)))) n bc bs Q) : EV z (k + 1) y pc Lc (.int cn :: .int 0 :: .ref r1 :: .int 0 :: .ref r0 :: st) M n bc bs Q := by
  intro p l e R s m args below meth c D cA b B tc ts Qf C H locs cells slots ls h1 h2 hR hS hl9
  have hb1 := C.2.2.2.2.2.2.2.2.2.1
  have hts := C.2.2.2.2.2.1
  have hK := C.2.2.2.2.2.2.1.1
  have h9 : ((st.map (qv (qad b B))).map fun v => v.category).sum ≤ 8 := by rw [q_cats]; exact hcat
  have hnw : nativeFrameWords "java/lang/System" "arraycopy" 5 + 11 ≤ 32 := by decide +kernel
  have hD := qw_D b B C.2.2.2.2.2.2.2.2.1.1 cA M n
  have he0 := qw_here (qad b B) cA hr0 hM0
  have he1 := qw_here (qad b B) cA hr1 hM1
  have c0 : H[qad b B r0]? = some (vp_cell (cA 0) (len, .inl f)) := hR.1 (r0 - 1) _ he0
  have c1 : H[qad b B r1]? = some (vp_cell (cA 0) (len, .inl g)) := hR.1 (r1 - 1) _ he1
  have hcl : cn.toNatClampNeg = len := by show cn.toInt.toNat = len; omega
  have hn0 : ¬ cn < 0 := fun hh => by
    have := Int32.lt_iff_toInt_lt.mp hh
    simp at this
    omega
  obtain ⟨-, k0, hk0, cm0, hkk0⟩ := (hK.2 0 _ rfl).1 len (fun j => .int (f j))
  obtain ⟨-, k1, hk1, cm1, hkk1⟩ := (hK.2 0 _ rfl).1 len (fun j => .int (g j))
  intro U hU X
  obtain ⟨vm', X', step⟩ := X.arraycopy C.1 C.2.2.2.1 (hts _ hl) (hts _ hnat) (hts _ h3) (hts _ h4) (src := qad b B r0) (dst := qad b B r1) (cs := vp_cell (cA 0) (len, .inl f)) (cd := vp_cell (cA 0) (len, .inl g)) (srcPos := 0) (destPos := 0) (n := cn) (by rw [hU]; exact c0) (by rw [hU]; exact c1)
    (fun _ h => by cases h) (fun _ h => by cases h) (fun h => by cases h) (fun h => by cases h) hk0 hk1 hkk0 hkk1 (by simp [refKind]) (by decide) (by decide) hn0
    (by rw [hcn]; show ¬ _ > ((arrV (cA 0) len (fun j => Value.int (f j))).slots.size : Int); rw [arrV_size]; simp)
    (by rw [hcn]; show ¬ _ > ((arrV (cA 0) len (fun j => Value.int (g j))).slots.size : Int); rw [arrV_size]; simp)
    (fun vm₁ _ i hi => by
      have hi' : i < len := by rw [← hcl]; exact hi
      have e : (vp_cell (cA 0) (len, .inl f)).slots.getD ((0 : Int32).toNatClampNeg + i) .null = .int (f i) := by
        rw [show (0 : Int32).toNatClampNeg + i = i from Nat.zero_add i, Array.getD_eq_getD_getElem?, show (vp_cell (cA 0) (len, .inl f)).slots[i]? = some (.int (f i)) from arrV_read _ (fun j => Value.int (f j)) hi']
        rfl
      exact ⟨by rw [e]; rfl, by rw [e]; exact trivial⟩)
    (g := F0 m pc ls (.int cn :: .int 0 :: .ref (qad b B r1) :: .int 0 :: .ref (qad b B r0) :: st.map (qv (qad b B)))) rfl (hl9.1.trans C.2.2.1.symm) (rest := st.map (qv (qad b B))) rfl (by rw [C.2.1]; exact hd) (by omega) (by show 2 * 0 + _ + _ ≤ _; omega)
  have e1 : copied (vp_cell (cA 0) (len, .inl f)) (vp_cell (cA 0) (len, .inl g)) 0 0 cn = vp_cell (cA 0) (len, .inl (va_cpy f g 0 0 len)) := by
    have e2 := va_copied (fun z => Value.int z) (cA 0) (cA 0) (n0 := len) (n1 := len) (sp := (0 : Int32).toNatClampNeg) (dp := (0 : Int32).toNatClampNeg) (n := cn.toNatClampNeg) f g (by show 0 + cn.toNatClampNeg ≤ len; omega)
    refine (show copied _ _ _ _ _ = _ from e2).trans ?_
    rw [hcl]
    rfl
  rw [e1] at X' step
  have hl1 : qad b B r1 < H.size := (Array.getElem?_eq_some_iff.mp c1).1
  have oq : ∀ q : Nat, q ≠ qad b B r1 → (H.setIfInBounds (qad b B r1) (vp_cell (cA 0) (len, .inl (va_cpy f g 0 0 len))))[q]? = H[q]? := fun q hq => by simp [Array.getElem?_setIfInBounds, Ne.symm hq]
  have hP := hR.1.set (e := qe (qad b B) cA (.inl (0, len, .inl (va_cpy f g 0 0 len)))) hD he1 (H1 := H.setIfInBounds (qad b B r1) (vp_cell (cA 0) (len, .inl (va_cpy f g 0 0 len)))) (by show (H.setIfInBounds _ _)[qad b B r1]? = some _; simp [Array.getElem?_setIfInBounds, hl1]; rfl) oq
  rw [qw_put (qad b B) cA hr1] at hP
  obtain ⟨t, a1, b1⟩ := kk p l e R s m args below meth c D cA b B tc ts Qf C (H.setIfInBounds (qad b B r1) (vp_cell (cA 0) (len, .inl (va_cpy f g 0 0 len)))) _ cells slots ls h1 h2 ⟨hP, by rw [Array.size_setIfInBounds]; exact hR.2⟩ ⟨by rw [Array.size_setIfInBounds]; exact hS.1, fun q g1 g2 => by
      rw [oq q (fun e => g2 (by rw [e]; exact hD.2 (r1 - 1) _ he1))]
      exact hS.2.1 q g1 g2, fun q hq => by
      rcases List.mem_append.mp hq with h | h
      · exact hS.2.2 q h
      · obtain ⟨z, -, hz⟩ := List.mem_map.mp h
        rw [← hz]
        exact hD.2 (r1 - 1) _ he1⟩ hl9 _ (by rw [← hU]; rfl) X'
  exact ⟨t, step t a1, b1⟩
end QCalls
end
section
theorem qmem {w : Cond} (P : Nat) (h : lw_tbl[P]? = some w) (g : qgood w = true) : w ∈ qTBL := List.mem_filter.mpr ⟨List.mem_of_getElem? h, g⟩
theorem qin_of {ws : List Cond} (ps : List Nat) (hp : ws = ps.filterMap (fun i => lw_tbl[i]?)) (h : ws.all qgood = true) : ∀ w ∈ ws, w ∈ qTBL := by
  intro w hw
  have h1 := List.all_eq_true.mp h w hw
  rw [hp] at hw
  obtain ⟨i, -, hi⟩ := List.mem_filterMap.mp hw
  exact qmem i hi h1
theorem qm0 {w : Cond} (P : Nat) (h : (k2_sels lw_privs)[P]? = some w) (g : qgood w = true) : w ∈ qTBL := List.mem_filter.mpr ⟨List.mem_append_left _ (List.mem_of_getElem? h), g⟩
theorem qm1 {w : Cond} (P : Nat) (h : tables_1_1[P]? = some w) (g : qgood w = true) : w ∈ qTBL := List.mem_filter.mpr ⟨List.mem_append_right _ (List.mem_append_left _ (List.mem_of_getElem? h)), g⟩
theorem qm2 {w : Cond} (P : Nat) (h : tables_1_2[P]? = some w) (g : qgood w = true) : w ∈ qTBL := List.mem_filter.mpr ⟨List.mem_append_right _ (List.mem_append_right _ (List.mem_append_left _ (List.mem_of_getElem? h))), g⟩
theorem qm3 {w : Cond} (P : Nat) (h : tables_1_3[P]? = some w) (g : qgood w = true) : w ∈ qTBL := List.mem_filter.mpr ⟨List.mem_append_right _ (List.mem_append_right _ (List.mem_append_right _ (List.mem_append_left _ (List.mem_of_getElem? h)))), g⟩
theorem qm4 {w : Cond} (P : Nat) (h : tables_1_4[P]? = some w) (g : qgood w = true) : w ∈ qTBL := List.mem_filter.mpr ⟨List.mem_append_right _ (List.mem_append_right _ (List.mem_append_right _ (List.mem_append_right _ (List.mem_of_getElem? h)))), g⟩
theorem qcok0 : qcok 0 := by
  intro C T N h
  cases h
  exact ⟨qin_of [210, 212, 214, 216, 218, 220, 222, 224, 226, 228, 230, 232] (by decide +kernel) (by decide +kernel), ⟨tyX0, tyX0_ok⟩, nmX0⟩
theorem qcok1 : qcok 1 := by
  intro C T N h
  cases h
  exact ⟨qin_of [273, 275, 277, 279] (by decide +kernel) (by decide +kernel), ⟨tyX1, tyX1_ok⟩, nmX1⟩
theorem qcok2 : qcok 2 := by
  intro C T N h
  cases h
  exact ⟨qin_of [137, 139, 141, 143, 145, 147, 149, 151, 153] (by decide +kernel) (by decide +kernel), ⟨tyX2, tyX2_ok⟩, nmX2⟩
theorem qcok3 : qcok 3 := by
  intro C T N h
  cases h
  exact ⟨qin_of [332, 334, 336] (by decide +kernel) (by decide +kernel), ⟨tyX3, tyX3_ok⟩, nmX3⟩
theorem qcok4 : qcok 4 := by
  intro C T N h
  cases h
  exact ⟨qin_of [254, 256] (by decide +kernel) (by decide +kernel), ⟨tyX4, tyX4_ok⟩, nmX4⟩
theorem qcok5 : qcok 5 := by
  intro C T N h
  cases h
  exact ⟨qin_of [348, 350, 352] (by decide +kernel) (by decide +kernel), ⟨tyX5, tyX5_ok⟩, nmX5⟩
theorem qcok6 : qcok 6 := by
  intro C T N h
  cases h
  exact ⟨qin_of [302, 304, 306, 308, 310, 312, 314, 316, 318] (by decide +kernel) (by decide +kernel), ⟨tyX6, tyX6_ok⟩, nmX6⟩
theorem qcok7 : qcok 7 := by
  intro C T N h
  cases h
  exact ⟨qin_of [105, 107, 109, 111] (by decide +kernel) (by decide +kernel), ⟨tyX7, tyX7_ok⟩, nmX7⟩
theorem qcok8 : qcok 8 := by
  intro C T N h
  cases h
  exact ⟨qin_of [361, 363, 365, 367, 369, 371] (by decide +kernel) (by decide +kernel), ⟨tyX8, tyX8_ok⟩, nmX8⟩
theorem fkX7_9 : qLK RX7 9 7 0 .int false := ⟨RX7, TX7, 4, rfl, (by decide +kernel), (by decide +kernel), (by decide +kernel), qcok7, Or.inl (qm1 43 (by decide +kernel) (by decide +kernel))⟩
theorem fkX2_45 : qLK RX2 45 7 0 .int false := ⟨RX7, TX7, 4, rfl, (by decide +kernel), (by decide +kernel), (by decide +kernel), qcok7, Or.inr ⟨"LowAir", qm1 44 (by decide +kernel) (by decide +kernel)⟩⟩
theorem fkX7_18 : qLK RX7 18 7 1 .int false := ⟨RX7, TX7, 4, rfl, (by decide +kernel), (by decide +kernel), (by decide +kernel), qcok7, Or.inl (qm1 45 (by decide +kernel) (by decide +kernel))⟩
theorem fkX2_48 : qLK RX2 48 7 1 .int false := ⟨RX7, TX7, 4, rfl, (by decide +kernel), (by decide +kernel), (by decide +kernel), qcok7, Or.inr ⟨"LowAir", qm1 46 (by decide +kernel) (by decide +kernel)⟩⟩
theorem fkX7_21 : qLK RX7 21 7 2 .int false := ⟨RX7, TX7, 4, rfl, (by decide +kernel), (by decide +kernel), (by decide +kernel), qcok7, Or.inl (qm1 47 (by decide +kernel) (by decide +kernel))⟩
theorem fkX2_51 : qLK RX2 51 7 2 .int false := ⟨RX7, TX7, 4, rfl, (by decide +kernel), (by decide +kernel), (by decide +kernel), qcok7, Or.inr ⟨"LowAir", qm1 48 (by decide +kernel) (by decide +kernel)⟩⟩
theorem fkX7_15 : qLK RX7 15 7 3 .int false := ⟨RX7, TX7, 4, rfl, (by decide +kernel), (by decide +kernel), (by decide +kernel), qcok7, Or.inl (qm1 49 (by decide +kernel) (by decide +kernel))⟩
theorem fkX2_54 : qLK RX2 54 7 3 .int false := ⟨RX7, TX7, 4, rfl, (by decide +kernel), (by decide +kernel), (by decide +kernel), qcok7, Or.inr ⟨"LowAir", qm1 50 (by decide +kernel) (by decide +kernel)⟩⟩
theorem fkX2_9 : qLK RX2 9 2 0 (.array .int) true := ⟨RX2, TX2, 9, rfl, (by decide +kernel), (by decide +kernel), (by decide +kernel), qcok2, Or.inl (qm1 62 (by decide +kernel) (by decide +kernel))⟩
theorem fkdX2_9 : ∀ (C : String) (T : u_T) (N : Nat), vwCl[2]? = some (C, T, N) → (T 0).1 = RX2 ∧ Cond.fieldLink RX2 9 (T 0).1 (T 0).2.1 (T 0).2.2.1 ∈ qTBL := by
  intro C T N h
  cases h
  exact ⟨(by decide +kernel), qm1 62 (by decide +kernel) (by decide +kernel)⟩
theorem fkX8_59 : qLK RX8 59 2 0 (.array .int) true := ⟨RX2, TX2, 9, rfl, (by decide +kernel), (by decide +kernel), (by decide +kernel), qcok2, Or.inr ⟨"LowAir", qm1 63 (by decide +kernel) (by decide +kernel)⟩⟩
theorem fkX6_163 : qLK RX6 163 2 0 (.array .int) true := ⟨RX2, TX2, 9, rfl, (by decide +kernel), (by decide +kernel), (by decide +kernel), qcok2, Or.inr ⟨"LowAir", qm1 64 (by decide +kernel) (by decide +kernel)⟩⟩
theorem fkX3_133 : qLK RX3 133 2 0 (.array .int) true := ⟨RX2, TX2, 9, rfl, (by decide +kernel), (by decide +kernel), (by decide +kernel), qcok2, Or.inr ⟨"LowAir", qm1 65 (by decide +kernel) (by decide +kernel)⟩⟩
theorem fkX2_15 : qLK RX2 15 2 1 (.array .boolean) true := ⟨RX2, TX2, 9, rfl, (by decide +kernel), (by decide +kernel), (by decide +kernel), qcok2, Or.inl (qm1 66 (by decide +kernel) (by decide +kernel))⟩
theorem fkdX2_15 : ∀ (C : String) (T : u_T) (N : Nat), vwCl[2]? = some (C, T, N) → (T 1).1 = RX2 ∧ Cond.fieldLink RX2 15 (T 1).1 (T 1).2.1 (T 1).2.2.1 ∈ qTBL := by
  intro C T N h
  cases h
  exact ⟨(by decide +kernel), qm1 66 (by decide +kernel) (by decide +kernel)⟩
theorem fkX3_72 : qLK RX3 72 2 1 (.array .boolean) true := ⟨RX2, TX2, 9, rfl, (by decide +kernel), (by decide +kernel), (by decide +kernel), qcok2, Or.inr ⟨"LowAir", qm1 67 (by decide +kernel) (by decide +kernel)⟩⟩
theorem fkX8_69 : qLK RX8 69 2 1 (.array .boolean) true := ⟨RX2, TX2, 9, rfl, (by decide +kernel), (by decide +kernel), (by decide +kernel), qcok2, Or.inr ⟨"LowAir", qm1 68 (by decide +kernel) (by decide +kernel)⟩⟩
theorem fkX5_27 : qLK RX5 27 2 1 (.array .boolean) true := ⟨RX2, TX2, 9, rfl, (by decide +kernel), (by decide +kernel), (by decide +kernel), qcok2, Or.inr ⟨"LowAir", qm1 69 (by decide +kernel) (by decide +kernel)⟩⟩
theorem fkX2_19 : qLK RX2 19 2 2 (.array .int) true := ⟨RX2, TX2, 9, rfl, (by decide +kernel), (by decide +kernel), (by decide +kernel), qcok2, Or.inl (qm1 70 (by decide +kernel) (by decide +kernel))⟩
theorem fkdX2_19 : ∀ (C : String) (T : u_T) (N : Nat), vwCl[2]? = some (C, T, N) → (T 2).1 = RX2 ∧ Cond.fieldLink RX2 19 (T 2).1 (T 2).2.1 (T 2).2.2.1 ∈ qTBL := by
  intro C T N h
  cases h
  exact ⟨(by decide +kernel), qm1 70 (by decide +kernel) (by decide +kernel)⟩
theorem fkX8_63 : qLK RX8 63 2 2 (.array .int) true := ⟨RX2, TX2, 9, rfl, (by decide +kernel), (by decide +kernel), (by decide +kernel), qcok2, Or.inr ⟨"LowAir", qm1 71 (by decide +kernel) (by decide +kernel)⟩⟩
theorem fkX2_22 : qLK RX2 22 2 3 (.array .int) true := ⟨RX2, TX2, 9, rfl, (by decide +kernel), (by decide +kernel), (by decide +kernel), qcok2, Or.inl (qm1 72 (by decide +kernel) (by decide +kernel))⟩
theorem fkdX2_22 : ∀ (C : String) (T : u_T) (N : Nat), vwCl[2]? = some (C, T, N) → (T 3).1 = RX2 ∧ Cond.fieldLink RX2 22 (T 3).1 (T 3).2.1 (T 3).2.2.1 ∈ qTBL := by
  intro C T N h
  cases h
  exact ⟨(by decide +kernel), qm1 72 (by decide +kernel) (by decide +kernel)⟩
theorem fkX8_112 : qLK RX8 112 2 3 (.array .int) true := ⟨RX2, TX2, 9, rfl, (by decide +kernel), (by decide +kernel), (by decide +kernel), qcok2, Or.inr ⟨"LowAir", qm1 73 (by decide +kernel) (by decide +kernel)⟩⟩
theorem fkX2_38 : qLK RX2 38 2 4 .int false := ⟨RX2, TX2, 9, rfl, (by decide +kernel), (by decide +kernel), (by decide +kernel), qcok2, Or.inl (qm1 74 (by decide +kernel) (by decide +kernel))⟩
theorem fkX8_73 : qLK RX8 73 2 4 .int false := ⟨RX2, TX2, 9, rfl, (by decide +kernel), (by decide +kernel), (by decide +kernel), qcok2, Or.inr ⟨"LowAir", qm1 75 (by decide +kernel) (by decide +kernel)⟩⟩
theorem fkX2_27 : qLK RX2 27 2 5 (.array (.object "LowAir$Zone")) true := ⟨RX2, TX2, 9, rfl, (by decide +kernel), (by decide +kernel), (by decide +kernel), qcok2, Or.inl (qm1 76 (by decide +kernel) (by decide +kernel))⟩
theorem fkdX2_27 : ∀ (C : String) (T : u_T) (N : Nat), vwCl[2]? = some (C, T, N) → (T 5).1 = RX2 ∧ Cond.fieldLink RX2 27 (T 5).1 (T 5).2.1 (T 5).2.2.1 ∈ qTBL := by
  intro C T N h
  cases h
  exact ⟨(by decide +kernel), qm1 76 (by decide +kernel) (by decide +kernel)⟩
theorem fkX2_42 : qLK RX2 42 2 6 .int false := ⟨RX2, TX2, 9, rfl, (by decide +kernel), (by decide +kernel), (by decide +kernel), qcok2, Or.inl (qm1 77 (by decide +kernel) (by decide +kernel))⟩
theorem fkX8_81 : qLK RX8 81 2 6 .int false := ⟨RX2, TX2, 9, rfl, (by decide +kernel), (by decide +kernel), (by decide +kernel), qcok2, Or.inr ⟨"LowAir", qm1 78 (by decide +kernel) (by decide +kernel)⟩⟩
theorem fkX8_91 : qLK RX8 91 2 7 .int false := ⟨RX2, TX2, 9, rfl, (by decide +kernel), (by decide +kernel), (by decide +kernel), qcok2, Or.inr ⟨"LowAir", qm1 79 (by decide +kernel) (by decide +kernel)⟩⟩
theorem fkX2_91 : qLK RX2 91 2 7 .int false := ⟨RX2, TX2, 9, rfl, (by decide +kernel), (by decide +kernel), (by decide +kernel), qcok2, Or.inl (qm1 80 (by decide +kernel) (by decide +kernel))⟩
theorem fkX8_88 : qLK RX8 88 2 8 .int false := ⟨RX2, TX2, 9, rfl, (by decide +kernel), (by decide +kernel), (by decide +kernel), qcok2, Or.inr ⟨"LowAir", qm1 81 (by decide +kernel) (by decide +kernel)⟩⟩
theorem fkX2_94 : qLK RX2 94 2 8 .int false := ⟨RX2, TX2, 9, rfl, (by decide +kernel), (by decide +kernel), (by decide +kernel), qcok2, Or.inl (qm1 82 (by decide +kernel) (by decide +kernel))⟩
theorem fkX0_25 : qLK RX0 25 0 0 .int false := ⟨RX0, TX0, 12, rfl, (by decide +kernel), (by decide +kernel), (by decide +kernel), qcok0, Or.inl (qm1 117 (by decide +kernel) (by decide +kernel))⟩
theorem fkX5_32 : qLK RX5 32 0 0 .int false := ⟨RX0, TX0, 12, rfl, (by decide +kernel), (by decide +kernel), (by decide +kernel), qcok0, Or.inr ⟨"LowAir", qm1 118 (by decide +kernel) (by decide +kernel)⟩⟩
theorem fkX3_76 : qLK RX3 76 0 0 .int false := ⟨RX0, TX0, 12, rfl, (by decide +kernel), (by decide +kernel), (by decide +kernel), qcok0, Or.inr ⟨"LowAir", qm1 119 (by decide +kernel) (by decide +kernel)⟩⟩
theorem fkX8_104 : qLK RX8 104 0 0 .int false := ⟨RX0, TX0, 12, rfl, (by decide +kernel), (by decide +kernel), (by decide +kernel), qcok0, Or.inr ⟨"LowAir", qm1 120 (by decide +kernel) (by decide +kernel)⟩⟩
theorem fkX6_166 : qLK RX6 166 0 0 .int false := ⟨RX0, TX0, 12, rfl, (by decide +kernel), (by decide +kernel), (by decide +kernel), qcok0, Or.inr ⟨"LowAir", qm1 121 (by decide +kernel) (by decide +kernel)⟩⟩
theorem fkX0_28 : qLK RX0 28 0 1 .int false := ⟨RX0, TX0, 12, rfl, (by decide +kernel), (by decide +kernel), (by decide +kernel), qcok0, Or.inl (qm1 122 (by decide +kernel) (by decide +kernel))⟩
theorem fkX8_109 : qLK RX8 109 0 1 .int false := ⟨RX0, TX0, 12, rfl, (by decide +kernel), (by decide +kernel), (by decide +kernel), qcok0, Or.inr ⟨"LowAir", qm1 123 (by decide +kernel) (by decide +kernel)⟩⟩
theorem fkX0_31 : qLK RX0 31 0 2 .int false := ⟨RX0, TX0, 12, rfl, (by decide +kernel), (by decide +kernel), (by decide +kernel), qcok0, Or.inl (qm1 124 (by decide +kernel) (by decide +kernel))⟩
theorem fkX6_136 : qLK RX6 136 0 2 .int false := ⟨RX0, TX0, 12, rfl, (by decide +kernel), (by decide +kernel), (by decide +kernel), qcok0, Or.inr ⟨"LowAir", qm1 125 (by decide +kernel) (by decide +kernel)⟩⟩
theorem fkX8_115 : qLK RX8 115 0 2 .int false := ⟨RX0, TX0, 12, rfl, (by decide +kernel), (by decide +kernel), (by decide +kernel), qcok0, Or.inr ⟨"LowAir", qm1 126 (by decide +kernel) (by decide +kernel)⟩⟩
theorem fkX0_34 : qLK RX0 34 0 3 .int false := ⟨RX0, TX0, 12, rfl, (by decide +kernel), (by decide +kernel), (by decide +kernel), qcok0, Or.inl (qm1 127 (by decide +kernel) (by decide +kernel))⟩
theorem fkX8_118 : qLK RX8 118 0 3 .int false := ⟨RX0, TX0, 12, rfl, (by decide +kernel), (by decide +kernel), (by decide +kernel), qcok0, Or.inr ⟨"LowAir", qm1 128 (by decide +kernel) (by decide +kernel)⟩⟩
theorem fkX6_179 : qLK RX6 179 0 3 .int false := ⟨RX0, TX0, 12, rfl, (by decide +kernel), (by decide +kernel), (by decide +kernel), qcok0, Or.inr ⟨"LowAir", qm1 129 (by decide +kernel) (by decide +kernel)⟩⟩
theorem fkX0_37 : qLK RX0 37 0 4 .int false := ⟨RX0, TX0, 12, rfl, (by decide +kernel), (by decide +kernel), (by decide +kernel), qcok0, Or.inl (qm1 130 (by decide +kernel) (by decide +kernel))⟩
theorem fkX3_50 : qLK RX3 50 0 4 .int false := ⟨RX0, TX0, 12, rfl, (by decide +kernel), (by decide +kernel), (by decide +kernel), qcok0, Or.inr ⟨"LowAir", qm1 131 (by decide +kernel) (by decide +kernel)⟩⟩
theorem fkX6_112 : qLK RX6 112 0 4 .int false := ⟨RX0, TX0, 12, rfl, (by decide +kernel), (by decide +kernel), (by decide +kernel), qcok0, Or.inr ⟨"LowAir", qm1 132 (by decide +kernel) (by decide +kernel)⟩⟩
theorem fkX8_121 : qLK RX8 121 0 4 .int false := ⟨RX0, TX0, 12, rfl, (by decide +kernel), (by decide +kernel), (by decide +kernel), qcok0, Or.inr ⟨"LowAir", qm1 133 (by decide +kernel) (by decide +kernel)⟩⟩
theorem fkX0_40 : qLK RX0 40 0 5 .int false := ⟨RX0, TX0, 12, rfl, (by decide +kernel), (by decide +kernel), (by decide +kernel), qcok0, Or.inl (qm1 134 (by decide +kernel) (by decide +kernel))⟩
theorem fkX8_124 : qLK RX8 124 0 5 .int false := ⟨RX0, TX0, 12, rfl, (by decide +kernel), (by decide +kernel), (by decide +kernel), qcok0, Or.inr ⟨"LowAir", qm1 135 (by decide +kernel) (by decide +kernel)⟩⟩
theorem fkX6_160 : qLK RX6 160 0 5 .int false := ⟨RX0, TX0, 12, rfl, (by decide +kernel), (by decide +kernel), (by decide +kernel), qcok0, Or.inr ⟨"LowAir", qm1 136 (by decide +kernel) (by decide +kernel)⟩⟩
theorem fkX3_130 : qLK RX3 130 0 5 .int false := ⟨RX0, TX0, 12, rfl, (by decide +kernel), (by decide +kernel), (by decide +kernel), qcok0, Or.inr ⟨"LowAir", qm1 137 (by decide +kernel) (by decide +kernel)⟩⟩
theorem fkX0_9 : qLK RX0 9 0 6 .boolean false := ⟨RX0, TX0, 12, rfl, (by decide +kernel), (by decide +kernel), (by decide +kernel), qcok0, Or.inl (qm1 138 (by decide +kernel) (by decide +kernel))⟩
theorem fkX6_115 : qLK RX6 115 0 6 .boolean false := ⟨RX0, TX0, 12, rfl, (by decide +kernel), (by decide +kernel), (by decide +kernel), qcok0, Or.inr ⟨"LowAir", qm1 139 (by decide +kernel) (by decide +kernel)⟩⟩
theorem fkX8_133 : qLK RX8 133 0 6 .boolean false := ⟨RX0, TX0, 12, rfl, (by decide +kernel), (by decide +kernel), (by decide +kernel), qcok0, Or.inr ⟨"LowAir", qm1 140 (by decide +kernel) (by decide +kernel)⟩⟩
theorem fkX0_15 : qLK RX0 15 0 7 .int false := ⟨RX0, TX0, 12, rfl, (by decide +kernel), (by decide +kernel), (by decide +kernel), qcok0, Or.inl (qm1 141 (by decide +kernel) (by decide +kernel))⟩
theorem fkX6_99 : qLK RX6 99 0 7 .int false := ⟨RX0, TX0, 12, rfl, (by decide +kernel), (by decide +kernel), (by decide +kernel), qcok0, Or.inr ⟨"LowAir", qm1 142 (by decide +kernel) (by decide +kernel)⟩⟩
theorem fkX8_137 : qLK RX8 137 0 7 .int false := ⟨RX0, TX0, 12, rfl, (by decide +kernel), (by decide +kernel), (by decide +kernel), qcok0, Or.inr ⟨"LowAir", qm1 143 (by decide +kernel) (by decide +kernel)⟩⟩
theorem fkX0_43 : qLK RX0 43 0 8 .int false := ⟨RX0, TX0, 12, rfl, (by decide +kernel), (by decide +kernel), (by decide +kernel), qcok0, Or.inl (qm1 144 (by decide +kernel) (by decide +kernel))⟩
theorem fkX5_49 : qLK RX5 49 0 8 .int false := ⟨RX0, TX0, 12, rfl, (by decide +kernel), (by decide +kernel), (by decide +kernel), qcok0, Or.inr ⟨"LowAir", qm1 145 (by decide +kernel) (by decide +kernel)⟩⟩
theorem fkX6_100 : qLK RX6 100 0 8 .int false := ⟨RX0, TX0, 12, rfl, (by decide +kernel), (by decide +kernel), (by decide +kernel), qcok0, Or.inr ⟨"LowAir", qm1 146 (by decide +kernel) (by decide +kernel)⟩⟩
theorem fkX8_127 : qLK RX8 127 0 8 .int false := ⟨RX0, TX0, 12, rfl, (by decide +kernel), (by decide +kernel), (by decide +kernel), qcok0, Or.inr ⟨"LowAir", qm1 147 (by decide +kernel) (by decide +kernel)⟩⟩
theorem fkX0_19 : qLK RX0 19 0 9 .int false := ⟨RX0, TX0, 12, rfl, (by decide +kernel), (by decide +kernel), (by decide +kernel), qcok0, Or.inl (qm1 148 (by decide +kernel) (by decide +kernel))⟩
theorem fkX6_119 : qLK RX6 119 0 9 .int false := ⟨RX0, TX0, 12, rfl, (by decide +kernel), (by decide +kernel), (by decide +kernel), qcok0, Or.inr ⟨"LowAir", qm1 149 (by decide +kernel) (by decide +kernel)⟩⟩
theorem fkX8_212 : qLK RX8 212 0 9 .int false := ⟨RX0, TX0, 12, rfl, (by decide +kernel), (by decide +kernel), (by decide +kernel), qcok0, Or.inr ⟨"LowAir", qm1 150 (by decide +kernel) (by decide +kernel)⟩⟩
theorem fkX0_46 : qLK RX0 46 0 10 .int false := ⟨RX0, TX0, 12, rfl, (by decide +kernel), (by decide +kernel), (by decide +kernel), qcok0, Or.inl (qm1 151 (by decide +kernel) (by decide +kernel))⟩
theorem fkX6_173 : qLK RX6 173 0 10 .int false := ⟨RX0, TX0, 12, rfl, (by decide +kernel), (by decide +kernel), (by decide +kernel), qcok0, Or.inr ⟨"LowAir", qm1 152 (by decide +kernel) (by decide +kernel)⟩⟩
theorem fkX8_215 : qLK RX8 215 0 10 .int false := ⟨RX0, TX0, 12, rfl, (by decide +kernel), (by decide +kernel), (by decide +kernel), qcok0, Or.inr ⟨"LowAir", qm1 153 (by decide +kernel) (by decide +kernel)⟩⟩
theorem fkX0_22 : qLK RX0 22 0 11 .int false := ⟨RX0, TX0, 12, rfl, (by decide +kernel), (by decide +kernel), (by decide +kernel), qcok0, Or.inl (qm1 154 (by decide +kernel) (by decide +kernel))⟩
theorem fkX6_176 : qLK RX6 176 0 11 .int false := ⟨RX0, TX0, 12, rfl, (by decide +kernel), (by decide +kernel), (by decide +kernel), qcok0, Or.inr ⟨"LowAir", qm1 155 (by decide +kernel) (by decide +kernel)⟩⟩
theorem fkX4_9 : qLK RX4 9 4 0 (.array .int) true := ⟨RX4, TX4, 2, rfl, (by decide +kernel), (by decide +kernel), (by decide +kernel), qcok4, Or.inl (qm1 192 (by decide +kernel) (by decide +kernel))⟩
theorem fkdX4_9 : ∀ (C : String) (T : u_T) (N : Nat), vwCl[4]? = some (C, T, N) → (T 0).1 = RX4 ∧ Cond.fieldLink RX4 9 (T 0).1 (T 0).2.1 (T 0).2.2.1 ∈ qTBL := by
  intro C T N h
  cases h
  exact ⟨(by decide +kernel), qm1 192 (by decide +kernel) (by decide +kernel)⟩
theorem fkX8_143 : qLK RX8 143 4 0 (.array .int) true := ⟨RX4, TX4, 2, rfl, (by decide +kernel), (by decide +kernel), (by decide +kernel), qcok4, Or.inr ⟨"LowAir", qm1 193 (by decide +kernel) (by decide +kernel)⟩⟩
theorem fkX4_15 : qLK RX4 15 4 1 .int false := ⟨RX4, TX4, 2, rfl, (by decide +kernel), (by decide +kernel), (by decide +kernel), qcok4, Or.inl (qm1 194 (by decide +kernel) (by decide +kernel))⟩
theorem fkX3_59 : qLK RX3 59 4 1 .int false := ⟨RX4, TX4, 2, rfl, (by decide +kernel), (by decide +kernel), (by decide +kernel), qcok4, Or.inr ⟨"LowAir", qm1 195 (by decide +kernel) (by decide +kernel)⟩⟩
theorem fkX1_36 : qLK RX1 36 4 1 .int false := ⟨RX4, TX4, 2, rfl, (by decide +kernel), (by decide +kernel), (by decide +kernel), qcok4, Or.inr ⟨"LowAir", qm1 196 (by decide +kernel) (by decide +kernel)⟩⟩
theorem fkX2_65 : qLK RX2 65 4 1 .int false := ⟨RX4, TX4, 2, rfl, (by decide +kernel), (by decide +kernel), (by decide +kernel), qcok4, Or.inr ⟨"LowAir", qm1 197 (by decide +kernel) (by decide +kernel)⟩⟩
theorem fkX6_142 : qLK RX6 142 4 1 .int false := ⟨RX4, TX4, 2, rfl, (by decide +kernel), (by decide +kernel), (by decide +kernel), qcok4, Or.inr ⟨"LowAir", qm1 198 (by decide +kernel) (by decide +kernel)⟩⟩
theorem fkX8_140 : qLK RX8 140 4 1 .int false := ⟨RX4, TX4, 2, rfl, (by decide +kernel), (by decide +kernel), (by decide +kernel), qcok4, Or.inr ⟨"LowAir", qm1 199 (by decide +kernel) (by decide +kernel)⟩⟩
theorem fkX1_18 : qLK RX1 18 1 0 .int false := ⟨RX1, TX1, 4, rfl, (by decide +kernel), (by decide +kernel), (by decide +kernel), qcok1, Or.inl (qm1 205 (by decide +kernel) (by decide +kernel))⟩
theorem fkX6_92 : qLK RX6 92 1 0 .int false := ⟨RX1, TX1, 4, rfl, (by decide +kernel), (by decide +kernel), (by decide +kernel), qcok1, Or.inr ⟨"LowAir", qm1 206 (by decide +kernel) (by decide +kernel)⟩⟩
theorem fkX3_90 : qLK RX3 90 1 0 .int false := ⟨RX1, TX1, 4, rfl, (by decide +kernel), (by decide +kernel), (by decide +kernel), qcok1, Or.inr ⟨"LowAir", qm1 207 (by decide +kernel) (by decide +kernel)⟩⟩
theorem fkX8_164 : qLK RX8 164 1 0 .int false := ⟨RX1, TX1, 4, rfl, (by decide +kernel), (by decide +kernel), (by decide +kernel), qcok1, Or.inr ⟨"LowAir", qm1 208 (by decide +kernel) (by decide +kernel)⟩⟩
theorem fkX1_22 : qLK RX1 22 1 1 .int false := ⟨RX1, TX1, 4, rfl, (by decide +kernel), (by decide +kernel), (by decide +kernel), qcok1, Or.inl (qm1 209 (by decide +kernel) (by decide +kernel))⟩
theorem fkX6_89 : qLK RX6 89 1 1 .int false := ⟨RX1, TX1, 4, rfl, (by decide +kernel), (by decide +kernel), (by decide +kernel), qcok1, Or.inr ⟨"LowAir", qm1 210 (by decide +kernel) (by decide +kernel)⟩⟩
theorem fkX8_169 : qLK RX8 169 1 1 .int false := ⟨RX1, TX1, 4, rfl, (by decide +kernel), (by decide +kernel), (by decide +kernel), qcok1, Or.inr ⟨"LowAir", qm1 211 (by decide +kernel) (by decide +kernel)⟩⟩
theorem fkX1_25 : qLK RX1 25 1 2 .int false := ⟨RX1, TX1, 4, rfl, (by decide +kernel), (by decide +kernel), (by decide +kernel), qcok1, Or.inl (qm1 212 (by decide +kernel) (by decide +kernel))⟩
theorem fkX6_86 : qLK RX6 86 1 2 .int false := ⟨RX1, TX1, 4, rfl, (by decide +kernel), (by decide +kernel), (by decide +kernel), qcok1, Or.inr ⟨"LowAir", qm1 213 (by decide +kernel) (by decide +kernel)⟩⟩
theorem fkX8_172 : qLK RX8 172 1 2 .int false := ⟨RX1, TX1, 4, rfl, (by decide +kernel), (by decide +kernel), (by decide +kernel), qcok1, Or.inr ⟨"LowAir", qm1 214 (by decide +kernel) (by decide +kernel)⟩⟩
theorem fkX1_12 : qLK RX1 12 1 3 (.object "LowAir$Route") true := ⟨RX1, TX1, 4, rfl, (by decide +kernel), (by decide +kernel), (by decide +kernel), qcok1, Or.inl (qm1 215 (by decide +kernel) (by decide +kernel))⟩
theorem fkdX1_12 : ∀ (C : String) (T : u_T) (N : Nat), vwCl[1]? = some (C, T, N) → (T 3).1 = RX1 ∧ Cond.fieldLink RX1 12 (T 3).1 (T 3).2.1 (T 3).2.2.1 ∈ qTBL := by
  intro C T N h
  cases h
  exact ⟨(by decide +kernel), qm1 215 (by decide +kernel) (by decide +kernel)⟩
theorem fkX6_103 : qLK RX6 103 1 3 (.object "LowAir$Route") true := ⟨RX1, TX1, 4, rfl, (by decide +kernel), (by decide +kernel), (by decide +kernel), qcok1, Or.inr ⟨"LowAir", qm1 216 (by decide +kernel) (by decide +kernel)⟩⟩
theorem fkX3_126 : qLK RX3 126 1 3 (.object "LowAir$Route") true := ⟨RX1, TX1, 4, rfl, (by decide +kernel), (by decide +kernel), (by decide +kernel), qcok1, Or.inr ⟨"LowAir", qm1 217 (by decide +kernel) (by decide +kernel)⟩⟩
theorem fkX8_173 : qLK RX8 173 1 3 (.object "LowAir$Route") true := ⟨RX1, TX1, 4, rfl, (by decide +kernel), (by decide +kernel), (by decide +kernel), qcok1, Or.inr ⟨"LowAir", qm1 218 (by decide +kernel) (by decide +kernel)⟩⟩
theorem fkX6_27 : qLK RX6 27 6 0 (.object "LowAir$Ground") true := ⟨RX6, TX6, 9, rfl, (by decide +kernel), (by decide +kernel), (by decide +kernel), qcok6, Or.inl (qm1 228 (by decide +kernel) (by decide +kernel))⟩
theorem fkdX6_27 : ∀ (C : String) (T : u_T) (N : Nat), vwCl[6]? = some (C, T, N) → (T 0).1 = RX6 ∧ Cond.fieldLink RX6 27 (T 0).1 (T 0).2.1 (T 0).2.2.1 ∈ qTBL := by
  intro C T N h
  cases h
  exact ⟨(by decide +kernel), qm1 228 (by decide +kernel) (by decide +kernel)⟩
theorem fkX6_11 : qLK RX6 11 6 1 (.array (.object "LowAir$Craft")) true := ⟨RX6, TX6, 9, rfl, (by decide +kernel), (by decide +kernel), (by decide +kernel), qcok6, Or.inl (qm1 229 (by decide +kernel) (by decide +kernel))⟩
theorem fkdX6_11 : ∀ (C : String) (T : u_T) (N : Nat), vwCl[6]? = some (C, T, N) → (T 1).1 = RX6 ∧ Cond.fieldLink RX6 11 (T 1).1 (T 1).2.1 (T 1).2.2.1 ∈ qTBL := by
  intro C T N h
  cases h
  exact ⟨(by decide +kernel), qm1 229 (by decide +kernel) (by decide +kernel)⟩
theorem fkX3_23 : qLK RX3 23 6 1 (.array (.object "LowAir$Craft")) true := ⟨RX6, TX6, 9, rfl, (by decide +kernel), (by decide +kernel), (by decide +kernel), qcok6, Or.inr ⟨"LowAir", qm1 230 (by decide +kernel) (by decide +kernel)⟩⟩
theorem fkX8_100 : qLK RX8 100 6 1 (.array (.object "LowAir$Craft")) true := ⟨RX6, TX6, 9, rfl, (by decide +kernel), (by decide +kernel), (by decide +kernel), qcok6, Or.inr ⟨"LowAir", qm1 231 (by decide +kernel) (by decide +kernel)⟩⟩
theorem fkX6_33 : qLK RX6 33 6 2 .int false := ⟨RX6, TX6, 9, rfl, (by decide +kernel), (by decide +kernel), (by decide +kernel), qcok6, Or.inl (qm1 232 (by decide +kernel) (by decide +kernel))⟩
theorem fkX8_97 : qLK RX8 97 6 2 .int false := ⟨RX6, TX6, 9, rfl, (by decide +kernel), (by decide +kernel), (by decide +kernel), qcok6, Or.inr ⟨"LowAir", qm1 233 (by decide +kernel) (by decide +kernel)⟩⟩
theorem fkX6_19 : qLK RX6 19 6 3 (.array (.object "LowAir$Flight")) true := ⟨RX6, TX6, 9, rfl, (by decide +kernel), (by decide +kernel), (by decide +kernel), qcok6, Or.inl (qm1 234 (by decide +kernel) (by decide +kernel))⟩
theorem fkdX6_19 : ∀ (C : String) (T : u_T) (N : Nat), vwCl[6]? = some (C, T, N) → (T 3).1 = RX6 ∧ Cond.fieldLink RX6 19 (T 3).1 (T 3).2.1 (T 3).2.2.1 ∈ qTBL := by
  intro C T N h
  cases h
  exact ⟨(by decide +kernel), qm1 234 (by decide +kernel) (by decide +kernel)⟩
theorem fkX3_86 : qLK RX3 86 6 3 (.array (.object "LowAir$Flight")) true := ⟨RX6, TX6, 9, rfl, (by decide +kernel), (by decide +kernel), (by decide +kernel), qcok6, Or.inr ⟨"LowAir", qm1 235 (by decide +kernel) (by decide +kernel)⟩⟩
theorem fkX8_160 : qLK RX8 160 6 3 (.array (.object "LowAir$Flight")) true := ⟨RX6, TX6, 9, rfl, (by decide +kernel), (by decide +kernel), (by decide +kernel), qcok6, Or.inr ⟨"LowAir", qm1 236 (by decide +kernel) (by decide +kernel)⟩⟩
theorem fkX6_41 : qLK RX6 41 6 4 .int false := ⟨RX6, TX6, 9, rfl, (by decide +kernel), (by decide +kernel), (by decide +kernel), qcok6, Or.inl (qm1 237 (by decide +kernel) (by decide +kernel))⟩
theorem fkX3_83 : qLK RX3 83 6 4 .int false := ⟨RX6, TX6, 9, rfl, (by decide +kernel), (by decide +kernel), (by decide +kernel), qcok6, Or.inr ⟨"LowAir", qm1 238 (by decide +kernel) (by decide +kernel)⟩⟩
theorem fkX8_153 : qLK RX8 153 6 4 .int false := ⟨RX6, TX6, 9, rfl, (by decide +kernel), (by decide +kernel), (by decide +kernel), qcok6, Or.inr ⟨"LowAir", qm1 239 (by decide +kernel) (by decide +kernel)⟩⟩
theorem fkX6_23 : qLK RX6 23 6 5 (.array .int) true := ⟨RX6, TX6, 9, rfl, (by decide +kernel), (by decide +kernel), (by decide +kernel), qcok6, Or.inl (qm2 0 (by decide +kernel) (by decide +kernel))⟩
theorem fkdX6_23 : ∀ (C : String) (T : u_T) (N : Nat), vwCl[6]? = some (C, T, N) → (T 5).1 = RX6 ∧ Cond.fieldLink RX6 23 (T 5).1 (T 5).2.1 (T 5).2.2.1 ∈ qTBL := by
  intro C T N h
  cases h
  exact ⟨(by decide +kernel), qm2 0 (by decide +kernel) (by decide +kernel)⟩
theorem fkX8_195 : qLK RX8 195 6 5 (.array .int) true := ⟨RX6, TX6, 9, rfl, (by decide +kernel), (by decide +kernel), (by decide +kernel), qcok6, Or.inr ⟨"LowAir", qm2 1 (by decide +kernel) (by decide +kernel)⟩⟩
theorem fkX6_53 : qLK RX6 53 6 6 .int false := ⟨RX6, TX6, 9, rfl, (by decide +kernel), (by decide +kernel), (by decide +kernel), qcok6, Or.inl (qm2 2 (by decide +kernel) (by decide +kernel))⟩
theorem fkX8_240 : qLK RX8 240 6 6 .int false := ⟨RX6, TX6, 9, rfl, (by decide +kernel), (by decide +kernel), (by decide +kernel), qcok6, Or.inr ⟨"LowAir", qm2 3 (by decide +kernel) (by decide +kernel)⟩⟩
theorem fkX6_56 : qLK RX6 56 6 7 .int false := ⟨RX6, TX6, 9, rfl, (by decide +kernel), (by decide +kernel), (by decide +kernel), qcok6, Or.inl (qm2 4 (by decide +kernel) (by decide +kernel))⟩
theorem fkX8_233 : qLK RX8 233 6 7 .int false := ⟨RX6, TX6, 9, rfl, (by decide +kernel), (by decide +kernel), (by decide +kernel), qcok6, Or.inr ⟨"LowAir", qm2 5 (by decide +kernel) (by decide +kernel)⟩⟩
theorem fkX6_59 : qLK RX6 59 6 8 .int false := ⟨RX6, TX6, 9, rfl, (by decide +kernel), (by decide +kernel), (by decide +kernel), qcok6, Or.inl (qm2 6 (by decide +kernel) (by decide +kernel))⟩
theorem fkX8_186 : qLK RX8 186 6 8 .int false := ⟨RX6, TX6, 9, rfl, (by decide +kernel), (by decide +kernel), (by decide +kernel), qcok6, Or.inr ⟨"LowAir", qm2 7 (by decide +kernel) (by decide +kernel)⟩⟩
theorem fkX3_15 : qLK RX3 15 3 0 (.object "LowAir$Ground") true := ⟨RX3, TX3, 3, rfl, (by decide +kernel), (by decide +kernel), (by decide +kernel), qcok3, Or.inl (qm2 35 (by decide +kernel) (by decide +kernel))⟩
theorem fkdX3_15 : ∀ (C : String) (T : u_T) (N : Nat), vwCl[3]? = some (C, T, N) → (T 0).1 = RX3 ∧ Cond.fieldLink RX3 15 (T 0).1 (T 0).2.1 (T 0).2.2.1 ∈ qTBL := by
  intro C T N h
  cases h
  exact ⟨(by decide +kernel), qm2 35 (by decide +kernel) (by decide +kernel)⟩
theorem fkX3_19 : qLK RX3 19 3 1 (.object "LowAir$Sky") true := ⟨RX3, TX3, 3, rfl, (by decide +kernel), (by decide +kernel), (by decide +kernel), qcok3, Or.inl (qm2 36 (by decide +kernel) (by decide +kernel))⟩
theorem fkdX3_19 : ∀ (C : String) (T : u_T) (N : Nat), vwCl[3]? = some (C, T, N) → (T 1).1 = RX3 ∧ Cond.fieldLink RX3 19 (T 1).1 (T 1).2.1 (T 1).2.2.1 ∈ qTBL := by
  intro C T N h
  cases h
  exact ⟨(by decide +kernel), qm2 36 (by decide +kernel) (by decide +kernel)⟩
theorem fkX3_9 : qLK RX3 9 3 2 (.array .int) true := ⟨RX3, TX3, 3, rfl, (by decide +kernel), (by decide +kernel), (by decide +kernel), qcok3, Or.inl (qm2 37 (by decide +kernel) (by decide +kernel))⟩
theorem fkdX3_9 : ∀ (C : String) (T : u_T) (N : Nat), vwCl[3]? = some (C, T, N) → (T 2).1 = RX3 ∧ Cond.fieldLink RX3 9 (T 2).1 (T 2).2.1 (T 2).2.2.1 ∈ qTBL := by
  intro C T N h
  cases h
  exact ⟨(by decide +kernel), qm2 37 (by decide +kernel) (by decide +kernel)⟩
theorem fkX5_19 : qLK RX5 19 5 0 (.object "LowAir$Ground") true := ⟨RX5, TX5, 3, rfl, (by decide +kernel), (by decide +kernel), (by decide +kernel), qcok5, Or.inl (qm2 51 (by decide +kernel) (by decide +kernel))⟩
theorem fkdX5_19 : ∀ (C : String) (T : u_T) (N : Nat), vwCl[5]? = some (C, T, N) → (T 0).1 = RX5 ∧ Cond.fieldLink RX5 19 (T 0).1 (T 0).2.1 (T 0).2.2.1 ∈ qTBL := by
  intro C T N h
  cases h
  exact ⟨(by decide +kernel), qm2 51 (by decide +kernel) (by decide +kernel)⟩
theorem fkX5_9 : qLK RX5 9 5 1 (.array .boolean) true := ⟨RX5, TX5, 3, rfl, (by decide +kernel), (by decide +kernel), (by decide +kernel), qcok5, Or.inl (qm2 52 (by decide +kernel) (by decide +kernel))⟩
theorem fkdX5_9 : ∀ (C : String) (T : u_T) (N : Nat), vwCl[5]? = some (C, T, N) → (T 1).1 = RX5 ∧ Cond.fieldLink RX5 9 (T 1).1 (T 1).2.1 (T 1).2.2.1 ∈ qTBL := by
  intro C T N h
  cases h
  exact ⟨(by decide +kernel), qm2 52 (by decide +kernel) (by decide +kernel)⟩
theorem fkX5_15 : qLK RX5 15 5 2 (.array .int) true := ⟨RX5, TX5, 3, rfl, (by decide +kernel), (by decide +kernel), (by decide +kernel), qcok5, Or.inl (qm2 53 (by decide +kernel) (by decide +kernel))⟩
theorem fkdX5_15 : ∀ (C : String) (T : u_T) (N : Nat), vwCl[5]? = some (C, T, N) → (T 2).1 = RX5 ∧ Cond.fieldLink RX5 15 (T 2).1 (T 2).2.1 (T 2).2.2.1 ∈ qTBL := by
  intro C T N h
  cases h
  exact ⟨(by decide +kernel), qm2 53 (by decide +kernel) (by decide +kernel)⟩
theorem fkX8_10 : qLK RX8 10 8 0 (.object "LowAir$Ground") true := ⟨RX8, TX8, 6, rfl, (by decide +kernel), (by decide +kernel), (by decide +kernel), qcok8, Or.inl (qm2 61 (by decide +kernel) (by decide +kernel))⟩
theorem fkdX8_10 : ∀ (C : String) (T : u_T) (N : Nat), vwCl[8]? = some (C, T, N) → (T 0).1 = RX8 ∧ Cond.fieldLink RX8 10 (T 0).1 (T 0).2.1 (T 0).2.2.1 ∈ qTBL := by
  intro C T N h
  cases h
  exact ⟨(by decide +kernel), qm2 61 (by decide +kernel) (by decide +kernel)⟩
theorem fkX8_21 : qLK RX8 21 8 1 (.object "LowAir$Sky") true := ⟨RX8, TX8, 6, rfl, (by decide +kernel), (by decide +kernel), (by decide +kernel), qcok8, Or.inl (qm2 62 (by decide +kernel) (by decide +kernel))⟩
theorem fkdX8_21 : ∀ (C : String) (T : u_T) (N : Nat), vwCl[8]? = some (C, T, N) → (T 1).1 = RX8 ∧ Cond.fieldLink RX8 21 (T 1).1 (T 1).2.1 (T 1).2.2.1 ∈ qTBL := by
  intro C T N h
  cases h
  exact ⟨(by decide +kernel), qm2 62 (by decide +kernel) (by decide +kernel)⟩
theorem fkX8_25 : qLK RX8 25 8 2 (.object "LowAir$Sky") true := ⟨RX8, TX8, 6, rfl, (by decide +kernel), (by decide +kernel), (by decide +kernel), qcok8, Or.inl (qm2 63 (by decide +kernel) (by decide +kernel))⟩
theorem fkdX8_25 : ∀ (C : String) (T : u_T) (N : Nat), vwCl[8]? = some (C, T, N) → (T 2).1 = RX8 ∧ Cond.fieldLink RX8 25 (T 2).1 (T 2).2.1 (T 2).2.2.1 ∈ qTBL := by
  intro C T N h
  cases h
  exact ⟨(by decide +kernel), qm2 63 (by decide +kernel) (by decide +kernel)⟩
theorem fkX8_31 : qLK RX8 31 8 3 (.object "LowAir$Route") true := ⟨RX8, TX8, 6, rfl, (by decide +kernel), (by decide +kernel), (by decide +kernel), qcok8, Or.inl (qm2 64 (by decide +kernel) (by decide +kernel))⟩
theorem fkdX8_31 : ∀ (C : String) (T : u_T) (N : Nat), vwCl[8]? = some (C, T, N) → (T 3).1 = RX8 ∧ Cond.fieldLink RX8 31 (T 3).1 (T 3).2.1 (T 3).2.2.1 ∈ qTBL := by
  intro C T N h
  cases h
  exact ⟨(by decide +kernel), qm2 64 (by decide +kernel) (by decide +kernel)⟩
theorem fkX8_40 : qLK RX8 40 8 4 (.object "LowAir$Judge") true := ⟨RX8, TX8, 6, rfl, (by decide +kernel), (by decide +kernel), (by decide +kernel), qcok8, Or.inl (qm2 65 (by decide +kernel) (by decide +kernel))⟩
theorem fkdX8_40 : ∀ (C : String) (T : u_T) (N : Nat), vwCl[8]? = some (C, T, N) → (T 4).1 = RX8 ∧ Cond.fieldLink RX8 40 (T 4).1 (T 4).2.1 (T 4).2.2.1 ∈ qTBL := by
  intro C T N h
  cases h
  exact ⟨(by decide +kernel), qm2 65 (by decide +kernel) (by decide +kernel)⟩
theorem fkX8_47 : qLK RX8 47 8 5 (.object "LowAir$Search") true := ⟨RX8, TX8, 6, rfl, (by decide +kernel), (by decide +kernel), (by decide +kernel), qcok8, Or.inl (qm2 66 (by decide +kernel) (by decide +kernel))⟩
theorem fkdX8_47 : ∀ (C : String) (T : u_T) (N : Nat), vwCl[8]? = some (C, T, N) → (T 5).1 = RX8 ∧ Cond.fieldLink RX8 47 (T 5).1 (T 5).2.1 (T 5).2.2.1 ∈ qTBL := by
  intro C T N h
  cases h
  exact ⟨(by decide +kernel), qm2 66 (by decide +kernel) (by decide +kernel)⟩
abbrev mJ7_fill : qY := (yJ7_fill_53178, cJ7_fill_53178, 4, none)
abbrev mL_below : qY := (yL_below, cL_below, 2, (some .int))
abbrev mL_cell : qY := (yL_cell, cL_cell, 2, (some .int))
abbrev mL_isAsked : qY := (yL_isAsked, cL_isAsked, 14, (some .boolean))
abbrev mL_isPassed : qY := (yL_isPassed, cL_isPassed, 15, (some .boolean))
abbrev mX0_copyFrom : qY := (yX0_copyFrom, cX0_copyFrom, 2, none)
abbrev mX0_goDown : qY := (yX0_goDown, cX0_goDown, 1, none)
abbrev mX0_init : qY := (yX0_init, cX0_init, 1, none)
abbrev mX0_landAt : qY := (yX0_landAt, cX0_landAt, 2, none)
abbrev mX0_nextCellHome : qY := (yX0_nextCellHome, cX0_nextCellHome, 1, (some .int))
abbrev mX1_copyFrom : qY := (yX1_copyFrom, cX1_copyFrom, 2, none)
abbrev mX1_init : qY := (yX1_init, cX1_init, 1, none)
abbrev mX1_isAhead : qY := (yX1_isAhead, cX1_isAhead, 1, (some .boolean))
abbrev mX1_isCloseInTime : qY := (yX1_isCloseInTime, cX1_isCloseInTime, 3, (some .boolean))
abbrev mX1_isPlannedOn : qY := (yX1_isPlannedOn, cX1_isPlannedOn, 2, (some .boolean))
end
section
abbrev mX1_meets : qY := (yX1_meets, cX1_meets, 6, (some .boolean))
abbrev mX1_occupiesIn : qY := (yX1_occupiesIn, cX1_occupiesIn, 5, (some .boolean))
abbrev mX2_addPad : qY := (yX2_addPad, cX2_addPad, 2, (some .int))
abbrev mX2_addZone : qY := (yX2_addZone, cX2_addZone, 6, (some .int))
abbrev mX2_costOfMove : qY := (yX2_costOfMove, cX2_costOfMove, 2, (some .int))
abbrev mX2_costOfRoute : qY := (yX2_costOfRoute, cX2_costOfRoute, 4, (some .int))
abbrev mX2_directionTo : qY := (yX2_directionTo, cX2_directionTo, 3, (some .int))
abbrev mX2_hasPad : qY := (yX2_hasPad, cX2_hasPad, 2, (some .boolean))
abbrev mX2_init : qY := (yX2_init, cX2_init, 2, none)
abbrev mX2_isShut : qY := (yX2_isShut, cX2_isShut, 5, (some .boolean))
abbrev mX2_isWayFromPadToPad : qY := (yX2_isWayFromPadToPad, cX2_isWayFromPadToPad, 3, (some .boolean))
abbrev mX2_neighbour : qY := (yX2_neighbour, cX2_neighbour, 4, (some .int))
abbrev mX3_init : qY := (yX3_init, cX3_init, 3, none)
abbrev mX3_isTooLoud : qY := (yX3_isTooLoud, cX3_isTooLoud, 6, (some .boolean))
abbrev mX3_meetsItself : qY := (yX3_meetsItself, cX3_meetsItself, 6, (some .boolean))
abbrev mX3_meetsOthers : qY := (yX3_meetsOthers, cX3_meetsOthers, 6, (some .boolean))
abbrev mX3_meetsTower : qY := (yX3_meetsTower, cX3_meetsTower, 4, (some .boolean))
abbrev mX3_meetsZone : qY := (yX3_meetsZone, cX3_meetsZone, 7, (some .boolean))
abbrev mX3_plan : qY := (yX3_plan, cX3_plan, 5, none)
abbrev mX3_planDay : qY := (yX3_planDay, cX3_planDay, 4, none)
abbrev mX3_plannedNoise : qY := (yX3_plannedNoise, cX3_plannedNoise, 3, (some .int))
abbrev mX3_reasonAgainst : qY := (yX3_reasonAgainst, cX3_reasonAgainst, 5, (some .int))
abbrev mX4_at : qY := (yX4_at, cX4_at, 2, (some .int))
abbrev mX4_copyFrom : qY := (yX4_copyFrom, cX4_copyFrom, 2, none)
abbrev mX4_endFrom : qY := (yX4_endFrom, cX4_endFrom, 2, (some .int))
abbrev mX4_first : qY := (yX4_first, cX4_first, 1, (some .int))
abbrev mX4_init : qY := (yX4_init, cX4_init, 1, none)
abbrev mX4_last : qY := (yX4_last, cX4_last, 1, (some .int))
abbrev mX5_fewestMoves : qY := (yX5_fewestMoves, cX5_fewestMoves, 4, (some .int))
abbrev mX5_init : qY := (yX5_init, cX5_init, 2, none)
abbrev mX5_least : qY := (yX5_least, cX5_least, 7, (some .int))
abbrev mX5_leastCharge : qY := (yX5_leastCharge, cX5_leastCharge, 4, (some .int))
abbrev mX5_spread : qY := (yX5_spread, cX5_spread, 6, (some .boolean))
abbrev mX5_spreadAll : qY := (yX5_spreadAll, cX5_spreadAll, 5, (some .boolean))
abbrev mX6_allBreaches : qY := (yX6_allBreaches, cX6_allBreaches, 3, (some .int))
abbrev mX6_chargeIfLying : qY := (yX6_chargeIfLying, cX6_chargeIfLying, 2, none)
abbrev mX6_comeIn : qY := (yX6_comeIn, cX6_comeIn, 3, none)
abbrev mX6_copyFrom : qY := (yX6_copyFrom, cX6_copyFrom, 3, none)
abbrev mX6_flightsIn : qY := (yX6_flightsIn, cX6_flightsIn, 4, (some .int))
abbrev mX6_flyingIn : qY := (yX6_flyingIn, cX6_flyingIn, 4, (some .int))
abbrev mX6_init : qY := (yX6_init, cX6_init, 3, none)
abbrev mX6_isCraft : qY := (yX6_isCraft, cX6_isCraft, 2, (some .boolean))
abbrev mX6_isToMove : qY := (yX6_isToMove, cX6_isToMove, 3, (some .boolean))
abbrev mX6_move : qY := (yX6_move, cX6_move, 6, none)
abbrev mX6_movesInto : qY := (yX6_movesInto, cX6_movesInto, 5, (some .boolean))
abbrev mX6_pairsNear : qY := (yX6_pairsNear, cX6_pairsNear, 4, (some .int))
abbrev mX6_play : qY := (yX6_play, cX6_play, 4, none)
abbrev mX6_startOrMissIfDue : qY := (yX6_startOrMissIfDue, cX6_startOrMissIfDue, 5, none)
abbrev mX7_init : qY := (yX7_init, cX7_init, 1, none)
abbrev mX7_shuts : qY := (yX7_shuts, cX7_shuts, 5, (some .boolean))
abbrev mX8_ask : qY := (yX8_ask, cX8_ask, 5, (some .int))
abbrev mX8_checkArgument : qY := (yX8_checkArgument, cX8_checkArgument, 1, none)
abbrev mX8_checkCell : qY := (yX8_checkCell, cX8_checkCell, 1, none)
abbrev mX8_checkCraft : qY := (yX8_checkCraft, cX8_checkCraft, 2, none)
abbrev mX8_checkFlight : qY := (yX8_checkFlight, cX8_checkFlight, 2, none)
abbrev mX8_checkIndex : qY := (yX8_checkIndex, cX8_checkIndex, 1, none)
abbrev mX8_checkMinutes : qY := (yX8_checkMinutes, cX8_checkMinutes, 1, none)
abbrev mX8_checkStart : qY := (yX8_checkStart, cX8_checkStart, 2, none)
abbrev mX8_checkState : qY := (yX8_checkState, cX8_checkState, 1, none)
abbrev mX8_clear : qY := (yX8_clear, cX8_clear, 2, (some .int))
abbrev mX8_cost : qY := (yX8_cost, cX8_cost, 3, (some .int))
abbrev mX8_craft : qY := (yX8_craft, cX8_craft, 6, (some .int))
abbrev mX8_digest : qY := (yX8_digest, cX8_digest, 5, (some .long))
abbrev mX8_draft : qY := (yX8_draft, cX8_draft, 2, (some .int))
abbrev mX8_fetch : qY := (yX8_fetch, cX8_fetch, 4, (some .int))
abbrev mX8_houses : qY := (yX8_houses, cX8_houses, 4, (some .int))
abbrev mX8_init : qY := (yX8_init, cX8_init, 1, none)
abbrev mX8_isCell : qY := (yX8_isCell, cX8_isCell, 1, (some .boolean))
abbrev mX8_link : qY := (yX8_link, cX8_link, 4, (some .boolean))
abbrev mX8_many : qY := (yX8_many, cX8_many, 2, (some .int))
abbrev mX8_meanCharge : qY := (yX8_meanCharge, cX8_meanCharge, 5, (some .double))
abbrev mX8_mixed : qY := (yX8_mixed, cX8_mixed, 3, (some .long))
abbrev mX8_occupies : qY := (yX8_occupies, cX8_occupies, 5, (some .int))
abbrev mX8_ofCell : qY := (yX8_ofCell, cX8_ofCell, 3, (some .int))
abbrev mX8_ofCraft : qY := (yX8_ofCraft, cX8_ofCraft, 4, (some .int))
abbrev mX8_ofFlight : qY := (yX8_ofFlight, cX8_ofFlight, 4, (some .int))
abbrev mX8_pad : qY := (yX8_pad, cX8_pad, 2, (some .int))
abbrev mX8_pass : qY := (yX8_pass, cX8_pass, 3, (some .int))
abbrev mX8_soonest : qY := (yX8_soonest, cX8_soonest, 3, (some .int))
abbrev mX8_tower : qY := (yX8_tower, cX8_tower, 4, (some .boolean))
abbrev mX8_way : qY := (yX8_way, cX8_way, 3, (some .int))
abbrev mX8_why : qY := (yX8_why, cX8_why, 3, (some .int))
abbrev mX8_wind : qY := (yX8_wind, cX8_wind, 4, (some .int))
abbrev mX8_withdraw : qY := (yX8_withdraw, cX8_withdraw, 3, (some .int))
abbrev mX8_wouldHave : qY := (yX8_wouldHave, cX8_wouldHave, 4, (some .int))
abbrev mX8_wouldNear : qY := (yX8_wouldNear, cX8_wouldNear, 2, (some .int))
abbrev mX8_zone : qY := (yX8_zone, cX8_zone, 5, (some .int))
set_option maxRecDepth 100000 in
theorem mfJ7_fill : qMf mJ7_fill 2 := ⟨qm1 37 rfl (by decide +kernel), qm1 3 (by decide +kernel) (by decide +kernel), (by decide +kernel), (by decide +kernel), (by decide +kernel)⟩
theorem msJ7_fill : Cond.static mJ7_fill.1 ∈ qTBL := qm1 36 (by decide +kernel) (by decide +kernel)
set_option maxRecDepth 100000 in
theorem mfL_below : qMf mL_below 2 := ⟨qm4 65 rfl (by decide +kernel), qm1 0 (by decide +kernel) (by decide +kernel), (by decide +kernel), (by decide +kernel), (by decide +kernel)⟩
theorem msL_below : Cond.static mL_below.1 ∈ qTBL := qm4 64 (by decide +kernel) (by decide +kernel)
set_option maxRecDepth 100000 in
theorem mfL_cell : qMf mL_cell 2 := ⟨qm4 69 rfl (by decide +kernel), qm1 0 (by decide +kernel) (by decide +kernel), (by decide +kernel), (by decide +kernel), (by decide +kernel)⟩
theorem msL_cell : Cond.static mL_cell.1 ∈ qTBL := qm4 68 (by decide +kernel) (by decide +kernel)
set_option maxRecDepth 100000 in
theorem mfL_isAsked : qMf mL_isAsked 5 := ⟨qm4 73 rfl (by decide +kernel), qm1 0 (by decide +kernel) (by decide +kernel), (by decide +kernel), (by decide +kernel), (by decide +kernel)⟩
theorem msL_isAsked : Cond.static mL_isAsked.1 ∈ qTBL := qm4 72 (by decide +kernel) (by decide +kernel)
set_option maxRecDepth 100000 in
theorem mfL_isPassed : qMf mL_isPassed 2 := ⟨qm4 99 rfl (by decide +kernel), qm1 0 (by decide +kernel) (by decide +kernel), (by decide +kernel), (by decide +kernel), (by decide +kernel)⟩
theorem msL_isPassed : Cond.static mL_isPassed.1 ∈ qTBL := qm4 98 (by decide +kernel) (by decide +kernel)
set_option maxRecDepth 100000 in
theorem mfX0_copyFrom : qMf mX0_copyFrom 1 := ⟨qm3 92 rfl (by decide +kernel), qm1 6 (by decide +kernel) (by decide +kernel), (by decide +kernel), (by decide +kernel), (by decide +kernel)⟩
theorem mvX0_copyFrom : qMv mX0_copyFrom := ⟨qm3 91 (by decide +kernel) (by decide +kernel), qm0 17 (by decide +kernel) (by decide +kernel)⟩
set_option maxRecDepth 100000 in
theorem mfX0_goDown : qMf mX0_goDown 0 := ⟨qm3 166 rfl (by decide +kernel), qm1 6 (by decide +kernel) (by decide +kernel), (by decide +kernel), (by decide +kernel), (by decide +kernel)⟩
theorem mvX0_goDown : qMv mX0_goDown := ⟨qm3 165 (by decide +kernel) (by decide +kernel), qm0 31 (by decide +kernel) (by decide +kernel)⟩
set_option maxRecDepth 100000 in
theorem mfX0_init : qMf mX0_init 0 := ⟨qm1 115 rfl (by decide +kernel), qm1 6 (by decide +kernel) (by decide +kernel), (by decide +kernel), (by decide +kernel), (by decide +kernel)⟩
theorem miX0_init : qMi mX0_init := ⟨qm1 114 (by decide +kernel) (by decide +kernel), (by decide +kernel), (by decide +kernel)⟩
set_option maxRecDepth 100000 in
theorem mfX0_landAt : qMf mX0_landAt 1 := ⟨qm3 170 rfl (by decide +kernel), qm1 6 (by decide +kernel) (by decide +kernel), (by decide +kernel), (by decide +kernel), (by decide +kernel)⟩
theorem mvX0_landAt : qMv mX0_landAt := ⟨qm3 169 (by decide +kernel) (by decide +kernel), qm0 32 (by decide +kernel) (by decide +kernel)⟩
set_option maxRecDepth 100000 in
theorem mfX0_nextCellHome : qMf mX0_nextCellHome 0 := ⟨qm3 143 rfl (by decide +kernel), qm1 6 (by decide +kernel) (by decide +kernel), (by decide +kernel), (by decide +kernel), (by decide +kernel)⟩
theorem mvX0_nextCellHome : qMv mX0_nextCellHome := ⟨qm3 142 (by decide +kernel) (by decide +kernel), qm0 28 (by decide +kernel) (by decide +kernel)⟩
set_option maxRecDepth 100000 in
theorem mfX1_copyFrom : qMf mX1_copyFrom 1 := ⟨qm3 96 rfl (by decide +kernel), qm1 7 (by decide +kernel) (by decide +kernel), (by decide +kernel), (by decide +kernel), (by decide +kernel)⟩
theorem mvX1_copyFrom : qMv mX1_copyFrom := ⟨qm3 95 (by decide +kernel) (by decide +kernel), qm0 18 (by decide +kernel) (by decide +kernel)⟩
set_option maxRecDepth 100000 in
theorem mfX1_init : qMf mX1_init 0 := ⟨qm1 184 rfl (by decide +kernel), qm1 7 (by decide +kernel) (by decide +kernel), (by decide +kernel), (by decide +kernel), (by decide +kernel)⟩
theorem miX1_init : qMi mX1_init := ⟨qm1 183 (by decide +kernel) (by decide +kernel), (by decide +kernel), (by decide +kernel)⟩
set_option maxRecDepth 100000 in
theorem mfX1_isAhead : qMf mX1_isAhead 0 := ⟨qm3 31 rfl (by decide +kernel), qm1 7 (by decide +kernel) (by decide +kernel), (by decide +kernel), (by decide +kernel), (by decide +kernel)⟩
theorem mvX1_isAhead : qMv mX1_isAhead := ⟨qm3 30 (by decide +kernel) (by decide +kernel), qm0 9 (by decide +kernel) (by decide +kernel)⟩
set_option maxRecDepth 100000 in
theorem mfX1_isCloseInTime : qMf mX1_isCloseInTime 2 := ⟨qm4 44 rfl (by decide +kernel), qm1 7 (by decide +kernel) (by decide +kernel), (by decide +kernel), (by decide +kernel), (by decide +kernel)⟩
theorem mvX1_isCloseInTime : qMv mX1_isCloseInTime := ⟨qm4 43 (by decide +kernel) (by decide +kernel), qm0 48 (by decide +kernel) (by decide +kernel)⟩
set_option maxRecDepth 100000 in
theorem mfX1_isPlannedOn : qMf mX1_isPlannedOn 1 := ⟨qm3 27 rfl (by decide +kernel), qm1 7 (by decide +kernel) (by decide +kernel), (by decide +kernel), (by decide +kernel), (by decide +kernel)⟩
theorem mvX1_isPlannedOn : qMv mX1_isPlannedOn := ⟨qm3 26 (by decide +kernel) (by decide +kernel), qm0 8 (by decide +kernel) (by decide +kernel)⟩
set_option maxRecDepth 100000 in
theorem mfX1_meets : qMf mX1_meets 2 := ⟨qm4 49 rfl (by decide +kernel), qm1 7 (by decide +kernel) (by decide +kernel), (by decide +kernel), (by decide +kernel), (by decide +kernel)⟩
theorem mvX1_meets : qMv mX1_meets := ⟨qm4 48 (by decide +kernel) (by decide +kernel), qm0 49 (by decide +kernel) (by decide +kernel)⟩
set_option maxRecDepth 100000 in
theorem mfX1_occupiesIn : qMf mX1_occupiesIn 2 := ⟨qm3 201 rfl (by decide +kernel), qm1 7 (by decide +kernel) (by decide +kernel), (by decide +kernel), (by decide +kernel), (by decide +kernel)⟩
theorem mvX1_occupiesIn : qMv mX1_occupiesIn := ⟨qm3 200 (by decide +kernel) (by decide +kernel), qm0 35 (by decide +kernel) (by decide +kernel)⟩
set_option maxRecDepth 100000 in
theorem mfX2_addPad : qMf mX2_addPad 1 := ⟨qm2 210 rfl (by decide +kernel), qm1 2 (by decide +kernel) (by decide +kernel), (by decide +kernel), (by decide +kernel), (by decide +kernel)⟩
theorem mvX2_addPad : qMv mX2_addPad := ⟨qm2 209 (by decide +kernel) (by decide +kernel), qm0 1 (by decide +kernel) (by decide +kernel)⟩
set_option maxRecDepth 100000 in
theorem mfX2_addZone : qMf mX2_addZone 4 := ⟨qm2 218 rfl (by decide +kernel), qm1 2 (by decide +kernel) (by decide +kernel), (by decide +kernel), (by decide +kernel), (by decide +kernel)⟩
theorem mvX2_addZone : qMv mX2_addZone := ⟨qm2 217 (by decide +kernel) (by decide +kernel), qm0 2 (by decide +kernel) (by decide +kernel)⟩
set_option maxRecDepth 100000 in
theorem mfX2_costOfMove : qMf mX2_costOfMove 1 := ⟨qm3 159 rfl (by decide +kernel), qm1 2 (by decide +kernel) (by decide +kernel), (by decide +kernel), (by decide +kernel), (by decide +kernel)⟩
theorem mvX2_costOfMove : qMv mX2_costOfMove := ⟨qm3 158 (by decide +kernel) (by decide +kernel), qm0 30 (by decide +kernel) (by decide +kernel)⟩
set_option maxRecDepth 100000 in
theorem mfX2_costOfRoute : qMf mX2_costOfRoute 1 := ⟨qm4 57 rfl (by decide +kernel), qm1 2 (by decide +kernel) (by decide +kernel), (by decide +kernel), (by decide +kernel), (by decide +kernel)⟩
theorem mvX2_costOfRoute : qMv mX2_costOfRoute := ⟨qm4 56 (by decide +kernel) (by decide +kernel), qm0 51 (by decide +kernel) (by decide +kernel)⟩
set_option maxRecDepth 100000 in
theorem mfX2_directionTo : qMf mX2_directionTo 2 := ⟨qm3 151 rfl (by decide +kernel), qm1 2 (by decide +kernel) (by decide +kernel), (by decide +kernel), (by decide +kernel), (by decide +kernel)⟩
theorem msX2_directionTo : Cond.static mX2_directionTo.1 ∈ qTBL := qm3 150 (by decide +kernel) (by decide +kernel)
set_option maxRecDepth 100000 in
theorem mfX2_hasPad : qMf mX2_hasPad 1 := ⟨qm4 12 rfl (by decide +kernel), qm1 2 (by decide +kernel) (by decide +kernel), (by decide +kernel), (by decide +kernel), (by decide +kernel)⟩
theorem mvX2_hasPad : qMv mX2_hasPad := ⟨qm4 11 (by decide +kernel) (by decide +kernel), qm0 42 (by decide +kernel) (by decide +kernel)⟩
set_option maxRecDepth 100000 in
theorem mfX2_init : qMf mX2_init 0 := ⟨qm1 31 rfl (by decide +kernel), qm1 2 (by decide +kernel) (by decide +kernel), (by decide +kernel), (by decide +kernel), (by decide +kernel)⟩
theorem miX2_init : qMi mX2_init := ⟨qm1 30 (by decide +kernel) (by decide +kernel), (by decide +kernel), (by decide +kernel)⟩
set_option maxRecDepth 100000 in
theorem mfX2_isShut : qMf mX2_isShut 3 := ⟨qm3 127 rfl (by decide +kernel), qm1 2 (by decide +kernel) (by decide +kernel), (by decide +kernel), (by decide +kernel), (by decide +kernel)⟩
theorem mvX2_isShut : qMv mX2_isShut := ⟨qm3 126 (by decide +kernel) (by decide +kernel), qm0 24 (by decide +kernel) (by decide +kernel)⟩
set_option maxRecDepth 100000 in
theorem mfX2_isWayFromPadToPad : qMf mX2_isWayFromPadToPad 1 := ⟨qm4 7 rfl (by decide +kernel), qm1 2 (by decide +kernel) (by decide +kernel), (by decide +kernel), (by decide +kernel), (by decide +kernel)⟩
theorem mvX2_isWayFromPadToPad : qMv mX2_isWayFromPadToPad := ⟨qm4 6 (by decide +kernel) (by decide +kernel), qm0 41 (by decide +kernel) (by decide +kernel)⟩
set_option maxRecDepth 100000 in
theorem mfX2_neighbour : qMf mX2_neighbour 2 := ⟨qm3 155 rfl (by decide +kernel), qm1 2 (by decide +kernel) (by decide +kernel), (by decide +kernel), (by decide +kernel), (by decide +kernel)⟩
theorem msX2_neighbour : Cond.static mX2_neighbour.1 ∈ qTBL := qm3 154 (by decide +kernel) (by decide +kernel)
set_option maxRecDepth 100000 in
theorem mfX3_init : qMf mX3_init 2 := ⟨qm2 33 rfl (by decide +kernel), qm1 9 (by decide +kernel) (by decide +kernel), (by decide +kernel), (by decide +kernel), (by decide +kernel)⟩
theorem miX3_init : qMi mX3_init := ⟨qm2 32 (by decide +kernel) (by decide +kernel), (by decide +kernel), (by decide +kernel)⟩
set_option maxRecDepth 100000 in
theorem mfX3_isTooLoud : qMf mX3_isTooLoud 3 := ⟨qm4 62 rfl (by decide +kernel), qm1 9 (by decide +kernel) (by decide +kernel), (by decide +kernel), (by decide +kernel), (by decide +kernel)⟩
theorem mvX3_isTooLoud : qMv mX3_isTooLoud := ⟨qm4 61 (by decide +kernel) (by decide +kernel), qm0 52 (by decide +kernel) (by decide +kernel)⟩
set_option maxRecDepth 100000 in
theorem mfX3_meetsItself : qMf mX3_meetsItself 3 := ⟨qm4 53 rfl (by decide +kernel), qm1 9 (by decide +kernel) (by decide +kernel), (by decide +kernel), (by decide +kernel), (by decide +kernel)⟩
theorem mvX3_meetsItself : qMv mX3_meetsItself := ⟨qm4 52 (by decide +kernel) (by decide +kernel), qm0 50 (by decide +kernel) (by decide +kernel)⟩
set_option maxRecDepth 100000 in
theorem mfX3_meetsOthers : qMf mX3_meetsOthers 3 := ⟨qm4 39 rfl (by decide +kernel), qm1 9 (by decide +kernel) (by decide +kernel), (by decide +kernel), (by decide +kernel), (by decide +kernel)⟩
theorem mvX3_meetsOthers : qMv mX3_meetsOthers := ⟨qm4 38 (by decide +kernel) (by decide +kernel), qm0 47 (by decide +kernel) (by decide +kernel)⟩
set_option maxRecDepth 100000 in
theorem mfX3_meetsTower : qMf mX3_meetsTower 1 := ⟨qm4 30 rfl (by decide +kernel), qm1 9 (by decide +kernel) (by decide +kernel), (by decide +kernel), (by decide +kernel), (by decide +kernel)⟩
theorem mvX3_meetsTower : qMv mX3_meetsTower := ⟨qm4 29 (by decide +kernel) (by decide +kernel), qm0 45 (by decide +kernel) (by decide +kernel)⟩
set_option maxRecDepth 100000 in
theorem mfX3_meetsZone : qMf mX3_meetsZone 3 := ⟨qm4 34 rfl (by decide +kernel), qm1 9 (by decide +kernel) (by decide +kernel), (by decide +kernel), (by decide +kernel), (by decide +kernel)⟩
theorem mvX3_meetsZone : qMv mX3_meetsZone := ⟨qm4 33 (by decide +kernel) (by decide +kernel), qm0 46 (by decide +kernel) (by decide +kernel)⟩
set_option maxRecDepth 100000 in
theorem mfX3_plan : qMf mX3_plan 2 := ⟨qm3 36 rfl (by decide +kernel), qm1 9 (by decide +kernel) (by decide +kernel), (by decide +kernel), (by decide +kernel), (by decide +kernel)⟩
theorem mvX3_plan : qMv mX3_plan := ⟨qm3 35 (by decide +kernel) (by decide +kernel), qm0 10 (by decide +kernel) (by decide +kernel)⟩
set_option maxRecDepth 100000 in
theorem mfX3_planDay : qMf mX3_planDay 1 := ⟨qm3 22 rfl (by decide +kernel), qm1 9 (by decide +kernel) (by decide +kernel), (by decide +kernel), (by decide +kernel), (by decide +kernel)⟩
theorem mvX3_planDay : qMv mX3_planDay := ⟨qm3 21 (by decide +kernel) (by decide +kernel), qm0 7 (by decide +kernel) (by decide +kernel)⟩
set_option maxRecDepth 100000 in
theorem mfX3_plannedNoise : qMf mX3_plannedNoise 2 := ⟨qm3 18 rfl (by decide +kernel), qm1 9 (by decide +kernel) (by decide +kernel), (by decide +kernel), (by decide +kernel), (by decide +kernel)⟩
theorem mvX3_plannedNoise : qMv mX3_plannedNoise := ⟨qm3 17 (by decide +kernel) (by decide +kernel), qm0 6 (by decide +kernel) (by decide +kernel)⟩
set_option maxRecDepth 100000 in
theorem mfX3_reasonAgainst : qMf mX3_reasonAgainst 3 := ⟨qm4 26 rfl (by decide +kernel), qm1 9 (by decide +kernel) (by decide +kernel), (by decide +kernel), (by decide +kernel), (by decide +kernel)⟩
theorem mvX3_reasonAgainst : qMv mX3_reasonAgainst := ⟨qm4 25 (by decide +kernel) (by decide +kernel), qm0 44 (by decide +kernel) (by decide +kernel)⟩
set_option maxRecDepth 100000 in
theorem mfX4_at : qMf mX4_at 1 := ⟨qm3 40 rfl (by decide +kernel), qm1 8 (by decide +kernel) (by decide +kernel), (by decide +kernel), (by decide +kernel), (by decide +kernel)⟩
theorem mvX4_at : qMv mX4_at := ⟨qm3 39 (by decide +kernel) (by decide +kernel), qm0 11 (by decide +kernel) (by decide +kernel)⟩
set_option maxRecDepth 100000 in
theorem mfX4_copyFrom : qMf mX4_copyFrom 1 := ⟨qm3 100 rfl (by decide +kernel), qm1 8 (by decide +kernel) (by decide +kernel), (by decide +kernel), (by decide +kernel), (by decide +kernel)⟩
theorem mvX4_copyFrom : qMv mX4_copyFrom := ⟨qm3 99 (by decide +kernel) (by decide +kernel), qm0 19 (by decide +kernel) (by decide +kernel)⟩
set_option maxRecDepth 100000 in
theorem mfX4_endFrom : qMf mX4_endFrom 1 := ⟨qm3 59 rfl (by decide +kernel), qm1 8 (by decide +kernel) (by decide +kernel), (by decide +kernel), (by decide +kernel), (by decide +kernel)⟩
theorem mvX4_endFrom : qMv mX4_endFrom := ⟨qm3 58 (by decide +kernel) (by decide +kernel), qm0 13 (by decide +kernel) (by decide +kernel)⟩
set_option maxRecDepth 100000 in
theorem mfX4_first : qMf mX4_first 0 := ⟨qm3 118 rfl (by decide +kernel), qm1 8 (by decide +kernel) (by decide +kernel), (by decide +kernel), (by decide +kernel), (by decide +kernel)⟩
theorem mvX4_first : qMv mX4_first := ⟨qm3 117 (by decide +kernel) (by decide +kernel), qm0 22 (by decide +kernel) (by decide +kernel)⟩
set_option maxRecDepth 100000 in
theorem mfX4_init : qMf mX4_init 0 := ⟨qm1 190 rfl (by decide +kernel), qm1 8 (by decide +kernel) (by decide +kernel), (by decide +kernel), (by decide +kernel), (by decide +kernel)⟩
end
section
theorem miX4_init : qMi mX4_init := ⟨qm1 189 (by decide +kernel) (by decide +kernel), (by decide +kernel), (by decide +kernel)⟩
set_option maxRecDepth 100000 in
theorem mfX4_last : qMf mX4_last 0 := ⟨qm4 16 rfl (by decide +kernel), qm1 8 (by decide +kernel) (by decide +kernel), (by decide +kernel), (by decide +kernel), (by decide +kernel)⟩
theorem mvX4_last : qMv mX4_last := ⟨qm4 15 (by decide +kernel) (by decide +kernel), qm0 43 (by decide +kernel) (by decide +kernel)⟩
set_option maxRecDepth 100000 in
theorem mfX5_fewestMoves : qMf mX5_fewestMoves 3 := ⟨qm3 211 rfl (by decide +kernel), qm1 10 (by decide +kernel) (by decide +kernel), (by decide +kernel), (by decide +kernel), (by decide +kernel)⟩
theorem mvX5_fewestMoves : qMv mX5_fewestMoves := ⟨qm3 210 (by decide +kernel) (by decide +kernel), qm0 36 (by decide +kernel) (by decide +kernel)⟩
set_option maxRecDepth 100000 in
theorem mfX5_init : qMf mX5_init 1 := ⟨qm2 49 rfl (by decide +kernel), qm1 10 (by decide +kernel) (by decide +kernel), (by decide +kernel), (by decide +kernel), (by decide +kernel)⟩
theorem miX5_init : qMi mX5_init := ⟨qm2 48 (by decide +kernel) (by decide +kernel), (by decide +kernel), (by decide +kernel)⟩
set_option maxRecDepth 100000 in
theorem mfX5_least : qMf mX5_least 4 := ⟨qm3 215 rfl (by decide +kernel), qm1 10 (by decide +kernel) (by decide +kernel), (by decide +kernel), (by decide +kernel), (by decide +kernel)⟩
theorem mvX5_least : qMv mX5_least := ⟨qm3 214 (by decide +kernel) (by decide +kernel), qm0 37 (by decide +kernel) (by decide +kernel)⟩
set_option maxRecDepth 100000 in
theorem mfX5_leastCharge : qMf mX5_leastCharge 3 := ⟨qm3 237 rfl (by decide +kernel), qm1 10 (by decide +kernel) (by decide +kernel), (by decide +kernel), (by decide +kernel), (by decide +kernel)⟩
theorem mvX5_leastCharge : qMv mX5_leastCharge := ⟨qm3 236 (by decide +kernel) (by decide +kernel), qm0 40 (by decide +kernel) (by decide +kernel)⟩
set_option maxRecDepth 100000 in
theorem mfX5_spread : qMf mX5_spread 3 := ⟨qm3 227 rfl (by decide +kernel), qm1 10 (by decide +kernel) (by decide +kernel), (by decide +kernel), (by decide +kernel), (by decide +kernel)⟩
theorem mvX5_spread : qMv mX5_spread := ⟨qm3 226 (by decide +kernel) (by decide +kernel), qm0 39 (by decide +kernel) (by decide +kernel)⟩
set_option maxRecDepth 100000 in
theorem mfX5_spreadAll : qMf mX5_spreadAll 1 := ⟨qm3 223 rfl (by decide +kernel), qm1 10 (by decide +kernel) (by decide +kernel), (by decide +kernel), (by decide +kernel), (by decide +kernel)⟩
theorem mvX5_spreadAll : qMv mX5_spreadAll := ⟨qm3 222 (by decide +kernel) (by decide +kernel), qm0 38 (by decide +kernel) (by decide +kernel)⟩
set_option maxRecDepth 100000 in
theorem mfX6_allBreaches : qMf mX6_allBreaches 0 := ⟨qm3 72 rfl (by decide +kernel), qm1 5 (by decide +kernel) (by decide +kernel), (by decide +kernel), (by decide +kernel), (by decide +kernel)⟩
theorem mvX6_allBreaches : qMv mX6_allBreaches := ⟨qm3 71 (by decide +kernel) (by decide +kernel), qm0 15 (by decide +kernel) (by decide +kernel)⟩
set_option maxRecDepth 100000 in
theorem mfX6_chargeIfLying : qMf mX6_chargeIfLying 1 := ⟨qm3 178 rfl (by decide +kernel), qm1 5 (by decide +kernel) (by decide +kernel), (by decide +kernel), (by decide +kernel), (by decide +kernel)⟩
theorem mvX6_chargeIfLying : qMv mX6_chargeIfLying := ⟨qm3 177 (by decide +kernel) (by decide +kernel), qm0 34 (by decide +kernel) (by decide +kernel)⟩
set_option maxRecDepth 100000 in
theorem mfX6_comeIn : qMf mX6_comeIn 1 := ⟨qm3 122 rfl (by decide +kernel), qm1 5 (by decide +kernel) (by decide +kernel), (by decide +kernel), (by decide +kernel), (by decide +kernel)⟩
theorem mvX6_comeIn : qMv mX6_comeIn := ⟨qm3 121 (by decide +kernel) (by decide +kernel), qm0 23 (by decide +kernel) (by decide +kernel)⟩
set_option maxRecDepth 100000 in
theorem mfX6_copyFrom : qMf mX6_copyFrom 1 := ⟨qm3 88 rfl (by decide +kernel), qm1 5 (by decide +kernel) (by decide +kernel), (by decide +kernel), (by decide +kernel), (by decide +kernel)⟩
theorem mvX6_copyFrom : qMv mX6_copyFrom := ⟨qm3 87 (by decide +kernel) (by decide +kernel), qm0 16 (by decide +kernel) (by decide +kernel)⟩
set_option maxRecDepth 100000 in
theorem mfX6_flightsIn : qMf mX6_flightsIn 1 := ⟨qm3 68 rfl (by decide +kernel), qm1 5 (by decide +kernel) (by decide +kernel), (by decide +kernel), (by decide +kernel), (by decide +kernel)⟩
theorem mvX6_flightsIn : qMv mX6_flightsIn := ⟨qm3 67 (by decide +kernel) (by decide +kernel), qm0 14 (by decide +kernel) (by decide +kernel)⟩
set_option maxRecDepth 100000 in
theorem mfX6_flyingIn : qMf mX6_flyingIn 1 := ⟨qm3 45 rfl (by decide +kernel), qm1 5 (by decide +kernel) (by decide +kernel), (by decide +kernel), (by decide +kernel), (by decide +kernel)⟩
theorem mvX6_flyingIn : qMv mX6_flyingIn := ⟨qm3 44 (by decide +kernel) (by decide +kernel), qm0 12 (by decide +kernel) (by decide +kernel)⟩
set_option maxRecDepth 100000 in
theorem mfX6_init : qMf mX6_init 1 := ⟨qm1 106 rfl (by decide +kernel), qm1 5 (by decide +kernel) (by decide +kernel), (by decide +kernel), (by decide +kernel), (by decide +kernel)⟩
theorem miX6_init : qMi mX6_init := ⟨qm1 105 (by decide +kernel) (by decide +kernel), (by decide +kernel), (by decide +kernel)⟩
set_option maxRecDepth 100000 in
theorem mfX6_isCraft : qMf mX6_isCraft 1 := ⟨qm2 238 rfl (by decide +kernel), qm1 5 (by decide +kernel) (by decide +kernel), (by decide +kernel), (by decide +kernel), (by decide +kernel)⟩
theorem mvX6_isCraft : qMv mX6_isCraft := ⟨qm2 237 (by decide +kernel) (by decide +kernel), qm0 4 (by decide +kernel) (by decide +kernel)⟩
set_option maxRecDepth 100000 in
theorem mfX6_isToMove : qMf mX6_isToMove 1 := ⟨qm3 135 rfl (by decide +kernel), qm1 5 (by decide +kernel) (by decide +kernel), (by decide +kernel), (by decide +kernel), (by decide +kernel)⟩
theorem mvX6_isToMove : qMv mX6_isToMove := ⟨qm3 134 (by decide +kernel) (by decide +kernel), qm0 26 (by decide +kernel) (by decide +kernel)⟩
set_option maxRecDepth 100000 in
theorem mfX6_move : qMf mX6_move 1 := ⟨qm3 139 rfl (by decide +kernel), qm1 5 (by decide +kernel) (by decide +kernel), (by decide +kernel), (by decide +kernel), (by decide +kernel)⟩
theorem mvX6_move : qMv mX6_move := ⟨qm3 138 (by decide +kernel) (by decide +kernel), qm0 27 (by decide +kernel) (by decide +kernel)⟩
set_option maxRecDepth 100000 in
theorem mfX6_movesInto : qMf mX6_movesInto 3 := ⟨qm3 148 rfl (by decide +kernel), qm1 5 (by decide +kernel) (by decide +kernel), (by decide +kernel), (by decide +kernel), (by decide +kernel)⟩
theorem mvX6_movesInto : qMv mX6_movesInto := ⟨qm3 147 (by decide +kernel) (by decide +kernel), qm0 29 (by decide +kernel) (by decide +kernel)⟩
set_option maxRecDepth 100000 in
theorem mfX6_pairsNear : qMf mX6_pairsNear 0 := ⟨qm3 174 rfl (by decide +kernel), qm1 5 (by decide +kernel) (by decide +kernel), (by decide +kernel), (by decide +kernel), (by decide +kernel)⟩
theorem mvX6_pairsNear : qMv mX6_pairsNear := ⟨qm3 173 (by decide +kernel) (by decide +kernel), qm0 33 (by decide +kernel) (by decide +kernel)⟩
set_option maxRecDepth 100000 in
theorem mfX6_play : qMf mX6_play 1 := ⟨qm3 108 rfl (by decide +kernel), qm1 5 (by decide +kernel) (by decide +kernel), (by decide +kernel), (by decide +kernel), (by decide +kernel)⟩
theorem mvX6_play : qMv mX6_play := ⟨qm3 107 (by decide +kernel) (by decide +kernel), qm0 20 (by decide +kernel) (by decide +kernel)⟩
set_option maxRecDepth 100000 in
theorem mfX6_startOrMissIfDue : qMf mX6_startOrMissIfDue 1 := ⟨qm3 113 rfl (by decide +kernel), qm1 5 (by decide +kernel) (by decide +kernel), (by decide +kernel), (by decide +kernel), (by decide +kernel)⟩
theorem mvX6_startOrMissIfDue : qMv mX6_startOrMissIfDue := ⟨qm3 112 (by decide +kernel) (by decide +kernel), qm0 21 (by decide +kernel) (by decide +kernel)⟩
set_option maxRecDepth 100000 in
theorem mfX7_init : qMf mX7_init 0 := ⟨qm1 41 rfl (by decide +kernel), qm1 4 (by decide +kernel) (by decide +kernel), (by decide +kernel), (by decide +kernel), (by decide +kernel)⟩
theorem miX7_init : qMi mX7_init := ⟨qm1 40 (by decide +kernel) (by decide +kernel), (by decide +kernel), (by decide +kernel)⟩
set_option maxRecDepth 100000 in
theorem mfX7_shuts : qMf mX7_shuts 3 := ⟨qm3 131 rfl (by decide +kernel), qm1 4 (by decide +kernel) (by decide +kernel), (by decide +kernel), (by decide +kernel), (by decide +kernel)⟩
theorem mvX7_shuts : qMv mX7_shuts := ⟨qm3 130 (by decide +kernel) (by decide +kernel), qm0 25 (by decide +kernel) (by decide +kernel)⟩
set_option maxRecDepth 100000 in
theorem mfX8_ask : qMf mX8_ask 2 := ⟨qm4 94 rfl (by decide +kernel), qm1 1 (by decide +kernel) (by decide +kernel), (by decide +kernel), (by decide +kernel), (by decide +kernel)⟩
theorem mvX8_ask : qMv mX8_ask := ⟨qm4 92 (by decide +kernel) (by decide +kernel), qm4 93 (by decide +kernel) (by decide +kernel)⟩
set_option maxRecDepth 100000 in
theorem mfX8_checkArgument : qMf mX8_checkArgument 1 := ⟨qm2 163 rfl (by decide +kernel), qm1 1 (by decide +kernel) (by decide +kernel), (by decide +kernel), (by decide +kernel), (by decide +kernel)⟩
theorem msX8_checkArgument : Cond.static mX8_checkArgument.1 ∈ qTBL := qm2 162 (by decide +kernel) (by decide +kernel)
set_option maxRecDepth 100000 in
theorem mfX8_checkCell : qMf mX8_checkCell 1 := ⟨qm2 86 rfl (by decide +kernel), qm1 1 (by decide +kernel) (by decide +kernel), (by decide +kernel), (by decide +kernel), (by decide +kernel)⟩
theorem msX8_checkCell : Cond.static mX8_checkCell.1 ∈ qTBL := qm2 85 (by decide +kernel) (by decide +kernel)
set_option maxRecDepth 100000 in
theorem mfX8_checkCraft : qMf mX8_checkCraft 1 := ⟨qm2 234 rfl (by decide +kernel), qm1 1 (by decide +kernel) (by decide +kernel), (by decide +kernel), (by decide +kernel), (by decide +kernel)⟩
theorem mvX8_checkCraft : qMv mX8_checkCraft := ⟨qm2 233 (by decide +kernel) (by decide +kernel), qm0 3 (by decide +kernel) (by decide +kernel)⟩
set_option maxRecDepth 100000 in
theorem mfX8_checkFlight : qMf mX8_checkFlight 1 := ⟨qm3 10 rfl (by decide +kernel), qm1 1 (by decide +kernel) (by decide +kernel), (by decide +kernel), (by decide +kernel), (by decide +kernel)⟩
theorem mvX8_checkFlight : qMv mX8_checkFlight := ⟨qm3 9 (by decide +kernel) (by decide +kernel), qm0 5 (by decide +kernel) (by decide +kernel)⟩
set_option maxRecDepth 100000 in
theorem mfX8_checkIndex : qMf mX8_checkIndex 1 := ⟨qm2 92 rfl (by decide +kernel), qm1 1 (by decide +kernel) (by decide +kernel), (by decide +kernel), (by decide +kernel), (by decide +kernel)⟩
theorem msX8_checkIndex : Cond.static mX8_checkIndex.1 ∈ qTBL := qm2 91 (by decide +kernel) (by decide +kernel)
set_option maxRecDepth 100000 in
theorem mfX8_checkMinutes : qMf mX8_checkMinutes 1 := ⟨qm3 84 rfl (by decide +kernel), qm1 1 (by decide +kernel) (by decide +kernel), (by decide +kernel), (by decide +kernel), (by decide +kernel)⟩
theorem msX8_checkMinutes : Cond.static mX8_checkMinutes.1 ∈ qTBL := qm3 83 (by decide +kernel) (by decide +kernel)
set_option maxRecDepth 100000 in
theorem mfX8_checkStart : qMf mX8_checkStart 1 := ⟨qm4 89 rfl (by decide +kernel), qm1 1 (by decide +kernel) (by decide +kernel), (by decide +kernel), (by decide +kernel), (by decide +kernel)⟩
theorem mvX8_checkStart : qMv mX8_checkStart := ⟨qm4 88 (by decide +kernel) (by decide +kernel), qm0 53 (by decide +kernel) (by decide +kernel)⟩
set_option maxRecDepth 100000 in
theorem mfX8_checkState : qMf mX8_checkState 1 := ⟨qm2 186 rfl (by decide +kernel), qm1 1 (by decide +kernel) (by decide +kernel), (by decide +kernel), (by decide +kernel), (by decide +kernel)⟩
theorem msX8_checkState : Cond.static mX8_checkState.1 ∈ qTBL := qm2 185 (by decide +kernel) (by decide +kernel)
set_option maxRecDepth 100000 in
theorem mfX8_clear : qMf mX8_clear 0 := ⟨qm4 77 rfl (by decide +kernel), qm1 1 (by decide +kernel) (by decide +kernel), (by decide +kernel), (by decide +kernel), (by decide +kernel)⟩
theorem mvX8_clear : qMv mX8_clear := ⟨qm4 75 (by decide +kernel) (by decide +kernel), qm4 76 (by decide +kernel) (by decide +kernel)⟩
set_option maxRecDepth 100000 in
theorem mfX8_cost : qMf mX8_cost 2 := ⟨qm3 233 rfl (by decide +kernel), qm1 1 (by decide +kernel) (by decide +kernel), (by decide +kernel), (by decide +kernel), (by decide +kernel)⟩
theorem mvX8_cost : qMv mX8_cost := ⟨qm3 231 (by decide +kernel) (by decide +kernel), qm3 232 (by decide +kernel) (by decide +kernel)⟩
set_option maxRecDepth 100000 in
theorem mfX8_craft : qMf mX8_craft 4 := ⟨qm2 226 rfl (by decide +kernel), qm1 1 (by decide +kernel) (by decide +kernel), (by decide +kernel), (by decide +kernel), (by decide +kernel)⟩
theorem mvX8_craft : qMv mX8_craft := ⟨qm2 224 (by decide +kernel) (by decide +kernel), qm2 225 (by decide +kernel) (by decide +kernel)⟩
set_option maxRecDepth 100000 in
theorem mfX8_digest : qMf mX8_digest 0 := ⟨qm3 185 rfl (by decide +kernel), qm1 1 (by decide +kernel) (by decide +kernel), (by decide +kernel), (by decide +kernel), (by decide +kernel)⟩
theorem mvX8_digest : qMv mX8_digest := ⟨qm3 183 (by decide +kernel) (by decide +kernel), qm3 184 (by decide +kernel) (by decide +kernel)⟩
set_option maxRecDepth 100000 in
theorem mfX8_draft : qMf mX8_draft 1 := ⟨qm4 81 rfl (by decide +kernel), qm1 1 (by decide +kernel) (by decide +kernel), (by decide +kernel), (by decide +kernel), (by decide +kernel)⟩
theorem mvX8_draft : qMv mX8_draft := ⟨qm4 79 (by decide +kernel) (by decide +kernel), qm4 80 (by decide +kernel) (by decide +kernel)⟩
set_option maxRecDepth 100000 in
theorem mfX8_fetch : qMf mX8_fetch 1 := ⟨qm3 2 rfl (by decide +kernel), qm1 1 (by decide +kernel) (by decide +kernel), (by decide +kernel), (by decide +kernel), (by decide +kernel)⟩
theorem mvX8_fetch : qMv mX8_fetch := ⟨qm3 0 (by decide +kernel) (by decide +kernel), qm3 1 (by decide +kernel) (by decide +kernel)⟩
set_option maxRecDepth 100000 in
theorem mfX8_houses : qMf mX8_houses 2 := ⟨qm2 83 rfl (by decide +kernel), qm1 1 (by decide +kernel) (by decide +kernel), (by decide +kernel), (by decide +kernel), (by decide +kernel)⟩
theorem mvX8_houses : qMv mX8_houses := ⟨qm2 81 (by decide +kernel) (by decide +kernel), qm2 82 (by decide +kernel) (by decide +kernel)⟩
set_option maxRecDepth 100000 in
theorem mfX8_init : qMf mX8_init 0 := ⟨qm1 23 rfl (by decide +kernel), qm1 1 (by decide +kernel) (by decide +kernel), (by decide +kernel), (by decide +kernel), (by decide +kernel)⟩
theorem miX8_init : qMi mX8_init := ⟨qm1 22 (by decide +kernel) (by decide +kernel), (by decide +kernel), (by decide +kernel)⟩
set_option maxRecDepth 100000 in
theorem mfX8_isCell : qMf mX8_isCell 1 := ⟨qm2 89 rfl (by decide +kernel), qm1 1 (by decide +kernel) (by decide +kernel), (by decide +kernel), (by decide +kernel), (by decide +kernel)⟩
theorem msX8_isCell : Cond.static mX8_isCell.1 ∈ qTBL := qm2 88 (by decide +kernel) (by decide +kernel)
set_option maxRecDepth 100000 in
theorem mfX8_link : qMf mX8_link 2 := ⟨qm2 230 rfl (by decide +kernel), qm1 1 (by decide +kernel) (by decide +kernel), (by decide +kernel), (by decide +kernel), (by decide +kernel)⟩
theorem mvX8_link : qMv mX8_link := ⟨qm2 228 (by decide +kernel) (by decide +kernel), qm2 229 (by decide +kernel) (by decide +kernel)⟩
set_option maxRecDepth 100000 in
theorem mfX8_many : qMf mX8_many 1 := ⟨qm3 64 rfl (by decide +kernel), qm1 1 (by decide +kernel) (by decide +kernel), (by decide +kernel), (by decide +kernel), (by decide +kernel)⟩
theorem mvX8_many : qMv mX8_many := ⟨qm3 62 (by decide +kernel) (by decide +kernel), qm3 63 (by decide +kernel) (by decide +kernel)⟩
set_option maxRecDepth 100000 in
theorem mfX8_meanCharge : qMf mX8_meanCharge 0 := ⟨qm3 77 rfl (by decide +kernel), qm1 1 (by decide +kernel) (by decide +kernel), (by decide +kernel), (by decide +kernel), (by decide +kernel)⟩
theorem mvX8_meanCharge : qMv mX8_meanCharge := ⟨qm3 75 (by decide +kernel) (by decide +kernel), qm3 76 (by decide +kernel) (by decide +kernel)⟩
set_option maxRecDepth 100000 in
theorem mfX8_mixed : qMf mX8_mixed 2 := ⟨qm3 190 rfl (by decide +kernel), qm1 1 (by decide +kernel) (by decide +kernel), (by decide +kernel), (by decide +kernel), (by decide +kernel)⟩
theorem msX8_mixed : Cond.static mX8_mixed.1 ∈ qTBL := qm3 189 (by decide +kernel) (by decide +kernel)
set_option maxRecDepth 100000 in
theorem mfX8_occupies : qMf mX8_occupies 2 := ⟨qm3 196 rfl (by decide +kernel), qm1 1 (by decide +kernel) (by decide +kernel), (by decide +kernel), (by decide +kernel), (by decide +kernel)⟩
theorem mvX8_occupies : qMv mX8_occupies := ⟨qm3 194 (by decide +kernel) (by decide +kernel), qm3 195 (by decide +kernel) (by decide +kernel)⟩
set_option maxRecDepth 100000 in
theorem mfX8_ofCell : qMf mX8_ofCell 2 := ⟨qm3 14 rfl (by decide +kernel), qm1 1 (by decide +kernel) (by decide +kernel), (by decide +kernel), (by decide +kernel), (by decide +kernel)⟩
theorem mvX8_ofCell : qMv mX8_ofCell := ⟨qm3 12 (by decide +kernel) (by decide +kernel), qm3 13 (by decide +kernel) (by decide +kernel)⟩
set_option maxRecDepth 100000 in
theorem mfX8_ofCraft : qMf mX8_ofCraft 2 := ⟨qm3 50 rfl (by decide +kernel), qm1 1 (by decide +kernel) (by decide +kernel), (by decide +kernel), (by decide +kernel), (by decide +kernel)⟩
theorem mvX8_ofCraft : qMv mX8_ofCraft := ⟨qm3 48 (by decide +kernel) (by decide +kernel), qm3 49 (by decide +kernel) (by decide +kernel)⟩
set_option maxRecDepth 100000 in
theorem mfX8_ofFlight : qMf mX8_ofFlight 2 := ⟨qm3 55 rfl (by decide +kernel), qm1 1 (by decide +kernel) (by decide +kernel), (by decide +kernel), (by decide +kernel), (by decide +kernel)⟩
theorem mvX8_ofFlight : qMv mX8_ofFlight := ⟨qm3 53 (by decide +kernel) (by decide +kernel), qm3 54 (by decide +kernel) (by decide +kernel)⟩
set_option maxRecDepth 100000 in
theorem mfX8_pad : qMf mX8_pad 1 := ⟨qm2 206 rfl (by decide +kernel), qm1 1 (by decide +kernel) (by decide +kernel), (by decide +kernel), (by decide +kernel), (by decide +kernel)⟩
theorem mvX8_pad : qMv mX8_pad := ⟨qm2 204 (by decide +kernel) (by decide +kernel), qm2 205 (by decide +kernel) (by decide +kernel)⟩
set_option maxRecDepth 100000 in
theorem mfX8_pass : qMf mX8_pass 1 := ⟨qm4 106 rfl (by decide +kernel), qm1 1 (by decide +kernel) (by decide +kernel), (by decide +kernel), (by decide +kernel), (by decide +kernel)⟩
theorem mvX8_pass : qMv mX8_pass := ⟨qm4 104 (by decide +kernel) (by decide +kernel), qm4 105 (by decide +kernel) (by decide +kernel)⟩
set_option maxRecDepth 100000 in
theorem mfX8_soonest : qMf mX8_soonest 1 := ⟨qm4 22 rfl (by decide +kernel), qm1 1 (by decide +kernel) (by decide +kernel), (by decide +kernel), (by decide +kernel), (by decide +kernel)⟩
theorem mvX8_soonest : qMv mX8_soonest := ⟨qm4 20 (by decide +kernel) (by decide +kernel), qm4 21 (by decide +kernel) (by decide +kernel)⟩
set_option maxRecDepth 100000 in
theorem mfX8_tower : qMf mX8_tower 2 := ⟨qm2 183 rfl (by decide +kernel), qm1 1 (by decide +kernel) (by decide +kernel), (by decide +kernel), (by decide +kernel), (by decide +kernel)⟩
theorem mvX8_tower : qMv mX8_tower := ⟨qm2 181 (by decide +kernel) (by decide +kernel), qm2 182 (by decide +kernel) (by decide +kernel)⟩
set_option maxRecDepth 100000 in
theorem mfX8_way : qMf mX8_way 2 := ⟨qm3 207 rfl (by decide +kernel), qm1 1 (by decide +kernel) (by decide +kernel), (by decide +kernel), (by decide +kernel), (by decide +kernel)⟩
theorem mvX8_way : qMv mX8_way := ⟨qm3 205 (by decide +kernel) (by decide +kernel), qm3 206 (by decide +kernel) (by decide +kernel)⟩
set_option maxRecDepth 100000 in
theorem mfX8_why : qMf mX8_why 2 := ⟨qm4 85 rfl (by decide +kernel), qm1 1 (by decide +kernel) (by decide +kernel), (by decide +kernel), (by decide +kernel), (by decide +kernel)⟩
theorem mvX8_why : qMv mX8_why := ⟨qm4 83 (by decide +kernel) (by decide +kernel), qm4 84 (by decide +kernel) (by decide +kernel)⟩
set_option maxRecDepth 100000 in
theorem mfX8_wind : qMf mX8_wind 2 := ⟨qm2 222 rfl (by decide +kernel), qm1 1 (by decide +kernel) (by decide +kernel), (by decide +kernel), (by decide +kernel), (by decide +kernel)⟩
theorem mvX8_wind : qMv mX8_wind := ⟨qm2 220 (by decide +kernel) (by decide +kernel), qm2 221 (by decide +kernel) (by decide +kernel)⟩
set_option maxRecDepth 100000 in
theorem mfX8_withdraw : qMf mX8_withdraw 1 := ⟨qm3 6 rfl (by decide +kernel), qm1 1 (by decide +kernel) (by decide +kernel), (by decide +kernel), (by decide +kernel), (by decide +kernel)⟩
theorem mvX8_withdraw : qMv mX8_withdraw := ⟨qm3 4 (by decide +kernel) (by decide +kernel), qm3 5 (by decide +kernel) (by decide +kernel)⟩
set_option maxRecDepth 100000 in
theorem mfX8_wouldHave : qMf mX8_wouldHave 2 := ⟨qm4 1 rfl (by decide +kernel), qm1 1 (by decide +kernel) (by decide +kernel), (by decide +kernel), (by decide +kernel), (by decide +kernel)⟩
theorem mvX8_wouldHave : qMv mX8_wouldHave := ⟨qm3 239 (by decide +kernel) (by decide +kernel), qm4 0 (by decide +kernel) (by decide +kernel)⟩
set_option maxRecDepth 100000 in
theorem mfX8_wouldNear : qMf mX8_wouldNear 1 := ⟨qm3 81 rfl (by decide +kernel), qm1 1 (by decide +kernel) (by decide +kernel), (by decide +kernel), (by decide +kernel), (by decide +kernel)⟩
theorem mvX8_wouldNear : qMv mX8_wouldNear := ⟨qm3 79 (by decide +kernel) (by decide +kernel), qm3 80 (by decide +kernel) (by decide +kernel)⟩
set_option maxRecDepth 100000 in
theorem mfX8_zone : qMf mX8_zone 4 := ⟨qm2 214 rfl (by decide +kernel), qm1 1 (by decide +kernel) (by decide +kernel), (by decide +kernel), (by decide +kernel), (by decide +kernel)⟩
theorem mvX8_zone : qMv mX8_zone := ⟨qm2 212 (by decide +kernel) (by decide +kernel), qm2 213 (by decide +kernel) (by decide +kernel)⟩
theorem mkX8_130 : qLM RX8 130 mX8_checkCraft := Or.inl (qm2 231 (by decide +kernel) (by decide +kernel))
theorem mkX8_146 : qLM RX8 146 mX8_checkStart := Or.inl (qm4 86 (by decide +kernel) (by decide +kernel))
theorem mkX8_149 : qLM RX8 149 mX2_isWayFromPadToPad := Or.inr ⟨"LowAir", qm4 4 (by decide +kernel) (by decide +kernel)⟩
theorem mkX8_156 : qLM RX8 156 mX3_reasonAgainst := Or.inr ⟨"LowAir", qm4 23 (by decide +kernel) (by decide +kernel)⟩
theorem mkX8_176 : qLM RX8 176 mX4_copyFrom := Or.inr ⟨"LowAir", qm4 95 (by decide +kernel) (by decide +kernel)⟩
theorem mkX8_18 : qLM RX8 18 mX6_init := Or.inr ⟨"LowAir", qm1 104 (by decide +kernel) (by decide +kernel)⟩
theorem mkX8_180 : qLM RX8 180 mX8_checkFlight := Or.inl (qm3 7 (by decide +kernel) (by decide +kernel))
theorem mkX8_183 : qLM RX8 183 mX8_checkMinutes := Or.inl (qm3 82 (by decide +kernel) (by decide +kernel))
theorem mkX8_189 : qLM RX8 189 mX6_flightsIn := Or.inr ⟨"LowAir", qm3 65 (by decide +kernel) (by decide +kernel)⟩
theorem mkX8_192 : qLM RX8 192 mX6_play := Or.inr ⟨"LowAir", qm3 105 (by decide +kernel) (by decide +kernel)⟩
theorem mkX8_198 : qLM RX8 198 mX3_plannedNoise := Or.inr ⟨"LowAir", qm3 15 (by decide +kernel) (by decide +kernel)⟩
theorem mkX8_202 : qLM RX8 202 mX6_flyingIn := Or.inr ⟨"LowAir", qm3 42 (by decide +kernel) (by decide +kernel)⟩
theorem mkX8_220 : qLM RX8 220 mX4_endFrom := Or.inr ⟨"LowAir", qm3 56 (by decide +kernel) (by decide +kernel)⟩
theorem mkX8_225 : qLM RX8 225 mX1_isAhead := Or.inr ⟨"LowAir", qm3 197 (by decide +kernel) (by decide +kernel)⟩
theorem mkX8_229 : qLM RX8 229 mX1_occupiesIn := Or.inr ⟨"LowAir", qm3 198 (by decide +kernel) (by decide +kernel)⟩
theorem mkX8_236 : qLM RX8 236 mX6_allBreaches := Or.inr ⟨"LowAir", qm3 69 (by decide +kernel) (by decide +kernel)⟩
theorem mkX8_245 : qLM RX8 245 mX5_fewestMoves := Or.inr ⟨"LowAir", qm3 208 (by decide +kernel) (by decide +kernel)⟩
theorem mkX8_249 : qLM RX8 249 mX5_leastCharge := Or.inr ⟨"LowAir", qm3 234 (by decide +kernel) (by decide +kernel)⟩
theorem mkX8_252 : qLM RX8 252 mX6_copyFrom := Or.inr ⟨"LowAir", qm3 85 (by decide +kernel) (by decide +kernel)⟩
theorem mkX8_257 : qLM RX8 257 mX8_many := Or.inl (qm3 187 (by decide +kernel) (by decide +kernel))
theorem mkX8_260 : qLM RX8 260 mX8_mixed := Or.inl (qm3 188 (by decide +kernel) (by decide +kernel))
theorem mkX8_264 : qLM RX8 264 mX8_ofCell := Or.inl (qm3 192 (by decide +kernel) (by decide +kernel))
theorem mkX8_267 : qLM RX8 267 mX8_occupies := Or.inl (qm3 193 (by decide +kernel) (by decide +kernel))
theorem mkX8_270 : qLM RX8 270 mX8_ofCraft := Or.inl (qm3 203 (by decide +kernel) (by decide +kernel))
theorem mkX8_273 : qLM RX8 273 mX8_way := Or.inl (qm3 204 (by decide +kernel) (by decide +kernel))
theorem mkX8_276 : qLM RX8 276 mX8_cost := Or.inl (qm3 230 (by decide +kernel) (by decide +kernel))
theorem mkX8_279 : qLM RX8 279 mX8_wouldHave := Or.inl (qm3 238 (by decide +kernel) (by decide +kernel))
theorem mkX8_282 : qLM RX8 282 mX8_ofFlight := Or.inl (qm4 2 (by decide +kernel) (by decide +kernel))
theorem mkX8_285 : qLM RX8 285 mX8_wouldNear := Or.inl (qm4 3 (by decide +kernel) (by decide +kernel))
theorem mkX8_288 : qLM RX8 288 mX8_soonest := Or.inl (qm4 19 (by decide +kernel) (by decide +kernel))
theorem mkX8_30 : qLM RX8 30 mX4_init := Or.inr ⟨"LowAir", qm2 28 (by decide +kernel) (by decide +kernel)⟩
theorem mkX8_305 : qLM RX8 305 mX8_isCell := Or.inl (qm2 87 (by decide +kernel) (by decide +kernel))
theorem mkX8_309 : qLM RX8 309 mX6_isCraft := Or.inr ⟨"LowAir", qm2 235 (by decide +kernel) (by decide +kernel)⟩
theorem mkX8_37 : qLM RX8 37 mX3_init := Or.inr ⟨"LowAir", qm2 31 (by decide +kernel) (by decide +kernel)⟩
theorem mkX8_46 : qLM RX8 46 mX5_init := Or.inr ⟨"LowAir", qm2 47 (by decide +kernel) (by decide +kernel)⟩
theorem mkX8_51 : qLM RX8 51 mX8_checkCell := Or.inl (qm2 84 (by decide +kernel) (by decide +kernel))
theorem mkX8_55 : qLM RX8 55 mX8_checkArgument := Or.inl (qm2 161 (by decide +kernel) (by decide +kernel))
theorem mkX8_66 : qLM RX8 66 mX8_checkState := Or.inl (qm2 184 (by decide +kernel) (by decide +kernel))
theorem mkX8_77 : qLM RX8 77 mX2_addPad := Or.inr ⟨"LowAir", qm2 207 (by decide +kernel) (by decide +kernel)⟩
theorem mkX8_84 : qLM RX8 84 mX2_addZone := Or.inr ⟨"LowAir", qm2 215 (by decide +kernel) (by decide +kernel)⟩
theorem mkX8_9 : qLM RX8 9 mX2_init := Or.inr ⟨"LowAir", qm1 29 (by decide +kernel) (by decide +kernel)⟩
theorem mkX8_94 : qLM RX8 94 mX8_checkIndex := Or.inl (qm2 90 (by decide +kernel) (by decide +kernel))
theorem mkX1_11 : qLM RX1 11 mX4_init := Or.inr ⟨"LowAir", qm1 188 (by decide +kernel) (by decide +kernel)⟩
theorem mkX1_28 : qLM RX1 28 mX4_copyFrom := Or.inr ⟨"LowAir", qm3 97 (by decide +kernel) (by decide +kernel)⟩
theorem mkX1_32 : qLM RX1 32 mX1_isAhead := Or.inl (qm3 28 (by decide +kernel) (by decide +kernel))
theorem mkX1_39 : qLM RX1 39 mX4_at := Or.inr ⟨"LowAir", qm3 202 (by decide +kernel) (by decide +kernel)⟩
theorem mkX1_43 : qLM RX1 43 mX4_endFrom := Or.inr ⟨"LowAir", qm4 45 (by decide +kernel) (by decide +kernel)⟩
theorem mkX2_102 : qLM RX2 102 mX2_costOfMove := Or.inl (qm4 58 (by decide +kernel) (by decide +kernel))
theorem mkX2_31 : qLM RX2 31 mJ7_fill := Or.inl (qm1 35 (by decide +kernel) (by decide +kernel))
end
section
theorem mkX2_37 : qLM RX2 37 mX7_init := Or.inr ⟨"LowAir", qm1 39 (by decide +kernel) (by decide +kernel)⟩
theorem mkX2_57 : qLM RX2 57 mX7_shuts := Or.inr ⟨"LowAir", qm3 128 (by decide +kernel) (by decide +kernel)⟩
theorem mkX2_61 : qLM RX2 61 mX8_isCell := Or.inr ⟨"LowAir", qm3 152 (by decide +kernel) (by decide +kernel)⟩
theorem mkX2_70 : qLM RX2 70 mX4_first := Or.inr ⟨"LowAir", qm4 8 (by decide +kernel) (by decide +kernel)⟩
theorem mkX2_74 : qLM RX2 74 mX2_hasPad := Or.inl (qm4 9 (by decide +kernel) (by decide +kernel))
theorem mkX2_77 : qLM RX2 77 mX4_last := Or.inr ⟨"LowAir", qm4 13 (by decide +kernel) (by decide +kernel)⟩
theorem mkX2_80 : qLM RX2 80 mX4_at := Or.inr ⟨"LowAir", qm4 17 (by decide +kernel) (by decide +kernel)⟩
theorem mkX2_84 : qLM RX2 84 mX2_directionTo := Or.inl (qm4 18 (by decide +kernel) (by decide +kernel))
theorem mkX2_88 : qLM RX2 88 mX2_neighbour := Or.inl (qm3 153 (by decide +kernel) (by decide +kernel))
theorem mkX3_103 : qLM RX3 103 mX1_meets := Or.inr ⟨"LowAir", qm4 46 (by decide +kernel) (by decide +kernel)⟩
theorem mkX3_106 : qLM RX3 106 mX3_planDay := Or.inl (qm3 19 (by decide +kernel) (by decide +kernel))
theorem mkX3_110 : qLM RX3 110 mX3_plan := Or.inl (qm3 33 (by decide +kernel) (by decide +kernel))
theorem mkX3_114 : qLM RX3 114 mJ7_fill := Or.inl (qm3 23 (by decide +kernel) (by decide +kernel))
theorem mkX3_120 : qLM RX3 120 mX1_isPlannedOn := Or.inr ⟨"LowAir", qm3 24 (by decide +kernel) (by decide +kernel)⟩
theorem mkX3_123 : qLM RX3 123 mX6_isCraft := Or.inr ⟨"LowAir", qm3 32 (by decide +kernel) (by decide +kernel)⟩
theorem mkX3_29 : qLM RX3 29 mX3_meetsTower := Or.inl (qm4 27 (by decide +kernel) (by decide +kernel))
theorem mkX3_33 : qLM RX3 33 mX3_meetsZone := Or.inl (qm4 31 (by decide +kernel) (by decide +kernel))
theorem mkX3_37 : qLM RX3 37 mX3_meetsOthers := Or.inl (qm4 36 (by decide +kernel) (by decide +kernel))
theorem mkX3_41 : qLM RX3 41 mX3_meetsItself := Or.inl (qm4 50 (by decide +kernel) (by decide +kernel))
theorem mkX3_44 : qLM RX3 44 mX2_costOfRoute := Or.inr ⟨"LowAir", qm4 54 (by decide +kernel) (by decide +kernel)⟩
theorem mkX3_56 : qLM RX3 56 mX3_isTooLoud := Or.inl (qm4 59 (by decide +kernel) (by decide +kernel))
theorem mkX3_64 : qLM RX3 64 mX4_at := Or.inr ⟨"LowAir", qm3 37 (by decide +kernel) (by decide +kernel)⟩
theorem mkX3_68 : qLM RX3 68 mX8_isCell := Or.inr ⟨"LowAir", qm3 41 (by decide +kernel) (by decide +kernel)⟩
theorem mkX3_79 : qLM RX3 79 mX2_isShut := Or.inr ⟨"LowAir", qm4 35 (by decide +kernel) (by decide +kernel)⟩
theorem mkX3_95 : qLM RX3 95 mX1_isAhead := Or.inr ⟨"LowAir", qm4 40 (by decide +kernel) (by decide +kernel)⟩
theorem mkX3_99 : qLM RX3 99 mX1_isCloseInTime := Or.inr ⟨"LowAir", qm4 41 (by decide +kernel) (by decide +kernel)⟩
theorem mkX5_23 : qLM RX5 23 mX5_least := Or.inl (qm3 212 (by decide +kernel) (by decide +kernel))
theorem mkX5_38 : qLM RX5 38 mX2_isShut := Or.inr ⟨"LowAir", qm3 216 (by decide +kernel) (by decide +kernel)⟩
theorem mkX5_43 : qLM RX5 43 mJ7_fill := Or.inl (qm3 218 (by decide +kernel) (by decide +kernel))
theorem mkX5_52 : qLM RX5 52 mX8_isCell := Or.inr ⟨"LowAir", qm3 219 (by decide +kernel) (by decide +kernel)⟩
theorem mkX5_56 : qLM RX5 56 mX5_spreadAll := Or.inl (qm3 220 (by decide +kernel) (by decide +kernel))
theorem mkX5_60 : qLM RX5 60 mX5_spread := Or.inl (qm3 224 (by decide +kernel) (by decide +kernel))
theorem mkX5_64 : qLM RX5 64 mX2_neighbour := Or.inr ⟨"LowAir", qm3 228 (by decide +kernel) (by decide +kernel)⟩
theorem mkX5_68 : qLM RX5 68 mX2_costOfMove := Or.inr ⟨"LowAir", qm3 229 (by decide +kernel) (by decide +kernel)⟩
theorem mkX6_107 : qLM RX6 107 mX4_first := Or.inr ⟨"LowAir", qm3 115 (by decide +kernel) (by decide +kernel)⟩
theorem mkX6_122 : qLM RX6 122 mX6_comeIn := Or.inl (qm3 119 (by decide +kernel) (by decide +kernel))
theorem mkX6_125 : qLM RX6 125 mX0_nextCellHome := Or.inr ⟨"LowAir", qm3 140 (by decide +kernel) (by decide +kernel)⟩
theorem mkX6_128 : qLM RX6 128 mX4_at := Or.inr ⟨"LowAir", qm3 144 (by decide +kernel) (by decide +kernel)⟩
theorem mkX6_132 : qLM RX6 132 mX6_movesInto := Or.inl (qm3 145 (by decide +kernel) (by decide +kernel))
theorem mkX6_139 : qLM RX6 139 mX0_landAt := Or.inr ⟨"LowAir", qm3 167 (by decide +kernel) (by decide +kernel)⟩
theorem mkX6_145 : qLM RX6 145 mX2_directionTo := Or.inr ⟨"LowAir", qm3 149 (by decide +kernel) (by decide +kernel)⟩
theorem mkX6_151 : qLM RX6 151 mX2_costOfMove := Or.inr ⟨"LowAir", qm3 156 (by decide +kernel) (by decide +kernel)⟩
theorem mkX6_154 : qLM RX6 154 mX8_isCell := Or.inr ⟨"LowAir", qm3 123 (by decide +kernel) (by decide +kernel)⟩
theorem mkX6_157 : qLM RX6 157 mX0_goDown := Or.inr ⟨"LowAir", qm3 163 (by decide +kernel) (by decide +kernel)⟩
theorem mkX6_169 : qLM RX6 169 mX2_isShut := Or.inr ⟨"LowAir", qm3 124 (by decide +kernel) (by decide +kernel)⟩
theorem mkX6_31 : qLM RX6 31 mX0_init := Or.inr ⟨"LowAir", qm1 113 (by decide +kernel) (by decide +kernel)⟩
theorem mkX6_32 : qLM RX6 32 mX1_init := Or.inr ⟨"LowAir", qm1 182 (by decide +kernel) (by decide +kernel)⟩
theorem mkX6_37 : qLM RX6 37 mX0_copyFrom := Or.inr ⟨"LowAir", qm3 89 (by decide +kernel) (by decide +kernel)⟩
theorem mkX6_44 : qLM RX6 44 mX1_copyFrom := Or.inr ⟨"LowAir", qm3 93 (by decide +kernel) (by decide +kernel)⟩
theorem mkX6_62 : qLM RX6 62 mJ7_fill := Or.inl (qm3 109 (by decide +kernel) (by decide +kernel))
theorem mkX6_68 : qLM RX6 68 mX6_startOrMissIfDue := Or.inl (qm3 110 (by decide +kernel) (by decide +kernel))
theorem mkX6_72 : qLM RX6 72 mX6_isToMove := Or.inl (qm3 132 (by decide +kernel) (by decide +kernel))
theorem mkX6_76 : qLM RX6 76 mX6_move := Or.inl (qm3 136 (by decide +kernel) (by decide +kernel))
theorem mkX6_79 : qLM RX6 79 mX6_pairsNear := Or.inl (qm3 171 (by decide +kernel) (by decide +kernel))
theorem mkX6_83 : qLM RX6 83 mX6_chargeIfLying := Or.inl (qm3 175 (by decide +kernel) (by decide +kernel))
theorem mkX6_95 : qLM RX6 95 mX6_isCraft := Or.inl (qm3 114 (by decide +kernel) (by decide +kernel))
theorem mkL_104 : qLM RL 104 mX8_wouldHave := Or.inl (qm4 102 (by decide +kernel) (by decide +kernel))
theorem mkL_107 : qLM RL 107 mX8_pass := Or.inl (qm4 103 (by decide +kernel) (by decide +kernel))
theorem mkL_11 : qLM RL 11 mX8_init := Or.inl (qm1 21 (by decide +kernel) (by decide +kernel))
theorem mkL_12 : qLM RL 12 mX8_pad := Or.inl (qm2 203 (by decide +kernel) (by decide +kernel))
theorem mkL_16 : qLM RL 16 mL_cell := Or.inl (qm4 67 (by decide +kernel) (by decide +kernel))
theorem mkL_22 : qLM RL 22 mL_below := Or.inl (qm4 63 (by decide +kernel) (by decide +kernel))
theorem mkL_26 : qLM RL 26 mX8_craft := Or.inl (qm2 223 (by decide +kernel) (by decide +kernel))
theorem mkL_30 : qLM RL 30 mX8_houses := Or.inl (qm2 80 (by decide +kernel) (by decide +kernel))
theorem mkL_33 : qLM RL 33 mX8_wind := Or.inl (qm2 219 (by decide +kernel) (by decide +kernel))
theorem mkL_36 : qLM RL 36 mX8_many := Or.inl (qm3 61 (by decide +kernel) (by decide +kernel))
theorem mkL_39 : qLM RL 39 mX8_zone := Or.inl (qm2 211 (by decide +kernel) (by decide +kernel))
theorem mkL_42 : qLM RL 42 mX8_ofCell := Or.inl (qm3 11 (by decide +kernel) (by decide +kernel))
theorem mkL_45 : qLM RL 45 mX8_tower := Or.inl (qm2 180 (by decide +kernel) (by decide +kernel))
theorem mkL_49 : qLM RL 49 mX8_ofCraft := Or.inl (qm3 47 (by decide +kernel) (by decide +kernel))
theorem mkL_52 : qLM RL 52 mX8_link := Or.inl (qm2 227 (by decide +kernel) (by decide +kernel))
theorem mkL_55 : qLM RL 55 mX8_fetch := Or.inl (qm2 239 (by decide +kernel) (by decide +kernel))
theorem mkL_58 : qLM RL 58 mL_isAsked := Or.inl (qm4 71 (by decide +kernel) (by decide +kernel))
theorem mkL_62 : qLM RL 62 mX8_ofFlight := Or.inl (qm3 52 (by decide +kernel) (by decide +kernel))
theorem mkL_65 : qLM RL 65 mX8_withdraw := Or.inl (qm3 3 (by decide +kernel) (by decide +kernel))
theorem mkL_68 : qLM RL 68 mL_isPassed := Or.inl (qm4 97 (by decide +kernel) (by decide +kernel))
theorem mkL_72 : qLM RL 72 mX8_digest := Or.inl (qm3 182 (by decide +kernel) (by decide +kernel))
theorem mkL_76 : qLM RL 76 mX8_wouldNear := Or.inl (qm3 78 (by decide +kernel) (by decide +kernel))
theorem mkL_79 : qLM RL 79 mX8_meanCharge := Or.inl (qm3 74 (by decide +kernel) (by decide +kernel))
theorem mkL_83 : qLM RL 83 mX8_clear := Or.inl (qm4 74 (by decide +kernel) (by decide +kernel))
theorem mkL_87 : qLM RL 87 mX8_draft := Or.inl (qm4 78 (by decide +kernel) (by decide +kernel))
theorem mkL_90 : qLM RL 90 mX8_why := Or.inl (qm4 82 (by decide +kernel) (by decide +kernel))
theorem mkL_93 : qLM RL 93 mX8_soonest := Or.inl (qm4 90 (by decide +kernel) (by decide +kernel))
theorem mkL_96 : qLM RL 96 mX8_ask := Or.inl (qm4 91 (by decide +kernel) (by decide +kernel))
theorem mkL_99 : qLM RL 99 mX8_occupies := Or.inl (qm4 96 (by decide +kernel) (by decide +kernel))
theorem cnX8 : Cond.initialized RX8 ∈ qTBL := qm1 1 (by decide +kernel) (by decide +kernel)
theorem cnX2 : Cond.initialized RX2 ∈ qTBL := qm1 2 (by decide +kernel) (by decide +kernel)
theorem cnX7 : Cond.initialized RX7 ∈ qTBL := qm1 4 (by decide +kernel) (by decide +kernel)
theorem cnX6 : Cond.initialized RX6 ∈ qTBL := qm1 5 (by decide +kernel) (by decide +kernel)
theorem cnX0 : Cond.initialized RX0 ∈ qTBL := qm1 6 (by decide +kernel) (by decide +kernel)
theorem cnX1 : Cond.initialized RX1 ∈ qTBL := qm1 7 (by decide +kernel) (by decide +kernel)
theorem cnX4 : Cond.initialized RX4 ∈ qTBL := qm1 8 (by decide +kernel) (by decide +kernel)
theorem cnX3 : Cond.initialized RX3 ∈ qTBL := qm1 9 (by decide +kernel) (by decide +kernel)
theorem cnX5 : Cond.initialized RX5 ∈ qTBL := qm1 10 (by decide +kernel) (by decide +kernel)
theorem ckL_9 : Cond.classLink RL 9 "LowAir" ∈ qTBL := qm1 19 (by decide +kernel) (by decide +kernel)
theorem ciX8 : Cond.instantiable RX8 6 ∈ qTBL := qm1 20 (by decide +kernel) (by decide +kernel)
theorem ckX8_7 : Cond.classLink RX8 7 "LowAir$Ground" ∈ qTBL := qm1 27 (by decide +kernel) (by decide +kernel)
theorem ciX2 : Cond.instantiable RX2 9 ∈ qTBL := qm1 28 (by decide +kernel) (by decide +kernel)
theorem ckX2_25 : Cond.classLink RX2 25 "LowAir$Zone" ∈ qTBL := qm1 33 (by decide +kernel) (by decide +kernel)
theorem ciX7 : Cond.instantiable RX7 4 ∈ qTBL := qm1 38 (by decide +kernel) (by decide +kernel)
theorem ai : Cond.arrayClass FieldType.int ∈ qTBL := qm1 60 (by decide +kernel) (by decide +kernel)
theorem az : Cond.arrayClass FieldType.boolean ∈ qTBL := qm1 61 (by decide +kernel) (by decide +kernel)
theorem ckX8_16 : Cond.classLink RX8 16 "LowAir$Sky" ∈ qTBL := qm1 102 (by decide +kernel) (by decide +kernel)
theorem ciX6 : Cond.instantiable RX6 9 ∈ qTBL := qm1 103 (by decide +kernel) (by decide +kernel)
theorem ckX6_9 : Cond.classLink RX6 9 "LowAir$Craft" ∈ qTBL := qm1 108 (by decide +kernel) (by decide +kernel)
theorem ckX6_17 : Cond.classLink RX6 17 "LowAir$Flight" ∈ qTBL := qm1 110 (by decide +kernel) (by decide +kernel)
theorem ciX0 : Cond.instantiable RX0 12 ∈ qTBL := qm1 112 (by decide +kernel) (by decide +kernel)
theorem ciX1 : Cond.instantiable RX1 4 ∈ qTBL := qm1 181 (by decide +kernel) (by decide +kernel)
theorem ckX1_9 : Cond.classLink RX1 9 "LowAir$Route" ∈ qTBL := qm1 186 (by decide +kernel) (by decide +kernel)
theorem ciX4 : Cond.instantiable RX4 2 ∈ qTBL := qm1 187 (by decide +kernel) (by decide +kernel)
theorem ckX8_28 : Cond.classLink RX8 28 "LowAir$Route" ∈ qTBL := qm2 27 (by decide +kernel) (by decide +kernel)
theorem ckX8_35 : Cond.classLink RX8 35 "LowAir$Judge" ∈ qTBL := qm2 29 (by decide +kernel) (by decide +kernel)
theorem ciX3 : Cond.instantiable RX3 3 ∈ qTBL := qm2 30 (by decide +kernel) (by decide +kernel)
theorem ckX8_44 : Cond.classLink RX8 44 "LowAir$Search" ∈ qTBL := qm2 45 (by decide +kernel) (by decide +kernel)
theorem ciX5 : Cond.instantiable RX5 3 ∈ qTBL := qm2 46 (by decide +kernel) (by decide +kernel)
theorem ckX8_293 : Cond.classLink RX8 293 "java/lang/IndexOutOfBoundsException" ∈ qTBL := qm2 93 (by decide +kernel) (by decide +kernel)
theorem ax : Cond.arrayClass FieldType.byte ∈ qTBL := qm2 160 (by decide +kernel) (by decide +kernel)
theorem ckX8_205 : Cond.classLink RX8 205 "java/lang/IllegalArgumentException" ∈ qTBL := qm2 164 (by decide +kernel) (by decide +kernel)
theorem ckX8_300 : Cond.classLink RX8 300 "java/lang/IllegalStateException" ∈ qTBL := qm2 187 (by decide +kernel) (by decide +kernel)
theorem kkX8_255 : Cond.constantLong RX8 255 (4813 : Int64) ∈ qTBL := qm3 186 (by decide +kernel) (by decide +kernel)
theorem kkX8_291 : Cond.constantLong RX8 291 (31 : Int64) ∈ qTBL := qm3 191 (by decide +kernel) (by decide +kernel)
theorem kkX5_42 : Cond.constant RX5 42 (1000000 : Int32) ∈ qTBL := qm3 217 (by decide +kernel) (by decide +kernel)
theorem kkL_7 : Cond.constant RL 7 (2147483647 : Int32) ∈ qTBL := qm4 66 (by decide +kernel) (by decide +kernel)
theorem kkL_8 : Cond.constant RL 8 (790386105 : Int32) ∈ qTBL := qm4 70 (by decide +kernel) (by decide +kernel)
theorem ckL_102 : Cond.classLink RL 102 "[I" ∈ qTBL := qm4 100 (by decide +kernel) (by decide +kernel)
theorem ls_max : Cond.static Lib.Math.max.name ∈ qTBL := qm3 161 (by decide +kernel) (by decide +kernel)
set_option maxRecDepth 100000 in
theorem lc_max : Cond.code Lib.Math.max.name Lib.Math.max.code 2 (some .int) ∈ qTBL := qm3 162 (by decide +kernel) (by decide +kernel)
theorem ls_min : Cond.static Lib.Math.min.name ∈ qTBL := qm3 180 (by decide +kernel) (by decide +kernel)
set_option maxRecDepth 100000 in
theorem lc_min : Cond.code Lib.Math.min.name Lib.Math.min.code 2 (some .int) ∈ qTBL := qm3 181 (by decide +kernel) (by decide +kernel)
theorem ls_abs : Cond.static Lib.Math.abs.name ∈ qTBL := qm4 108 (by decide +kernel) (by decide +kernel)
set_option maxRecDepth 100000 in
theorem lc_abs : Cond.code Lib.Math.abs.name Lib.Math.abs.code 1 (some .int) ∈ qTBL := qm4 109 (by decide +kernel) (by decide +kernel)
theorem ln_Math : Cond.initialized "java/lang/Math" ∈ qTBL := qm1 17 (by decide +kernel) (by decide +kernel)
theorem ln_System : Cond.initialized "java/lang/System" ∈ qTBL := qm1 18 (by decide +kernel) (by decide +kernel)
theorem ls_copy : Cond.static arraycopyName ∈ qTBL := qm3 102 (by decide +kernel) (by decide +kernel)
theorem lna_copy : Cond.native arraycopyName ∈ qTBL := qm3 103 (by decide +kernel) (by decide +kernel)
theorem li_obj : Cond.instanceMethod Lib.objectInit ∈ qTBL := qm1 25 (by decide +kernel) (by decide +kernel)
theorem lc_obj : Cond.code Lib.objectInit ⟨#[0xb1]⟩ 1 none ∈ qTBL := qm1 26 (by decide +kernel) (by decide +kernel)
theorem lkX8_1 : Cond.methodLink RX8 1 Lib.objectInit ∈ qTBL := qm1 24 (by decide +kernel) (by decide +kernel)
theorem lkX2_3 : Cond.methodLink RX2 3 Lib.objectInit ∈ qTBL := qm1 32 (by decide +kernel) (by decide +kernel)
theorem lkX7_3 : Cond.methodLink RX7 3 Lib.objectInit ∈ qTBL := qm1 42 (by decide +kernel) (by decide +kernel)
theorem lkX6_3 : Cond.methodLink RX6 3 Lib.objectInit ∈ qTBL := qm1 107 (by decide +kernel) (by decide +kernel)
theorem lkX0_3 : Cond.methodLink RX0 3 Lib.objectInit ∈ qTBL := qm1 116 (by decide +kernel) (by decide +kernel)
theorem lkX1_3 : Cond.methodLink RX1 3 Lib.objectInit ∈ qTBL := qm1 185 (by decide +kernel) (by decide +kernel)
theorem lkX4_3 : Cond.methodLink RX4 3 Lib.objectInit ∈ qTBL := qm1 191 (by decide +kernel) (by decide +kernel)
theorem lkX3_3 : Cond.methodLink RX3 3 Lib.objectInit ∈ qTBL := qm2 34 (by decide +kernel) (by decide +kernel)
theorem lkX5_3 : Cond.methodLink RX5 3 Lib.objectInit ∈ qTBL := qm2 50 (by decide +kernel) (by decide +kernel)
theorem lkX4_19 : Cond.methodLink RX4 19 arraycopyName ∈ qTBL := qm3 101 (by decide +kernel) (by decide +kernel)
theorem lkX6_47 : Cond.methodLink RX6 47 arraycopyName ∈ qTBL := qm3 104 (by decide +kernel) (by decide +kernel)
theorem lkX2_97 : Cond.methodLink RX2 97 Lib.Math.max.name ∈ qTBL := qm3 160 (by decide +kernel) (by decide +kernel)
theorem lkX6_182 : Cond.methodLink RX6 182 Lib.Math.min.name ∈ qTBL := qm3 179 (by decide +kernel) (by decide +kernel)
theorem lkL_110 : Cond.methodLink RL 110 Lib.Math.abs.name ∈ qTBL := qm4 107 (by decide +kernel) (by decide +kernel)
theorem lkL_115 : Cond.methodLink RL 115 Lib.Math.min.name ∈ qTBL := qm4 110 (by decide +kernel) (by decide +kernel)
end
section
/-! ===== the system's cells as numbers: 1 the air, 2 the ground (3 houses, 4 towers, 5 padAt, 6 padCells, 7 zones, 8..13), 14 the sky (15, 16, 17, craft 18.., flights 24..), 60 the trial, 106 the draft, 108 the judge, 110 the search ===== -/
def qS0 : Type := Nat → Nat → Int32
def oF (ci r : Nat) (f : Nat → Int32) : List Value := match ci with
  | 0 => [.int (f 0), .int (f 1), .int (f 2), .int (f 3), .int (f 4), .int (f 5), .int (f 6), .int (f 7), .int (f 8), .int (f 9), .int (f 10), .int (f 11)]
  | 1 => [.int (f 0), .int (f 1), .int (f 2), .ref (r + 1)]
  | 2 => [.ref 3, .ref 4, .ref 5, .ref 6, .int (f 4), .ref 7, .int (f 6), .int (f 7), .int (f 8)]
  | 3 => [.ref 2, .ref 14, .ref 109]
  | 4 => [.ref (r + 1), .int (f 1)]
  | 5 => [.ref 2, .ref 111, .ref 112]
  | 6 => [.ref 2, .ref (r + 1), .int (f 2), .ref (r + 2), .int (f 4), .ref (r + 3), .int (f 6), .int (f 7), .int (f 8)]
  | 7 => [.int (f 0), .int (f 1), .int (f 2), .int (f 3)]
  | _ => [.ref 2, .ref 14, .ref 60, .ref 106, .ref 108, .ref 110]
def rowZ (j : Nat) : Option Nat := if j < 6 then some (8 + j) else none
def rowC (s j : Nat) : Option Nat := if j < 6 then some (s + 4 + j) else none
def rowF (s j : Nat) : Option Nat := if j < 12 then some (s + 10 + 3 * j) else none
/-- the cells of a sky at s, by their distance from it -/
def eSky (s d : Nat) (f : Nat → Int32) : qE :=
  if d = 0 then .inr (6, oF 6 s f)
  else if d = 1 then .inl (3, 6, .inr (.inr (.inr (.inr (rowC s)))))
  else if d = 2 then .inl (4, 12, .inr (.inr (.inr (.inr (rowF s)))))
  else if d = 3 then .inl (0, 25, .inl f)
  else if d < 10 then .inr (0, oF 0 (s + d) f)
  else if (d - 10) % 3 = 0 then .inr (1, oF 1 (s + d) f)
  else if (d - 10) % 3 = 1 then .inr (4, oF 4 (s + d) f)
  else .inl (0, 10, .inl f)
def eN (k : Nat) (f : Nat → Int32) : qE :=
  if k < 14 then (match k with
    | 2 => .inr (2, oF 2 2 f)
    | 3 => .inl (0, 25, .inl f)
    | 4 => .inl (1, 25, .inl f)
    | 5 => .inl (0, 25, .inl f)
    | 6 => .inl (0, 5, .inl f)
    | 7 => .inl (2, 6, .inr (.inr (.inr (.inr rowZ))))
    | 1 => .inr (8, oF 8 1 f)
    | k => .inr (7, oF 7 k f))
  else if k < 60 then eSky 14 (k - 14) f
  else if k < 106 then eSky 60 (k - 60) f
  else match k with
    | 106 => .inr (4, oF 4 106 f)
    | 107 => .inl (0, 10, .inl f)
    | 108 => .inr (3, oF 3 108 f)
    | 109 => .inl (0, 25, .inl f)
    | 110 => .inr (5, oF 5 110 f)
    | 111 => .inl (1, 25, .inl f)
    | _ => .inl (0, 25, .inl f)
def mm (σ : Nat → Nat → Int32) (X : qM) : qM := fun k => if k ≤ 112 then eN k (σ k) else X k
def srow (σ : Nat → Nat → Int32) (r : Nat) (g : Nat → Int32) : Nat → Nat → Int32 := fun k => if k = r then g else σ k
def sset (σ : Nat → Nat → Int32) (r j : Nat) (v : Int32) : Nat → Nat → Int32 := srow σ r (upd (σ r) j v)
def isO (ci r : Nat) : Prop := (0 < r ∧ r ≤ 112) ∧ ∀ f : Nat → Int32, eN r f = .inr (ci, oF ci r f)
def isA (t len r : Nat) : Prop := (0 < r ∧ r ≤ 112) ∧ ∀ f : Nat → Int32, eN r f = .inl (t, len, .inl f)
def isR (t len r : Nat) (g : Nat → Option Nat) : Prop := (0 < r ∧ r ≤ 112) ∧ ∀ f : Nat → Int32, eN r f = .inl (t, len, .inr (.inr (.inr (.inr g))))
def isSky (s : Nat) : Prop := s = 14 ∨ s = 60
theorem mm_at {σ : Nat → Nat → Int32} {X : qM} {r : Nat} (h : r ≤ 112) : mm σ X r = eN r (σ r) := if_pos h
theorem mm_row {σ : Nat → Nat → Int32} {X : qM} {r : Nat} (h : r ≤ 112) (g : Nat → Int32) : qset (mm σ X) r (eN r g) = mm (srow σ r g) X := by
  funext k
  by_cases hk : k = r
  · subst hk
    simp [qset, mm, srow, h]
  · simp [qset, mm, srow, hk]
theorem srow_srow (σ : Nat → Nat → Int32) (r : Nat) (f g : Nat → Int32) : srow (srow σ r f) r g = srow σ r g := by
  funext k
  by_cases hk : k = r <;> simp [srow, hk]
theorem srow_self (σ : Nat → Nat → Int32) (r : Nat) (f : Nat → Int32) : srow σ r f r = f := by simp [srow]
theorem srow_ne (σ : Nat → Nat → Int32) {r k : Nat} (f : Nat → Int32) (h : k ≠ r) : srow σ r f k = σ k := by simp [srow, h]
theorem srow_id (σ : Nat → Nat → Int32) (r : Nat) : srow σ r (σ r) = σ := by
  funext k
  by_cases hk : k = r <;> simp [srow, hk]
theorem sset_self (σ : Nat → Nat → Int32) (r j : Nat) (v : Int32) : sset σ r j v r = upd (σ r) j v := by simp [sset, srow]
theorem sset_ne (σ : Nat → Nat → Int32) {r k : Nat} (j : Nat) (v : Int32) (h : k ≠ r) : sset σ r j v k = σ k := by simp [sset, srow, h]
/-! which cell is what -/
theorem o_air : isO 8 1 := ⟨by omega, fun _ => rfl⟩
theorem o_ground : isO 2 2 := ⟨by omega, fun _ => rfl⟩
theorem o_judge : isO 3 108 := ⟨by omega, fun _ => rfl⟩
theorem o_search : isO 5 110 := ⟨by omega, fun _ => rfl⟩
theorem o_draft : isO 4 106 := ⟨by omega, fun _ => rfl⟩
theorem o_sky {s : Nat} (h : isSky s) : isO 6 s := by rcases h with rfl | rfl <;> exact ⟨by omega, fun _ => rfl⟩
theorem o_zone {i : Nat} (h : i < 6) : isO 7 (8 + i) := by
  rcases (show i = 0 ∨ i = 1 ∨ i = 2 ∨ i = 3 ∨ i = 4 ∨ i = 5 by omega) with rfl | rfl | rfl | rfl | rfl | rfl <;> exact ⟨by omega, fun _ => rfl⟩
theorem e_sky {s : Nat} (h : isSky s) {d : Nat} (hd : d < 46) (f : Nat → Int32) : eN (s + d) f = eSky s d f := by
  rcases h with rfl | rfl
  · have h1 : ¬ 14 + d < 14 := by omega
    have h2 : 14 + d < 60 := by omega
    unfold eN
    rw [if_neg h1, if_pos h2, Nat.add_sub_cancel_left]
  · have h1 : ¬ 60 + d < 14 := by omega
    have h2 : ¬ 60 + d < 60 := by omega
    have h3 : 60 + d < 106 := by omega
    unfold eN
    rw [if_neg h1, if_neg h2, if_pos h3, Nat.add_sub_cancel_left]
theorem isSky.le {s : Nat} (h : isSky s) : 14 ≤ s ∧ s ≤ 60 := by rcases h with rfl | rfl <;> omega
theorem o_craft {s : Nat} (h : isSky s) {i : Nat} (hi : i < 6) : isO 0 (s + 4 + i) := by
  have hs := h.le
  refine ⟨by omega, fun f => ?_⟩
  rw [Nat.add_assoc, e_sky h (by omega)]
  unfold eSky
  rw [if_neg (by omega), if_neg (by omega), if_neg (by omega), if_neg (by omega), if_pos (by omega)]
theorem o_flight {s : Nat} (h : isSky s) {i : Nat} (hi : i < 12) : isO 1 (s + 10 + 3 * i) := by
  have hs := h.le
  refine ⟨by omega, fun f => ?_⟩
  rw [Nat.add_assoc, e_sky h (by omega)]
  unfold eSky
  rw [if_neg (by omega), if_neg (by omega), if_neg (by omega), if_neg (by omega), if_neg (by omega), if_pos (by omega)]
theorem o_route {s : Nat} (h : isSky s) {i : Nat} (hi : i < 12) : isO 4 (s + 10 + 3 * i + 1) := by
  have hs := h.le
  refine ⟨by omega, fun f => ?_⟩
  rw [show s + 10 + 3 * i + 1 = s + (10 + 3 * i + 1) by omega, e_sky h (by omega)]
  unfold eSky
  rw [if_neg (by omega), if_neg (by omega), if_neg (by omega), if_neg (by omega), if_neg (by omega), if_neg (by omega), if_pos (by omega)]
theorem a_cells {s : Nat} (h : isSky s) {i : Nat} (hi : i < 12) : isA 0 10 (s + 10 + 3 * i + 1 + 1) := by
  have hs := h.le
  refine ⟨by omega, fun f => ?_⟩
  rw [show s + 10 + 3 * i + 1 + 1 = s + (10 + 3 * i + 2) by omega, e_sky h (by omega)]
  unfold eSky
  rw [if_neg (by omega), if_neg (by omega), if_neg (by omega), if_neg (by omega), if_neg (by omega), if_neg (by omega), if_neg (by omega)]
theorem a_houses : isA 0 25 3 := ⟨by omega, fun _ => rfl⟩
theorem a_towers : isA 1 25 4 := ⟨by omega, fun _ => rfl⟩
theorem a_padAt : isA 0 25 5 := ⟨by omega, fun _ => rfl⟩
theorem a_padCells : isA 0 5 6 := ⟨by omega, fun _ => rfl⟩
theorem a_draft : isA 0 10 107 := ⟨by omega, fun _ => rfl⟩
theorem a_planned : isA 0 25 109 := ⟨by omega, fun _ => rfl⟩
theorem a_open : isA 1 25 111 := ⟨by omega, fun _ => rfl⟩
theorem a_reached : isA 0 25 112 := ⟨by omega, fun _ => rfl⟩
theorem a_heard {s : Nat} (h : isSky s) : isA 0 25 (s + 3) := by rcases h with rfl | rfl <;> exact ⟨by omega, fun _ => rfl⟩
theorem r_zones : isR 2 6 7 rowZ := ⟨by omega, fun _ => rfl⟩
theorem r_crafts {s : Nat} (h : isSky s) : isR 3 6 (s + 1) (rowC s) := by rcases h with rfl | rfl <;> exact ⟨by omega, fun _ => rfl⟩
theorem r_flights {s : Nat} (h : isSky s) : isR 4 12 (s + 2) (rowF s) := by rcases h with rfl | rfl <;> exact ⟨by omega, fun _ => rfl⟩
/-! rows over the system's numbers -/
section QSys
variable {z : qZ} {k : Nat} {y w : qY} {pc : Nat} {Lc st st0 : List Value} {σ σ' : Nat → Nat → Int32} {X : qM} {n bc bs : Nat} {Q Q' : qQ}
theorem ES_getf {idx ci j r : Nat} {ty : FieldType} {fin : Bool} {v : Value} (hd : decode y.2.1 pc = .ok (.getfield idx, 3)) (hl : qLK y.1.cls idx ci j ty fin) (hn : 112 ≤ n) (ho : isO ci r) (hv : (oF ci r (σ r))[j]? = some v)
    (kk : EV z k y (pc + 3) Lc (v :: st) (mm σ X) n bc bs Q) : EV z k y pc Lc (.ref r :: st) (mm σ X) n bc bs Q :=
  EV_getf hd hl ⟨ho.1.1, Nat.le_trans ho.1.2 hn⟩ ((mm_at ho.1.2).trans (ho.2 _)) hv kk
theorem ES_put {idx ci j r : Nat} {ty : FieldType} {v : Int32} (hd : decode y.2.1 pc = .ok (.putfield idx, 3)) (hl : qLK y.1.cls idx ci j ty false) (hn : 112 ≤ n) (ho : isO ci r) (hj : j < (oF ci r (σ r)).length) (hs : ∀ (f : Nat → Int32) (v : Int32), (oF ci r f).set j (.int v) = oF ci r (upd f j v)) (hna : narrow ty (.int v) = .int v) (hfi : fits ty (.int v) = true)
    (kk : EV z k y (pc + 3) Lc st (mm (sset σ r j v) X) n bc bs Q) : EV z k y pc Lc (.int v :: .ref r :: st) (mm σ X) n bc bs Q := by
  refine EV_putf hd hl ⟨ho.1.1, Nat.le_trans ho.1.2 hn⟩ ((mm_at ho.1.2).trans (ho.2 _)) hj (fun _ => hna) (fun _ => hfi) ?_
  rw [hs, ← ho.2, mm_row ho.1.2]
  exact kk
theorem ES_iald {r len : Nat} {i : Int32} (hd : decode y.2.1 pc = .ok (.iaload, 1)) (hn : 112 ≤ n) (ha : isA 0 len r) (hin : vp_in i len)
    (kk : EV z k y (pc + 1) Lc (.int (σ r i.toNatClampNeg) :: st) (mm σ X) n bc bs Q) : EV z k y pc Lc (.int i :: .ref r :: st) (mm σ X) n bc bs Q :=
  EV_iald hd ⟨ha.1.1, Nat.le_trans ha.1.2 hn⟩ ((mm_at ha.1.2).trans (ha.2 _)) hin kk
theorem ES_zald {r len : Nat} {i : Int32} (hd : decode y.2.1 pc = .ok (.baload, 1)) (hn : 112 ≤ n) (ha : isA 1 len r) (hin : vp_in i len)
    (kk : EV z k y (pc + 1) Lc (.int (σ r i.toNatClampNeg) :: st) (mm σ X) n bc bs Q) : EV z k y pc Lc (.int i :: .ref r :: st) (mm σ X) n bc bs Q :=
  EV_zald hd ⟨ha.1.1, Nat.le_trans ha.1.2 hn⟩ ((mm_at ha.1.2).trans (ha.2 _)) hin kk
theorem ES_iast {r len : Nat} {i x : Int32} (hd : decode y.2.1 pc = .ok (.iastore, 1)) (hn : 112 ≤ n) (ha : isA 0 len r) (hin : vp_in i len)
    (kk : EV z k y (pc + 1) Lc st (mm (sset σ r i.toNatClampNeg x) X) n bc bs Q) : EV z k y pc Lc (.int x :: .int i :: .ref r :: st) (mm σ X) n bc bs Q := by
  refine EV_iast hd ⟨ha.1.1, Nat.le_trans ha.1.2 hn⟩ ((mm_at ha.1.2).trans (ha.2 _)) hin ?_
  rw [← ha.2, mm_row ha.1.2]
  exact kk
theorem ES_zast {r len : Nat} {i x : Int32} (hd : decode y.2.1 pc = .ok (.bastore, 1)) (hn : 112 ≤ n) (ha : isA 1 len r) (hin : vp_in i len) (hx : vp_nar .boolean x = x)
    (kk : EV z k y (pc + 1) Lc st (mm (sset σ r i.toNatClampNeg x) X) n bc bs Q) : EV z k y pc Lc (.int x :: .int i :: .ref r :: st) (mm σ X) n bc bs Q := by
  refine EV_zast hd ⟨ha.1.1, Nat.le_trans ha.1.2 hn⟩ ((mm_at ha.1.2).trans (ha.2 _)) hin hx ?_
  rw [← ha.2, mm_row ha.1.2]
  exact kk
theorem ES_alen {r len t : Nat} {ty : FieldType} (hd : decode y.2.1 pc = .ok (.arraylength, 1)) (hn : 112 ≤ n) (ha : isA t len r) (ht : ∀ cA : Nat → ClassId, (qT cA)[t]? = some (cA t, ty))
    (kk : EV z k y (pc + 1) Lc (.int (Int32.ofNat len) :: st) (mm σ X) n bc bs Q) : EV z k y pc Lc (.ref r :: st) (mm σ X) n bc bs Q :=
  EV_alen hd ⟨ha.1.1, Nat.le_trans ha.1.2 hn⟩ ((mm_at ha.1.2).trans (ha.2 _)) ht kk
theorem ES_aald {r r' len t : Nat} {g : Nat → Option Nat} {i : Int32} {ty : FieldType} (hd : decode y.2.1 pc = .ok (.aaload, 1)) (hn : 112 ≤ n) (ha : isR t len r g) (ht : ∀ cA : Nat → ClassId, (qT cA)[t]? = some (cA t, ty)) (hty : ty.isReference = true) (hin : vp_in i len) (hg : g i.toNatClampNeg = some r')
    (kk : EV z k y (pc + 1) Lc (.ref r' :: st) (mm σ X) n bc bs Q) : EV z k y pc Lc (.int i :: .ref r :: st) (mm σ X) n bc bs Q :=
  EV_aald hd ⟨ha.1.1, Nat.le_trans ha.1.2 hn⟩ ((mm_at ha.1.2).trans (ha.2 _)) ht hty hin hg kk
theorem ES_aaldZ {i : Nat} (hd : decode y.2.1 pc = .ok (.aaload, 1)) (hn : 112 ≤ n) (hi : i < 6)
    (kk : EV z k y (pc + 1) Lc (.ref (8 + i) :: st) (mm σ X) n bc bs Q) : EV z k y pc Lc (.int (nI i) :: .ref 7 :: st) (mm σ X) n bc bs Q :=
  ES_aald hd hn r_zones (fun _ => rfl) rfl (vp_in_nI hi (by omega)) (by rw [nI_clamp (by omega), rowZ, if_pos hi]) kk
theorem ES_aaldC {s i : Nat} (hs : isSky s) (hd : decode y.2.1 pc = .ok (.aaload, 1)) (hn : 112 ≤ n) (hi : i < 6)
    (kk : EV z k y (pc + 1) Lc (.ref (s + 4 + i) :: st) (mm σ X) n bc bs Q) : EV z k y pc Lc (.int (nI i) :: .ref (s + 1) :: st) (mm σ X) n bc bs Q :=
  ES_aald hd hn (r_crafts hs) (fun _ => rfl) rfl (vp_in_nI hi (by omega)) (by rw [nI_clamp (by omega), rowC, if_pos hi]) kk
theorem ES_aaldF {s i : Nat} (hs : isSky s) (hd : decode y.2.1 pc = .ok (.aaload, 1)) (hn : 112 ≤ n) (hi : i < 12)
    (kk : EV z k y (pc + 1) Lc (.ref (s + 10 + 3 * i) :: st) (mm σ X) n bc bs Q) : EV z k y pc Lc (.int (nI i) :: .ref (s + 2) :: st) (mm σ X) n bc bs Q :=
  ES_aald hd hn (r_flights hs) (fun _ => rfl) rfl (vp_in_nI hi (by omega)) (by rw [nI_clamp (by omega), rowF, if_pos hi]) kk
theorem ES_aaldC' {s : Nat} {x : Int32} (hs : isSky s) (hd : decode y.2.1 pc = .ok (.aaload, 1)) (hn : 112 ≤ n) (hx : vp_in x 6)
    (kk : EV z k y (pc + 1) Lc (.ref (s + 4 + x.toNatClampNeg) :: st) (mm σ X) n bc bs Q) : EV z k y pc Lc (.int x :: .ref (s + 1) :: st) (mm σ X) n bc bs Q := by
  obtain ⟨i, hi, rfl⟩ := vp_in_of hx (by omega)
  rw [nI_clamp (by omega)] at kk
  exact ES_aaldC hs hd hn hi kk
theorem ES_aaldF' {s : Nat} {x : Int32} (hs : isSky s) (hd : decode y.2.1 pc = .ok (.aaload, 1)) (hn : 112 ≤ n) (hx : vp_in x 12)
    (kk : EV z k y (pc + 1) Lc (.ref (s + 10 + 3 * x.toNatClampNeg) :: st) (mm σ X) n bc bs Q) : EV z k y pc Lc (.int x :: .ref (s + 2) :: st) (mm σ X) n bc bs Q := by
  obtain ⟨i, hi, rfl⟩ := vp_in_of hx (by omega)
  rw [nI_clamp (by omega)] at kk
  exact ES_aaldF hs hd hn hi kk
theorem vp_lt {x : Int32} {N : Nat} (h : vp_in x N) : x.toNatClampNeg < N := Nat.not_le.mp fun q => h (Or.inr q)
theorem vp_mono {x : Int32} {N N' : Nat} (h : vp_in x N) (hN : N ≤ N') : vp_in x N' := fun q => h (q.imp_right fun g => Nat.le_trans hN g)
/-- a method that ends with this answer and this state, whatever else lies there -/
def qRes (v : Option Value) (M2 : qM) (n2 : Nat) : qQ := fun v' M' n' => v' = v ∧ M' = M2 ∧ n' = n2
def SP (z : qZ) (k : Nat) (w : qY) (as : List Value) (σ : Nat → Nat → Int32) (v : Option Value) (σ' : Nat → Nat → Int32) : Prop := ∀ (X : qM) (n : Nat), 112 ≤ n → CT z k w as (mm σ X) n 0 0 (qRes v (mm σ' X) n)
theorem SP_of {as : List Value} {v : Option Value} (m0 : Nat) (hpl : plainName w.1.cls = true) (hlen : (lg_sl as).length ≤ w.2.2.1) (h : ∀ (X : qM) (n : Nat), 112 ≤ n → EV z k w 0 (qent as ++ List.replicate m0 .null) [] (mm σ X) n 0 0 (qRes v (mm σ' X) n)) : SP z k w as σ v σ' := fun X n hn => CT_of m0 hpl hlen (h X n hn)
theorem SP.to {as : List Value} {v v2 : Option Value} {σ2 : Nat → Nat → Int32} (h : SP z k w as σ v σ') (hv : v = v2) (hσ : σ' = σ2) : SP z k w as σ v2 σ2 := by
  subst hv; subst hσ; exact h
theorem ES_callV {idx na r ci : Nat} {T : u_T} {N : Nat} {As : List Value} {v : Option Value} (hd : decode y.2.1 pc = .ok (.invokevirtual idx, 3)) (hl : qLM y.1.cls idx w) (hf : qMf w na) (hv : qMv w) (hn : 112 ≤ n) (ho : isO ci r) (hc : vwCl[ci]? = some (w.1.cls, T, N)) (hsp : SP z k w (.ref r :: As) σ v σ') (hst : st0 = As.reverse ++ .ref r :: st) (hna : As.length = na) (hcat : (st.map fun v => v.category).sum ≤ 8)
    (kk : EV z (k + 1) y (pc + 3) Lc (v.toList ++ st) (mm σ' X) n bc bs Q) : EV z (k + 1) y pc Lc st0 (mm σ X) n bc bs Q :=
  EV_callV (mc := 0) (ms := 0) hd hl hf hv ⟨ho.1.1, Nat.le_trans ho.1.2 hn⟩ ((mm_at ho.1.2).trans (ho.2 _)) hc (hsp X n hn) hst hna hcat (fun v' M' n' h => by obtain ⟨rfl, rfl, rfl⟩ := h; exact kk)
theorem ES_callS {idx na : Nat} {As : List Value} {v : Option Value} (hd : decode y.2.1 pc = .ok (.invokestatic idx, 3)) (hl : qLM y.1.cls idx w) (hf : qMf w na) (hv : Cond.static w.1 ∈ qTBL) (hn : 112 ≤ n) (hsp : SP z k w As σ v σ') (hst : st0 = As.reverse ++ st) (hna : As.length = na) (hcat : (st.map fun v => v.category).sum ≤ 8)
    (kk : EV z (k + 1) y (pc + 3) Lc (v.toList ++ st) (mm σ' X) n bc bs Q) : EV z (k + 1) y pc Lc st0 (mm σ X) n bc bs Q :=
  EV_callS (mc := 0) (ms := 0) hd hl hf hv (hsp X n hn) hst hna hcat (fun v' M' n' h => by obtain ⟨rfl, rfl, rfl⟩ := h; exact kk)
theorem ES_iret {x : Int32} {ty : FieldType} {v : Option Value} (hd : decode y.2.1 pc = .ok (.ireturn, 1)) (hr : y.2.2.2 = some ty) (hna : narrow ty (.int x) = .int x) (hv : some (.int x) = v) (hσ : σ = σ') : EV z k y pc Lc [.int x] (mm σ X) n bc bs (qRes v (mm σ' X) n) :=
  EV_iret hd hr hna ⟨hv, by rw [hσ], rfl⟩
theorem ES_dret {x : UInt64} {v : Option Value} (hd : decode y.2.1 pc = .ok (.dreturn, 1)) (hr : y.2.2.2 = some .double) (hv : some (.double x) = v) (hσ : σ = σ') : EV z k y pc Lc [.double x] (mm σ X) n bc bs (qRes v (mm σ' X) n) :=
  EV_dret hd hr ⟨hv, by rw [hσ], rfl⟩
theorem ES_lret {x : Int64} {v : Option Value} (hd : decode y.2.1 pc = .ok (.lreturn, 1)) (hr : y.2.2.2 = some .long) (hv : some (.long x) = v) (hσ : σ = σ') : EV z k y pc Lc [.long x] (mm σ X) n bc bs (qRes v (mm σ' X) n) :=
  EV_lret hd hr ⟨hv, by rw [hσ], rfl⟩
theorem ES_vret (hd : decode y.2.1 pc = .ok (.return_, 1)) (hr : y.2.2.2 = none) (hσ : σ = σ') : EV z k y pc Lc [] (mm σ X) n bc bs (qRes none (mm σ' X) n) :=
  EV_vret hd hr ⟨rfl, by rw [hσ], rfl⟩
theorem ES_acopy {idx r0 r1 len : Nat} {cn : Int32} (hd : decode y.2.1 pc = .ok (.invokestatic idx, 3)) (hl : Cond.methodLink y.1.cls idx arraycopyName ∈ qTBL) (hn : 112 ≤ n) (h0 : isA 0 len r0) (h1 : isA 0 len r1) (hcn : cn.toInt = (len : Int)) (hcat : (st.map fun v => v.category).sum ≤ 8)
    (kk : EV z (k + 1) y (pc + 3) Lc st (mm (srow σ r1 (va_cpy (σ r0) (σ r1) 0 0 len)) X) n bc bs Q) : EV z (k + 1) y pc Lc (.int cn :: .int 0 :: .ref r1 :: .int 0 :: .ref r0 :: st) (mm σ X) n bc bs Q := by
  refine EV_acopy hd hl lna_copy ls_copy ln_System ⟨h0.1.1, Nat.le_trans h0.1.2 hn⟩ ⟨h1.1.1, Nat.le_trans h1.1.2 hn⟩ ((mm_at h0.1.2).trans (h0.2 _)) ((mm_at h1.1.2).trans (h1.2 _)) hcn hcat ?_
  rw [← h1.2, mm_row h1.1.2]
  exact kk
/-- a truth value as an int -/
def bI (b : Bool) : Int32 := match b with
  | true => 1
  | false => 0
theorem bI_nar (b : Bool) : narrow .boolean (.int (bI b)) = .int (bI b) := by cases b <;> rfl
theorem bI_fit (b : Bool) : fits .boolean (.int (bI b)) = true := by cases b <;> rfl
theorem bI_vp (b : Bool) : vp_nar .boolean (bI b) = bI b := by cases b <;> rfl
theorem bI_eq0 {b : Bool} : bI b = 0 ↔ b = false := by cases b <;> simp [bI]
end QSys
end
section
/-! ===== leaves: Zone, Route, Ground ===== -/
theorem any_f {n : Nat} {p : Nat → Bool} (h : ∀ t, t < n → p t = false) : (List.range n).any p = false := by
  rw [List.any_eq_false]
  intro x hx
  rw [h x (List.mem_range.mp hx)]
  decide
theorem any_t {n i : Nat} {p : Nat → Bool} (hi : i < n) (h : p i = true) : (List.range n).any p = true := List.any_eq_true.mpr ⟨i, List.mem_range.mpr hi, h⟩
abbrev hourF (m : Int32) : Int32 := m / 60 - m / 60 / 24 * 24
def shutsF (f : Nat → Int32) (a r m : Int32) : Bool :=
  if f 0 = a then (if r < f 3 then
    (if f 2 ≤ f 1 then (if f 1 ≤ hourF m then true else if f 2 ≤ hourF m then false else true)
     else if hourF m < f 1 then false else if f 2 ≤ hourF m then false else true) else false) else false
set_option maxHeartbeats 1000000 in
theorem sp_shuts (z : qZ) (k : Nat) {σ : Nat → Nat → Int32} {rz : Nat} (hz : isO 7 rz) (a r m : Int32) : SP z k mX7_shuts [.ref rz, .int a, .int r, .int m] σ (some (.int (bI (shutsF (σ rz) a r m)))) σ := by
  refine SP_of 1 (by decide) (Nat.le_of_ble_eq_true rfl) fun X n hn => ?_
  refine EV_aload_n dX7_shuts_0 rfl ?_
  refine ES_getf dX7_shuts_1 fkX7_9 hn (by assumption) rfl ?_
  refine EV_iload_n dX7_shuts_4 rfl ?_
  refine EV_icmp_ne 16 dX7_shuts_5 (by decide) (fun c5 => ?_) (fun c5 => ?_)
  · skip
    refine EV_iconst (v := 0) dX7_shuts_16 (by decide) ?_
    exact ES_iret dX7_shuts_17 rfl rfl (by simp only [shutsF, if_neg c5]; try rfl) rfl
  · skip
    refine EV_iload_n dX7_shuts_8 rfl ?_
    refine EV_aload_n dX7_shuts_9 rfl ?_
    refine ES_getf dX7_shuts_10 fkX7_15 hn (by assumption) rfl ?_
    refine EV_icmp_lt 18 dX7_shuts_13 (by decide) (fun c13 => ?_) (fun c13 => ?_)
    · skip
      refine EV_iload_n dX7_shuts_18 rfl ?_
      refine EV_bipush (v := 60) dX7_shuts_19 (by decide) ?_
      refine EV_idiv dX7_shuts_21 (by decide) ?_
      refine EV_bipush (v := 24) dX7_shuts_22 (by decide) ?_
      refine EV_irem dX7_shuts_24 (by decide) ?_
      refine EV_istore dX7_shuts_25 (Nat.le_of_ble_eq_true rfl) (Nat.le_of_ble_eq_true rfl) rfl ?_
      refine EV_aload_n dX7_shuts_27 rfl ?_
      refine ES_getf dX7_shuts_28 fkX7_18 hn (by assumption) rfl ?_
      refine EV_aload_n dX7_shuts_31 rfl ?_
      refine ES_getf dX7_shuts_32 fkX7_21 hn (by assumption) rfl ?_
      refine EV_icmp_ge 62 dX7_shuts_35 (by decide) (fun c35 => ?_) (fun c35 => ?_)
      · skip
        refine EV_iload dX7_shuts_62 rfl ?_
        refine EV_aload_n dX7_shuts_64 rfl ?_
        refine ES_getf dX7_shuts_65 fkX7_18 hn (by assumption) rfl ?_
        refine EV_icmp_ge 80 dX7_shuts_68 (by decide) (fun c68 => ?_) (fun c68 => ?_)
        · skip
          refine EV_iconst (v := 1) dX7_shuts_80 (by decide) ?_
          refine EV_goto 85 dX7_shuts_81 (by decide) ?_
          exact ES_iret dX7_shuts_85 rfl rfl (by simp only [shutsF, if_pos c5, if_pos c13, if_pos c35, if_pos c68]; try rfl) rfl
        · skip
          refine EV_iload dX7_shuts_71 rfl ?_
          refine EV_aload_n dX7_shuts_73 rfl ?_
          refine ES_getf dX7_shuts_74 fkX7_21 hn (by assumption) rfl ?_
          refine EV_icmp_ge 84 dX7_shuts_77 (by decide) (fun c77 => ?_) (fun c77 => ?_)
          · skip
            refine EV_iconst (v := 0) dX7_shuts_84 (by decide) ?_
            exact ES_iret dX7_shuts_85 rfl rfl (by simp only [shutsF, if_pos c5, if_pos c13, if_pos c35, if_neg c68, if_pos c77]; try rfl) rfl
          · skip
            refine EV_iconst (v := 1) dX7_shuts_80 (by decide) ?_
            refine EV_goto 85 dX7_shuts_81 (by decide) ?_
            exact ES_iret dX7_shuts_85 rfl rfl (by simp only [shutsF, if_pos c5, if_pos c13, if_pos c35, if_neg c68, if_neg c77]; try rfl) rfl
      · skip
        refine EV_iload dX7_shuts_38 rfl ?_
        refine EV_aload_n dX7_shuts_40 rfl ?_
        refine ES_getf dX7_shuts_41 fkX7_18 hn (by assumption) rfl ?_
        refine EV_icmp_lt 60 dX7_shuts_44 (by decide) (fun c44 => ?_) (fun c44 => ?_)
        · skip
          refine EV_iconst (v := 0) dX7_shuts_60 (by decide) ?_
          exact ES_iret dX7_shuts_61 rfl rfl (by simp only [shutsF, if_pos c5, if_pos c13, if_neg c35, if_pos c44]; try rfl) rfl
        · skip
          refine EV_iload dX7_shuts_47 rfl ?_
          refine EV_aload_n dX7_shuts_49 rfl ?_
          refine ES_getf dX7_shuts_50 fkX7_21 hn (by assumption) rfl ?_
          refine EV_icmp_ge 60 dX7_shuts_53 (by decide) (fun c53 => ?_) (fun c53 => ?_)
          · skip
            refine EV_iconst (v := 0) dX7_shuts_60 (by decide) ?_
            exact ES_iret dX7_shuts_61 rfl rfl (by simp only [shutsF, if_pos c5, if_pos c13, if_neg c35, if_neg c44, if_pos c53]; try rfl) rfl
          · skip
            refine EV_iconst (v := 1) dX7_shuts_56 (by decide) ?_
            refine EV_goto 61 dX7_shuts_57 (by decide) ?_
            exact ES_iret dX7_shuts_61 rfl rfl (by simp only [shutsF, if_pos c5, if_pos c13, if_neg c35, if_neg c44, if_neg c53]; try rfl) rfl
    · skip
      refine EV_iconst (v := 0) dX7_shuts_16 (by decide) ?_
      exact ES_iret dX7_shuts_17 rfl rfl (by simp only [shutsF, if_pos c5, if_neg c13]; try rfl) rfl
def firstF (σ : Nat → Nat → Int32) (r : Nat) : Int32 := if σ r 1 ≤ 0 then -1 else σ (r + 1) 0
def lastF (σ : Nat → Nat → Int32) (r : Nat) : Int32 := if σ r 1 ≤ 0 then -1 else if 10 < σ r 1 then -1 else σ (r + 1) (σ r 1 - 1).toNatClampNeg
def atF (σ : Nat → Nat → Int32) (r : Nat) (i : Int32) : Int32 := if i < 0 then -1 else if σ r 1 ≤ i then -1 else if 10 ≤ i then -1 else σ (r + 1) i.toNatClampNeg
def endF (σ : Nat → Nat → Int32) (r : Nat) (s : Int32) : Int32 := s + 2 * (σ r 1 - 1)
theorem vp_in_z {i : Int32} {n : Nat} (h0 : ¬ i < 0) (h1 : i < nI n) (hn : n < 2 ^ 31) : vp_in i n := by
  obtain ⟨j, hj, rfl⟩ := nI_of h0
  exact vp_in_nI ((nI_ltI hj hn).mp h1) hn
set_option maxHeartbeats 1000000 in
theorem sp_first (z : qZ) (k : Nat) {σ : Nat → Nat → Int32} {r : Nat} (hr : isO 4 r) (ha : isA 0 10 (r + 1)) : SP z k mX4_first [.ref r] σ (some (.int (firstF σ r))) σ := by
  refine SP_of 0 (by decide) (Nat.le_of_ble_eq_true rfl) fun X n hn => ?_
  refine EV_aload_n dX4_first_0 rfl ?_
  refine ES_getf dX4_first_1 fkX4_15 hn (by assumption) rfl ?_
  refine EV_if_le 16 dX4_first_4 (by decide) (fun c4 => ?_) (fun c4 => ?_)
  · skip
    refine EV_iconst (v := (-1)) dX4_first_16 (by decide) ?_
    exact ES_iret dX4_first_17 rfl rfl (by simp only [firstF, if_pos c4]; try rfl) rfl
  · skip
    refine EV_aload_n dX4_first_7 rfl ?_
    refine ES_getf dX4_first_8 fkX4_9 hn (by assumption) rfl ?_
    refine EV_iconst (v := 0) dX4_first_11 (by decide) ?_
    refine ES_iald dX4_first_12 hn ha (vp_in_nI (n := 0) (by omega) (by omega)) ?_
    refine EV_goto 17 dX4_first_13 (by decide) ?_
    exact ES_iret dX4_first_17 rfl rfl (by simp only [firstF, if_neg c4]; try rfl) rfl
set_option maxHeartbeats 1000000 in
theorem sp_last (z : qZ) (k : Nat) {σ : Nat → Nat → Int32} {r : Nat} (hr : isO 4 r) (ha : isA 0 10 (r + 1)) : SP z k mX4_last [.ref r] σ (some (.int (lastF σ r))) σ := by
  refine SP_of 0 (by decide) (Nat.le_of_ble_eq_true rfl) fun X n hn => ?_
  refine EV_aload_n dX4_last_0 rfl ?_
  refine ES_getf dX4_last_1 fkX4_15 hn (by assumption) rfl ?_
  refine EV_if_le 30 dX4_last_4 (by decide) (fun c4 => ?_) (fun c4 => ?_)
  · skip
    refine EV_iconst (v := (-1)) dX4_last_30 (by decide) ?_
    exact ES_iret dX4_last_31 rfl rfl (by simp only [lastF, if_pos c4]; try rfl) rfl
  · skip
    refine EV_aload_n dX4_last_7 rfl ?_
    refine ES_getf dX4_last_8 fkX4_15 hn (by assumption) rfl ?_
    refine EV_bipush (v := 10) dX4_last_11 (by decide) ?_
    refine EV_icmp_gt 30 dX4_last_13 (by decide) (fun c13 => ?_) (fun c13 => ?_)
    · skip
      refine EV_iconst (v := (-1)) dX4_last_30 (by decide) ?_
      exact ES_iret dX4_last_31 rfl rfl (by simp only [lastF, if_neg c4, if_pos c13]; try rfl) rfl
    · skip
      refine EV_aload_n dX4_last_16 rfl ?_
      refine ES_getf dX4_last_17 fkX4_9 hn (by assumption) rfl ?_
      refine EV_aload_n dX4_last_20 rfl ?_
      refine ES_getf dX4_last_21 fkX4_15 hn (by assumption) rfl ?_
      refine EV_iconst (v := 1) dX4_last_24 (by decide) ?_
      refine EV_isub dX4_last_25 ?_
      have hin : vp_in (σ r 1 - 1) 10 := by
        obtain ⟨j, hj, e⟩ := nI_of (x := σ r 1) (fun h => by have := Int32.lt_iff_toInt_lt.mp h; have := mt Int32.le_iff_toInt_le.mpr c4; simp at *; omega)
        rw [e] at c4 c13 ⊢
        have h1 : 0 < j := Nat.pos_of_ne_zero (fun h => c4 (by rw [h]; decide))
        have h2 : j ≤ 10 := by
          rcases Nat.lt_or_ge 10 j with h | h
          · exact absurd (nI_lt (a := 10) h (by omega)) c13
          · exact h
        obtain ⟨j, rfl⟩ : ∃ t, j = t + 1 := ⟨j - 1, by omega⟩
        rw [nI_pred]
        exact vp_in_nI (by omega) (by omega)
      refine ES_iald dX4_last_26 hn ha hin ?_
      refine EV_goto 31 dX4_last_27 (by decide) ?_
      exact ES_iret dX4_last_31 rfl rfl (by simp only [lastF, if_neg c4, if_neg c13]; try rfl) rfl
set_option maxHeartbeats 1000000 in
theorem sp_at (z : qZ) (k : Nat) {σ : Nat → Nat → Int32} {r : Nat} (hr : isO 4 r) (ha : isA 0 10 (r + 1)) (i : Int32) : SP z k mX4_at [.ref r, .int i] σ (some (.int (atF σ r i))) σ := by
  refine SP_of 0 (by decide) (Nat.le_of_ble_eq_true rfl) fun X n hn => ?_
  refine EV_iload_n dX4_at_0 rfl ?_
  refine EV_if_lt 27 dX4_at_1 (by decide) (fun c1 => ?_) (fun c1 => ?_)
  · skip
    refine EV_iconst (v := (-1)) dX4_at_27 (by decide) ?_
    exact ES_iret dX4_at_28 rfl rfl (by simp only [atF, if_pos c1]; try rfl) rfl
  · skip
    refine EV_iload_n dX4_at_4 rfl ?_
    refine EV_aload_n dX4_at_5 rfl ?_
    refine ES_getf dX4_at_6 fkX4_15 hn (by assumption) rfl ?_
    refine EV_icmp_ge 27 dX4_at_9 (by decide) (fun c9 => ?_) (fun c9 => ?_)
    · skip
      refine EV_iconst (v := (-1)) dX4_at_27 (by decide) ?_
      exact ES_iret dX4_at_28 rfl rfl (by simp only [atF, if_neg c1, if_pos c9]; try rfl) rfl
    · skip
      refine EV_iload_n dX4_at_12 rfl ?_
      refine EV_bipush (v := 10) dX4_at_13 (by decide) ?_
      refine EV_icmp_ge 27 dX4_at_15 (by decide) (fun c15 => ?_) (fun c15 => ?_)
      · skip
        refine EV_iconst (v := (-1)) dX4_at_27 (by decide) ?_
        exact ES_iret dX4_at_28 rfl rfl (by simp only [atF, if_neg c1, if_neg c9, if_pos c15]; try rfl) rfl
      · skip
        refine EV_aload_n dX4_at_18 rfl ?_
        refine ES_getf dX4_at_19 fkX4_9 hn (by assumption) rfl ?_
        refine EV_iload_n dX4_at_22 rfl ?_
        refine ES_iald dX4_at_23 hn ha (vp_in_z c1 (Int32.not_le.mp c15) (by omega)) ?_
        refine EV_goto 28 dX4_at_24 (by decide) ?_
        exact ES_iret dX4_at_28 rfl rfl (by simp only [atF, if_neg c1, if_neg c9, if_neg c15]; try rfl) rfl
theorem sp_endFrom (z : qZ) (k : Nat) {σ : Nat → Nat → Int32} {r : Nat} (hr : isO 4 r) (s : Int32) : SP z k mX4_endFrom [.ref r, .int s] σ (some (.int (endF σ r s))) σ := by
  refine SP_of 0 (by decide) (Nat.le_of_ble_eq_true rfl) fun X n hn => ?_
  refine EV_iload_n dX4_endFrom_0 rfl ?_
  refine EV_iconst (v := 2) dX4_endFrom_1 (by decide) ?_
  refine EV_aload_n dX4_endFrom_2 rfl ?_
  refine ES_getf dX4_endFrom_3 fkX4_15 hn (by assumption) rfl ?_
  refine EV_iconst (v := 1) dX4_endFrom_6 (by decide) ?_
  refine EV_isub dX4_endFrom_7 ?_
  refine EV_imul dX4_endFrom_8 ?_
  refine EV_iadd dX4_endFrom_9 ?_
  exact ES_iret dX4_endFrom_10 rfl rfl rfl rfl
def isShutF (σ : Nat → Nat → Int32) (zc : Nat) (a r m : Int32) : Bool := (List.range zc).any (fun i => shutsF (σ (8 + i)) a r m)
set_option maxHeartbeats 1000000 in
theorem lp_isShut (z : qZ) (k : Nat) {σ : Nat → Nat → Int32} {zc : Nat} (hz : σ 2 6 = nI zc) (h6 : zc ≤ 6) (a r m : Int32) {X : qM} {n : Nat} (hn : 112 ≤ n) : ∀ (j i : Nat), i + j = zc → (∀ t, t < i → shutsF (σ (8 + t)) a r m = false) → EV z (k + 1) mX2_isShut 3 [.ref 2, .int a, .int r, .int m, .int (nI i)] [] (mm σ X) n 0 0 (qRes (some (.int (bI (isShutF σ zc a r m)))) (mm σ X) n) := by
  intro j
  induction j with
  | zero =>
    intro i hi hf
    refine EV_iload dX2_isShut_3 rfl ?_
    refine EV_aload_n dX2_isShut_5 rfl ?_
    refine ES_getf dX2_isShut_6 fkX2_42 hn o_ground rfl ?_
    refine EV_icmp_ge 36 dX2_isShut_9 (by decide) (fun c9 => ?_) (fun c9 => ?_)
    · skip
      refine EV_iconst (v := 0) dX2_isShut_36 (by decide) ?_
      exact ES_iret dX2_isShut_37 rfl rfl (by rw [isShutF, any_f (fun t ht => hf t (by omega))]; rfl) rfl
    · skip
      exact absurd (by rw [hz]; exact nI_le (by omega) (by omega)) c9
  | succ j ih =>
    intro i hi hf
    refine EV_iload dX2_isShut_3 rfl ?_
    refine EV_aload_n dX2_isShut_5 rfl ?_
    refine ES_getf dX2_isShut_6 fkX2_42 hn o_ground rfl ?_
    refine EV_icmp_ge 36 dX2_isShut_9 (by decide) (fun c9 => ?_) (fun c9 => ?_)
    · skip
      exact absurd c9 (by rw [hz]; exact nI_ge (by omega) (by omega))
    · skip
      refine EV_aload_n dX2_isShut_12 rfl ?_
      refine ES_getf dX2_isShut_13 fkX2_27 hn o_ground rfl ?_
      refine EV_iload dX2_isShut_16 rfl ?_
      refine ES_aaldZ dX2_isShut_18 hn (by omega) ?_
      refine EV_iload_n dX2_isShut_19 rfl ?_
      refine EV_iload_n dX2_isShut_20 rfl ?_
      refine EV_iload_n dX2_isShut_21 rfl ?_
      have hzi := o_zone (i := i) (by omega)
      refine ES_callV dX2_isShut_22 mkX2_57 mfX7_shuts mvX7_shuts hn (by assumption) rfl (sp_shuts z k hzi _ _ _) rfl rfl (Nat.le_of_ble_eq_true rfl) ?_
      refine EV_if_eq 30 dX2_isShut_25 (by decide) (fun c25 => ?_) (fun c25 => ?_)
      · skip
        refine EV_iinc dX2_isShut_30 rfl (Nat.le_of_ble_eq_true rfl) rfl ?_
        refine EV_goto 3 dX2_isShut_33 (by decide) ?_
        rw [show nI i + Int32.ofInt 1 = nI (i + 1) from (nI_succ i).symm]
        exact ih (i + 1) (by omega) (fun t ht => by
          rcases Nat.lt_or_ge t i with h | h
          · exact hf t h
          · rw [show t = i by omega]; exact bI_eq0.mp c25)
      · skip
        refine EV_iconst (v := 1) dX2_isShut_28 (by decide) ?_
        exact ES_iret dX2_isShut_29 rfl rfl (by rw [isShutF, any_t (i := i) (by omega) (by cases h : shutsF (σ (8 + i)) a r m <;> simp_all [bI])]; rfl) rfl
theorem sp_isShut (z : qZ) (k : Nat) {σ : Nat → Nat → Int32} {zc : Nat} (hz : σ 2 6 = nI zc) (h6 : zc ≤ 6) (a r m : Int32) : SP z (k + 1) mX2_isShut [.ref 2, .int a, .int r, .int m] σ (some (.int (bI (isShutF σ zc a r m)))) σ := by
  refine SP_of 1 (by decide) (Nat.le_of_ble_eq_true rfl) fun X n hn => ?_
  refine EV_iconst (v := 0) dX2_isShut_0 (by decide) ?_
  refine EV_istore dX2_isShut_1 (Nat.le_of_ble_eq_true rfl) (Nat.le_of_ble_eq_true rfl) rfl ?_
  exact lp_isShut z k hz h6 a r m hn zc 0 (by omega) (fun t ht => absurd ht (by omega))
end
section
/-! ===== the ground, craft, flights ===== -/
def isCellF (c : Int32) : Bool := if c < 0 then false else if 25 ≤ c then false else true
theorem sp_isCell (z : qZ) (k : Nat) {σ : Nat → Nat → Int32} (c : Int32) : SP z k mX8_isCell [.int c] σ (some (.int (bI (isCellF c)))) σ := by
  refine SP_of 0 (by decide) (Nat.le_of_ble_eq_true rfl) fun X n hn => ?_
  refine EV_iload_n dX8_isCell_0 rfl ?_
  refine EV_if_lt 14 dX8_isCell_1 (by decide) (fun c1 => ?_) (fun c1 => ?_)
  · skip
    refine EV_iconst (v := 0) dX8_isCell_14 (by decide) ?_
    exact ES_iret dX8_isCell_15 rfl rfl (by simp only [isCellF, if_pos c1]; try rfl) rfl
  · skip
    refine EV_iload_n dX8_isCell_4 rfl ?_
    refine EV_bipush (v := 25) dX8_isCell_5 (by decide) ?_
    refine EV_icmp_ge 14 dX8_isCell_7 (by decide) (fun c7 => ?_) (fun c7 => ?_)
    · skip
      refine EV_iconst (v := 0) dX8_isCell_14 (by decide) ?_
      exact ES_iret dX8_isCell_15 rfl rfl (by simp only [isCellF, if_neg c1, if_pos c7]; try rfl) rfl
    · skip
      refine EV_iconst (v := 1) dX8_isCell_10 (by decide) ?_
      refine EV_goto 15 dX8_isCell_11 (by decide) ?_
      exact ES_iret dX8_isCell_15 rfl rfl (by simp only [isCellF, if_neg c1, if_neg c7]; try rfl) rfl
theorem isCell_in {c : Int32} (h : ¬ bI (isCellF c) = 0) : vp_in c 25 := by
  unfold isCellF at h
  by_cases h1 : c < 0
  · rw [if_pos h1] at h; exact absurd rfl h
  · rw [if_neg h1] at h
    by_cases h2 : 25 ≤ c
    · rw [if_pos h2] at h; exact absurd rfl h
    · exact vp_in_z h1 (Int32.not_le.mp h2) (by omega)
def hasPadF (σ : Nat → Nat → Int32) (c : Int32) : Bool := if bI (isCellF c) = 0 then false else if σ 5 c.toNatClampNeg = -1 then false else true
set_option maxHeartbeats 1000000 in
theorem sp_hasPad (z : qZ) (k : Nat) {σ : Nat → Nat → Int32} (c : Int32) : SP z (k + 1) mX2_hasPad [.ref 2, .int c] σ (some (.int (bI (hasPadF σ c)))) σ := by
  refine SP_of 0 (by decide) (Nat.le_of_ble_eq_true rfl) fun X n hn => ?_
  refine EV_iload_n dX2_hasPad_0 rfl ?_
  refine ES_callS dX2_hasPad_1 mkX2_61 mfX8_isCell msX8_isCell hn (sp_isCell z k c) rfl rfl (Nat.le_of_ble_eq_true rfl) ?_
  refine EV_if_eq 21 dX2_hasPad_4 (by decide) (fun c4 => ?_) (fun c4 => ?_)
  · skip
    refine EV_iconst (v := 0) dX2_hasPad_21 (by decide) ?_
    exact ES_iret dX2_hasPad_22 rfl rfl (by simp only [hasPadF, if_pos c4]; try rfl) rfl
  · skip
    refine EV_aload_n dX2_hasPad_7 rfl ?_
    refine ES_getf dX2_hasPad_8 fkX2_19 hn o_ground rfl ?_
    refine EV_iload_n dX2_hasPad_11 rfl ?_
    refine ES_iald dX2_hasPad_12 hn a_padAt (isCell_in c4) ?_
    refine EV_iconst (v := (-1)) dX2_hasPad_13 (by decide) ?_
    refine EV_icmp_eq 21 dX2_hasPad_14 (by decide) (fun c14 => ?_) (fun c14 => ?_)
    · skip
      refine EV_iconst (v := 0) dX2_hasPad_21 (by decide) ?_
      exact ES_iret dX2_hasPad_22 rfl rfl (by simp only [hasPadF, if_neg c4, if_pos c14]; try rfl) rfl
    · skip
      refine EV_iconst (v := 1) dX2_hasPad_17 (by decide) ?_
      refine EV_goto 22 dX2_hasPad_18 (by decide) ?_
      exact ES_iret dX2_hasPad_22 rfl rfl (by simp only [hasPadF, if_neg c4, if_neg c14]; try rfl) rfl
abbrev colF (c : Int32) : Int32 := c - c / 5 * 5
def neighF (c : Int32) (d : Nat) : Int32 := match d with
  | 0 => if c / 5 ≤ 0 then -1 else c - 5
  | 1 => if 4 ≤ colF c then -1 else c + 1
  | 2 => if 4 ≤ c / 5 then -1 else c + 5
  | _ => if colF c ≤ 0 then -1 else c - 1
set_option maxHeartbeats 2000000 in
theorem sp_neighbour (z : qZ) (k : Nat) {σ : Nat → Nat → Int32} (c : Int32) {d : Nat} (hd : d < 4) : SP z k mX2_neighbour [.int c, .int (nI d)] σ (some (.int (neighF c d))) σ := by
  refine SP_of 2 (by decide) (Nat.le_of_ble_eq_true rfl) fun X n hn => ?_
  rcases (show d = 0 ∨ d = 1 ∨ d = 2 ∨ d = 3 by omega) with rfl | rfl | rfl | rfl
  · skip
    refine EV_iload_n dX2_neighbour_0 rfl ?_
    refine EV_iconst (v := 5) dX2_neighbour_1 (by decide) ?_
    refine EV_idiv dX2_neighbour_2 (by decide) ?_
    refine EV_istore_n dX2_neighbour_3 (Nat.le_of_ble_eq_true rfl) (Nat.le_of_ble_eq_true rfl) rfl ?_
    refine EV_iload_n dX2_neighbour_4 rfl ?_
    refine EV_iconst (v := 5) dX2_neighbour_5 (by decide) ?_
    refine EV_irem dX2_neighbour_6 (by decide) ?_
    refine EV_istore_n dX2_neighbour_7 (Nat.le_of_ble_eq_true rfl) (Nat.le_of_ble_eq_true rfl) rfl ?_
    refine EV_iload_n dX2_neighbour_8 rfl ?_
    refine EV_tableIn 40 dX2_neighbour_9 (by decide) (by decide) rfl (by decide) ?_
    refine EV_iload_n dX2_neighbour_40 rfl ?_
    refine EV_if_le 50 dX2_neighbour_41 (by decide) (fun c41 => ?_) (fun c41 => ?_)
    · skip
      refine EV_iconst (v := (-1)) dX2_neighbour_50 (by decide) ?_
      exact ES_iret dX2_neighbour_51 rfl rfl (by simp only [neighF, if_pos c41]; try rfl) rfl
    · skip
      refine EV_iload_n dX2_neighbour_44 rfl ?_
      refine EV_iconst (v := 5) dX2_neighbour_45 (by decide) ?_
      refine EV_isub dX2_neighbour_46 ?_
      refine EV_goto 51 dX2_neighbour_47 (by decide) ?_
      exact ES_iret dX2_neighbour_51 rfl rfl (by simp only [neighF, if_neg c41]; try rfl) rfl
  · skip
    refine EV_iload_n dX2_neighbour_0 rfl ?_
    refine EV_iconst (v := 5) dX2_neighbour_1 (by decide) ?_
    refine EV_idiv dX2_neighbour_2 (by decide) ?_
    refine EV_istore_n dX2_neighbour_3 (Nat.le_of_ble_eq_true rfl) (Nat.le_of_ble_eq_true rfl) rfl ?_
    refine EV_iload_n dX2_neighbour_4 rfl ?_
    refine EV_iconst (v := 5) dX2_neighbour_5 (by decide) ?_
    refine EV_irem dX2_neighbour_6 (by decide) ?_
    refine EV_istore_n dX2_neighbour_7 (Nat.le_of_ble_eq_true rfl) (Nat.le_of_ble_eq_true rfl) rfl ?_
    refine EV_iload_n dX2_neighbour_8 rfl ?_
    refine EV_tableIn 52 dX2_neighbour_9 (by decide) (by decide) rfl (by decide) ?_
    refine EV_iload_n dX2_neighbour_52 rfl ?_
    refine EV_iconst (v := 4) dX2_neighbour_53 (by decide) ?_
    refine EV_icmp_ge 63 dX2_neighbour_54 (by decide) (fun c54 => ?_) (fun c54 => ?_)
    · skip
      refine EV_iconst (v := (-1)) dX2_neighbour_63 (by decide) ?_
      exact ES_iret dX2_neighbour_64 rfl rfl (by simp only [neighF, if_pos c54]; try rfl) rfl
    · skip
      refine EV_iload_n dX2_neighbour_57 rfl ?_
      refine EV_iconst (v := 1) dX2_neighbour_58 (by decide) ?_
      refine EV_iadd dX2_neighbour_59 ?_
      refine EV_goto 64 dX2_neighbour_60 (by decide) ?_
      exact ES_iret dX2_neighbour_64 rfl rfl (by simp only [neighF, if_neg c54]; try rfl) rfl
  · skip
    refine EV_iload_n dX2_neighbour_0 rfl ?_
    refine EV_iconst (v := 5) dX2_neighbour_1 (by decide) ?_
    refine EV_idiv dX2_neighbour_2 (by decide) ?_
    refine EV_istore_n dX2_neighbour_3 (Nat.le_of_ble_eq_true rfl) (Nat.le_of_ble_eq_true rfl) rfl ?_
    refine EV_iload_n dX2_neighbour_4 rfl ?_
    refine EV_iconst (v := 5) dX2_neighbour_5 (by decide) ?_
    refine EV_irem dX2_neighbour_6 (by decide) ?_
    refine EV_istore_n dX2_neighbour_7 (Nat.le_of_ble_eq_true rfl) (Nat.le_of_ble_eq_true rfl) rfl ?_
    refine EV_iload_n dX2_neighbour_8 rfl ?_
    refine EV_tableIn 65 dX2_neighbour_9 (by decide) (by decide) rfl (by decide) ?_
    refine EV_iload_n dX2_neighbour_65 rfl ?_
    refine EV_iconst (v := 4) dX2_neighbour_66 (by decide) ?_
    refine EV_icmp_ge 76 dX2_neighbour_67 (by decide) (fun c67 => ?_) (fun c67 => ?_)
    · skip
      refine EV_iconst (v := (-1)) dX2_neighbour_76 (by decide) ?_
      exact ES_iret dX2_neighbour_77 rfl rfl (by simp only [neighF, if_pos c67]; try rfl) rfl
    · skip
      refine EV_iload_n dX2_neighbour_70 rfl ?_
      refine EV_iconst (v := 5) dX2_neighbour_71 (by decide) ?_
      refine EV_iadd dX2_neighbour_72 ?_
      refine EV_goto 77 dX2_neighbour_73 (by decide) ?_
      exact ES_iret dX2_neighbour_77 rfl rfl (by simp only [neighF, if_neg c67]; try rfl) rfl
  · skip
    refine EV_iload_n dX2_neighbour_0 rfl ?_
    refine EV_iconst (v := 5) dX2_neighbour_1 (by decide) ?_
    refine EV_idiv dX2_neighbour_2 (by decide) ?_
    refine EV_istore_n dX2_neighbour_3 (Nat.le_of_ble_eq_true rfl) (Nat.le_of_ble_eq_true rfl) rfl ?_
    refine EV_iload_n dX2_neighbour_4 rfl ?_
    refine EV_iconst (v := 5) dX2_neighbour_5 (by decide) ?_
    refine EV_irem dX2_neighbour_6 (by decide) ?_
    refine EV_istore_n dX2_neighbour_7 (Nat.le_of_ble_eq_true rfl) (Nat.le_of_ble_eq_true rfl) rfl ?_
    refine EV_iload_n dX2_neighbour_8 rfl ?_
    refine EV_tableIn 78 dX2_neighbour_9 (by decide) (by decide) rfl (by decide) ?_
    refine EV_iload_n dX2_neighbour_78 rfl ?_
    refine EV_if_le 88 dX2_neighbour_79 (by decide) (fun c79 => ?_) (fun c79 => ?_)
    · skip
      refine EV_iconst (v := (-1)) dX2_neighbour_88 (by decide) ?_
      exact ES_iret dX2_neighbour_89 rfl rfl (by simp only [neighF, if_pos c79]; try rfl) rfl
    · skip
      refine EV_iload_n dX2_neighbour_82 rfl ?_
      refine EV_iconst (v := 1) dX2_neighbour_83 (by decide) ?_
      refine EV_isub dX2_neighbour_84 ?_
      refine EV_goto 89 dX2_neighbour_85 (by decide) ?_
      exact ES_iret dX2_neighbour_89 rfl rfl (by simp only [neighF, if_neg c79]; try rfl) rfl
def dirL (c nx : Int32) : Nat → Nat → Int32
  | 0, _ => -1
  | j + 1, i => if neighF c i = nx then nI i else dirL c nx j (i + 1)
def dirF (c nx : Int32) : Int32 := if bI (isCellF c) = 0 then -1 else if bI (isCellF nx) = 0 then -1 else dirL c nx 4 0
set_option maxHeartbeats 2000000 in
theorem lp_dir (z : qZ) (k : Nat) {σ : Nat → Nat → Int32} (c nx : Int32) {X : qM} {n : Nat} (hn : 112 ≤ n) : ∀ (j i : Nat), i + j = 4 → EV z (k + 1) mX2_directionTo 18 [.int c, .int nx, .int (nI i)] [] (mm σ X) n 0 0 (qRes (some (.int (dirL c nx j i))) (mm σ X) n) := by
  intro j
  induction j with
  | zero =>
    intro i hi
    refine EV_iload_n dX2_directionTo_18 rfl ?_
    refine EV_iconst (v := 4) dX2_directionTo_19 (by decide) ?_
    refine EV_icmp_ge 40 dX2_directionTo_20 (by decide) (fun c20 => ?_) (fun c20 => ?_)
    · skip
      refine EV_iconst (v := (-1)) dX2_directionTo_40 (by decide) ?_
      exact ES_iret dX2_directionTo_41 rfl rfl rfl rfl
    · skip
      exact absurd (nI_le (a := 4) (b := i) (by omega) (by omega)) c20
  | succ j ih =>
    intro i hi
    refine EV_iload_n dX2_directionTo_18 rfl ?_
    refine EV_iconst (v := 4) dX2_directionTo_19 (by decide) ?_
    refine EV_icmp_ge 40 dX2_directionTo_20 (by decide) (fun c20 => ?_) (fun c20 => ?_)
    · skip
      exact absurd c20 (nI_ge (a := i) (b := 4) (by omega) (by omega))
    · skip
      refine EV_iload_n dX2_directionTo_23 rfl ?_
      refine EV_iload_n dX2_directionTo_24 rfl ?_
      refine ES_callS dX2_directionTo_25 mkX2_88 mfX2_neighbour msX2_neighbour hn (sp_neighbour z k c (d := i) (by omega)) rfl rfl (Nat.le_of_ble_eq_true rfl) ?_
      refine EV_iload_n dX2_directionTo_28 rfl ?_
      refine EV_icmp_ne 34 dX2_directionTo_29 (by decide) (fun c29 => ?_) (fun c29 => ?_)
      · skip
        refine EV_iinc dX2_directionTo_34 rfl (Nat.le_of_ble_eq_true rfl) rfl ?_
        refine EV_goto 18 dX2_directionTo_37 (by decide) ?_
        rw [show nI i + Int32.ofInt 1 = nI (i + 1) from (nI_succ i).symm, dirL, if_neg c29]
        exact ih (i + 1) (by omega)
      · skip
        refine EV_iload_n dX2_directionTo_32 rfl ?_
        exact ES_iret dX2_directionTo_33 rfl rfl (by rw [dirL, if_pos c29]) rfl
set_option maxHeartbeats 2000000 in
theorem sp_directionTo (z : qZ) (k : Nat) {σ : Nat → Nat → Int32} (c nx : Int32) : SP z (k + 1) mX2_directionTo [.int c, .int nx] σ (some (.int (dirF c nx))) σ := by
  refine SP_of 1 (by decide) (Nat.le_of_ble_eq_true rfl) fun X n hn => ?_
  refine EV_iload_n dX2_directionTo_0 rfl ?_
  refine ES_callS dX2_directionTo_1 mkX2_61 mfX8_isCell msX8_isCell hn (sp_isCell z k c) rfl rfl (Nat.le_of_ble_eq_true rfl) ?_
  refine EV_if_eq 14 dX2_directionTo_4 (by decide) (fun c4 => ?_) (fun c4 => ?_)
  · skip
    refine EV_iconst (v := (-1)) dX2_directionTo_14 (by decide) ?_
    exact ES_iret dX2_directionTo_15 rfl rfl (by simp only [dirF, if_pos c4]; try rfl) rfl
  · skip
    refine EV_iload_n dX2_directionTo_7 rfl ?_
    refine ES_callS dX2_directionTo_8 mkX2_61 mfX8_isCell msX8_isCell hn (sp_isCell z k nx) rfl rfl (Nat.le_of_ble_eq_true rfl) ?_
    refine EV_if_ne 16 dX2_directionTo_11 (by decide) (fun c11 => ?_) (fun c11 => ?_)
    · skip
      refine EV_iconst (v := 0) dX2_directionTo_16 (by decide) ?_
      refine EV_istore_n dX2_directionTo_17 (Nat.le_of_ble_eq_true rfl) (Nat.le_of_ble_eq_true rfl) rfl ?_
      simp only [dirF, if_neg c4, if_neg c11]
      exact lp_dir z k c nx hn 4 0 rfl
    · skip
      refine EV_iconst (v := (-1)) dX2_directionTo_14 (by decide) ?_
      exact ES_iret dX2_directionTo_15 rfl rfl (by simp only [dirF, if_neg c4, if_pos c11]; try rfl) rfl
def costF (σ : Nat → Nat → Int32) (d : Int32) : Int32 :=
  if d = σ 2 7 then (if 1 < 4 - σ 2 8 then 4 - σ 2 8 else 1) else if d = σ 2 7 + 2 - (σ 2 7 + 2) / 4 * 4 then 4 + σ 2 8 else 4
set_option maxHeartbeats 2000000 in
theorem sp_costOfMove (z : qZ) (k : Nat) {σ : Nat → Nat → Int32} (d : Int32) : SP z (k + 1) mX2_costOfMove [.ref 2, .int d] σ (some (.int (costF σ d))) σ := by
  refine SP_of 0 (by decide) (Nat.le_of_ble_eq_true rfl) fun X n hn => ?_
  refine EV_iload_n dX2_costOfMove_0 rfl ?_
  refine EV_aload_n dX2_costOfMove_1 rfl ?_
  refine ES_getf dX2_costOfMove_2 fkX2_91 hn o_ground rfl ?_
  refine EV_icmp_ne 19 dX2_costOfMove_5 (by decide) (fun c5 => ?_) (fun c5 => ?_)
  · skip
    refine EV_iload_n dX2_costOfMove_19 rfl ?_
    refine EV_aload_n dX2_costOfMove_20 rfl ?_
    refine ES_getf dX2_costOfMove_21 fkX2_91 hn o_ground rfl ?_
    refine EV_iconst (v := 2) dX2_costOfMove_24 (by decide) ?_
    refine EV_iadd dX2_costOfMove_25 ?_
    refine EV_iconst (v := 4) dX2_costOfMove_26 (by decide) ?_
    refine EV_irem dX2_costOfMove_27 (by decide) ?_
    refine EV_icmp_ne 38 dX2_costOfMove_28 (by decide) (fun c28 => ?_) (fun c28 => ?_)
    · skip
      refine EV_iconst (v := 4) dX2_costOfMove_38 (by decide) ?_
      exact ES_iret dX2_costOfMove_39 rfl rfl (by simp only [costF, if_neg c5, if_neg c28]; try rfl) rfl
    · skip
      refine EV_iconst (v := 4) dX2_costOfMove_31 (by decide) ?_
      refine EV_aload_n dX2_costOfMove_32 rfl ?_
      refine ES_getf dX2_costOfMove_33 fkX2_94 hn o_ground rfl ?_
      refine EV_iadd dX2_costOfMove_36 ?_
      exact ES_iret dX2_costOfMove_37 rfl rfl (by simp only [costF, if_neg c5, if_pos c28]; try rfl) rfl
  · skip
    refine EV_iconst (v := 1) dX2_costOfMove_8 (by decide) ?_
    refine EV_iconst (v := 4) dX2_costOfMove_9 (by decide) ?_
    refine EV_aload_n dX2_costOfMove_10 rfl ?_
    refine ES_getf dX2_costOfMove_11 fkX2_94 hn o_ground rfl ?_
    refine EV_isub dX2_costOfMove_14 ?_
    refine EV_max dX2_costOfMove_15 lkX2_97 ls_max ln_Math lc_max (Nat.le_of_ble_eq_true rfl) ?_
    exact ES_iret dX2_costOfMove_18 rfl rfl (by simp only [costF, if_pos c5]; try rfl) rfl
/-- the cells of a route, its row lying behind it -/
def isRt (r : Nat) : Prop := isO 4 r ∧ isA 0 10 (r + 1)
def costL (σ : Nat → Nat → Int32) (r : Nat) : Nat → Nat → Int32 → Int32
  | 0, _, a => a
  | j + 1, i, a => costL σ r j (i + 1) (a + costF σ (dirF (atF σ r (nI i - 1)) (atF σ r (nI i))))
set_option maxHeartbeats 2000000 in
theorem lp_costR (z : qZ) (k : Nat) {σ : Nat → Nat → Int32} {r cnt : Nat} (hr : isRt r) (hc : σ r 1 = nI cnt) (h10 : cnt < 2 ^ 30) {X : qM} {n : Nat} (hn : 112 ≤ n) : ∀ (j i : Nat) (a : Int32), j = cnt - i → i < 2 ^ 30 → EV z (k + 2) mX2_costOfRoute 4 [.ref 2, .ref r, .int a, .int (nI i)] [] (mm σ X) n 0 0 (qRes (some (.int (costL σ r j i a))) (mm σ X) n) := by
  have hO := hr.1
  intro j
  induction j with
  | zero =>
    intro i a hi h2
    refine EV_iload_n dX2_costOfRoute_4 rfl ?_
    refine EV_aload_n dX2_costOfRoute_5 rfl ?_
    refine ES_getf dX2_costOfRoute_6 fkX2_65 hn (by assumption) rfl ?_
    refine EV_icmp_ge 40 dX2_costOfRoute_9 (by decide) (fun c9 => ?_) (fun c9 => ?_)
    · skip
      refine EV_iload_n dX2_costOfRoute_40 rfl ?_
      exact ES_iret dX2_costOfRoute_41 rfl rfl rfl rfl
    · skip
      exact absurd (by rw [hc]; exact nI_le (by omega) (by omega)) c9
  | succ j ih =>
    intro i a hi h2
    refine EV_iload_n dX2_costOfRoute_4 rfl ?_
    refine EV_aload_n dX2_costOfRoute_5 rfl ?_
    refine ES_getf dX2_costOfRoute_6 fkX2_65 hn (by assumption) rfl ?_
    refine EV_icmp_ge 40 dX2_costOfRoute_9 (by decide) (fun c9 => ?_) (fun c9 => ?_)
    · skip
      exact absurd c9 (by rw [hc]; exact nI_ge (by omega) (by omega))
    · skip
      refine EV_iload_n dX2_costOfRoute_12 rfl ?_
      refine EV_aload_n dX2_costOfRoute_13 rfl ?_
      refine EV_aload_n dX2_costOfRoute_14 rfl ?_
      refine EV_iload_n dX2_costOfRoute_15 rfl ?_
      refine EV_iconst (v := 1) dX2_costOfRoute_16 (by decide) ?_
      refine EV_isub dX2_costOfRoute_17 ?_
      refine ES_callV dX2_costOfRoute_18 mkX2_80 mfX4_at mvX4_at hn (by assumption) rfl (sp_at z (k + 1) hr.1 hr.2 _) rfl rfl (Nat.le_of_ble_eq_true rfl) ?_
      refine EV_aload_n dX2_costOfRoute_21 rfl ?_
      refine EV_iload_n dX2_costOfRoute_22 rfl ?_
      refine ES_callV dX2_costOfRoute_23 mkX2_80 mfX4_at mvX4_at hn (by assumption) rfl (sp_at z (k + 1) hr.1 hr.2 _) rfl rfl (Nat.le_of_ble_eq_true rfl) ?_
      refine ES_callS dX2_costOfRoute_26 mkX2_84 mfX2_directionTo msX2_directionTo hn (sp_directionTo z k _ _) rfl rfl (Nat.le_of_ble_eq_true rfl) ?_
      refine ES_callV dX2_costOfRoute_29 mkX2_102 mfX2_costOfMove mvX2_costOfMove hn o_ground rfl (sp_costOfMove z k _) rfl rfl (Nat.le_of_ble_eq_true rfl) ?_
      refine EV_iadd dX2_costOfRoute_32 ?_
      refine EV_istore_n dX2_costOfRoute_33 (Nat.le_of_ble_eq_true rfl) (Nat.le_of_ble_eq_true rfl) rfl ?_
      refine EV_iinc dX2_costOfRoute_34 rfl (Nat.le_of_ble_eq_true rfl) rfl ?_
      refine EV_goto 4 dX2_costOfRoute_37 (by decide) ?_
      rw [show nI i + Int32.ofInt 1 = nI (i + 1) from (nI_succ i).symm, costL]
      exact ih (i + 1) _ (by omega) (by omega)
def costRF (σ : Nat → Nat → Int32) (r cnt : Nat) : Int32 := costL σ r (cnt - 1) 1 2
theorem sp_costOfRoute (z : qZ) (k : Nat) {σ : Nat → Nat → Int32} {r cnt : Nat} (hr : isRt r) (hc : σ r 1 = nI cnt) (h10 : cnt < 2 ^ 30) : SP z (k + 2) mX2_costOfRoute [.ref 2, .ref r] σ (some (.int (costRF σ r cnt))) σ := by
  refine SP_of 2 (by decide) (Nat.le_of_ble_eq_true rfl) fun X n hn => ?_
  refine EV_iconst (v := 2) dX2_costOfRoute_0 (by decide) ?_
  refine EV_istore_n dX2_costOfRoute_1 (Nat.le_of_ble_eq_true rfl) (Nat.le_of_ble_eq_true rfl) rfl ?_
  refine EV_iconst (v := 1) dX2_costOfRoute_2 (by decide) ?_
  refine EV_istore_n dX2_costOfRoute_3 (Nat.le_of_ble_eq_true rfl) (Nat.le_of_ble_eq_true rfl) rfl ?_
  exact lp_costR z k hr hc h10 hn (cnt - 1) 1 2 rfl (by omega)
def wayL (σ : Nat → Nat → Int32) (r : Nat) : Nat → Nat → Bool
  | 0, _ => true
  | j + 1, i => if dirF (atF σ r (nI i - 1)) (atF σ r (nI i)) = -1 then false else wayL σ r j (i + 1)
set_option maxHeartbeats 2000000 in
theorem lp_way (z : qZ) (k : Nat) {σ : Nat → Nat → Int32} {r cnt : Nat} (hr : isRt r) (hc : σ r 1 = nI cnt) (h10 : cnt < 2 ^ 30) {X : qM} {n : Nat} (hn : 112 ≤ n) : ∀ (j i : Nat), j = cnt - i → i < 2 ^ 30 → EV z (k + 2) mX2_isWayFromPadToPad 34 [.ref 2, .ref r, .int (nI i)] [] (mm σ X) n 0 0 (qRes (some (.int (bI (wayL σ r j i)))) (mm σ X) n) := by
  have hO := hr.1
  intro j
  induction j with
  | zero =>
    intro i hi h2
    refine EV_iload_n dX2_isWayFromPadToPad_34 rfl ?_
    refine EV_aload_n dX2_isWayFromPadToPad_35 rfl ?_
    refine ES_getf dX2_isWayFromPadToPad_36 fkX2_65 hn (by assumption) rfl ?_
    refine EV_icmp_ge 69 dX2_isWayFromPadToPad_39 (by decide) (fun c39 => ?_) (fun c39 => ?_)
    · skip
      refine EV_iconst (v := 1) dX2_isWayFromPadToPad_69 (by decide) ?_
      exact ES_iret dX2_isWayFromPadToPad_70 rfl rfl rfl rfl
    · skip
      exact absurd (by rw [hc]; exact nI_le (by omega) (by omega)) c39
  | succ j ih =>
    intro i hi h2
    refine EV_iload_n dX2_isWayFromPadToPad_34 rfl ?_
    refine EV_aload_n dX2_isWayFromPadToPad_35 rfl ?_
    refine ES_getf dX2_isWayFromPadToPad_36 fkX2_65 hn (by assumption) rfl ?_
    refine EV_icmp_ge 69 dX2_isWayFromPadToPad_39 (by decide) (fun c39 => ?_) (fun c39 => ?_)
    · skip
      exact absurd c39 (by rw [hc]; exact nI_ge (by omega) (by omega))
    · skip
      refine EV_aload_n dX2_isWayFromPadToPad_42 rfl ?_
      refine EV_iload_n dX2_isWayFromPadToPad_43 rfl ?_
      refine EV_iconst (v := 1) dX2_isWayFromPadToPad_44 (by decide) ?_
      refine EV_isub dX2_isWayFromPadToPad_45 ?_
      refine ES_callV dX2_isWayFromPadToPad_46 mkX2_80 mfX4_at mvX4_at hn (by assumption) rfl (sp_at z (k + 1) hr.1 hr.2 _) rfl rfl (Nat.le_of_ble_eq_true rfl) ?_
      refine EV_aload_n dX2_isWayFromPadToPad_49 rfl ?_
      refine EV_iload_n dX2_isWayFromPadToPad_50 rfl ?_
      refine ES_callV dX2_isWayFromPadToPad_51 mkX2_80 mfX4_at mvX4_at hn (by assumption) rfl (sp_at z (k + 1) hr.1 hr.2 _) rfl rfl (Nat.le_of_ble_eq_true rfl) ?_
      refine ES_callS dX2_isWayFromPadToPad_54 mkX2_84 mfX2_directionTo msX2_directionTo hn (sp_directionTo z k _ _) rfl rfl (Nat.le_of_ble_eq_true rfl) ?_
      refine EV_iconst (v := (-1)) dX2_isWayFromPadToPad_57 (by decide) ?_
      refine EV_icmp_ne 63 dX2_isWayFromPadToPad_58 (by decide) (fun c58 => ?_) (fun c58 => ?_)
      · skip
        refine EV_iinc dX2_isWayFromPadToPad_63 rfl (Nat.le_of_ble_eq_true rfl) rfl ?_
        refine EV_goto 34 dX2_isWayFromPadToPad_66 (by decide) ?_
        rw [show nI i + Int32.ofInt 1 = nI (i + 1) from (nI_succ i).symm, wayL, if_neg c58]
        exact ih (i + 1) (by omega) (by omega)
      · skip
        refine EV_iconst (v := 0) dX2_isWayFromPadToPad_61 (by decide) ?_
        exact ES_iret dX2_isWayFromPadToPad_62 rfl rfl (by rw [wayL, if_pos c58]; rfl) rfl
def isWayF (σ : Nat → Nat → Int32) (r cnt : Nat) : Bool :=
  if σ r 1 < 2 then false else if bI (hasPadF σ (firstF σ r)) = 0 then false else if bI (hasPadF σ (lastF σ r)) = 0 then false else wayL σ r (cnt - 1) 1
set_option maxHeartbeats 2000000 in
theorem sp_isWay (z : qZ) (k : Nat) {σ : Nat → Nat → Int32} {r cnt : Nat} (hr : isRt r) (hc : σ r 1 = nI cnt) (h10 : cnt < 2 ^ 30) : SP z (k + 2) mX2_isWayFromPadToPad [.ref 2, .ref r] σ (some (.int (bI (isWayF σ r cnt)))) σ := by
  refine SP_of 1 (by decide) (Nat.le_of_ble_eq_true rfl) fun X n hn => ?_
  have hO := hr.1
  refine EV_aload_n dX2_isWayFromPadToPad_0 rfl ?_
  refine ES_getf dX2_isWayFromPadToPad_1 fkX2_65 hn (by assumption) rfl ?_
  refine EV_iconst (v := 2) dX2_isWayFromPadToPad_4 (by decide) ?_
  refine EV_icmp_lt 30 dX2_isWayFromPadToPad_5 (by decide) (fun c5 => ?_) (fun c5 => ?_)
  · skip
    refine EV_iconst (v := 0) dX2_isWayFromPadToPad_30 (by decide) ?_
    exact ES_iret dX2_isWayFromPadToPad_31 rfl rfl (by simp only [isWayF, if_pos c5]; try rfl) rfl
  · skip
    refine EV_aload_n dX2_isWayFromPadToPad_8 rfl ?_
    refine EV_aload_n dX2_isWayFromPadToPad_9 rfl ?_
    refine ES_callV dX2_isWayFromPadToPad_10 mkX2_70 mfX4_first mvX4_first hn (by assumption) rfl (sp_first z (k + 1) hr.1 hr.2) rfl rfl (Nat.le_of_ble_eq_true rfl) ?_
    refine ES_callV dX2_isWayFromPadToPad_13 mkX2_74 mfX2_hasPad mvX2_hasPad hn o_ground rfl (sp_hasPad z k _) rfl rfl (Nat.le_of_ble_eq_true rfl) ?_
    refine EV_if_eq 30 dX2_isWayFromPadToPad_16 (by decide) (fun c16 => ?_) (fun c16 => ?_)
    · skip
      refine EV_iconst (v := 0) dX2_isWayFromPadToPad_30 (by decide) ?_
      exact ES_iret dX2_isWayFromPadToPad_31 rfl rfl (by simp only [isWayF, if_neg c5, if_pos c16]; try rfl) rfl
    · skip
      refine EV_aload_n dX2_isWayFromPadToPad_19 rfl ?_
      refine EV_aload_n dX2_isWayFromPadToPad_20 rfl ?_
      refine ES_callV dX2_isWayFromPadToPad_21 mkX2_77 mfX4_last mvX4_last hn (by assumption) rfl (sp_last z (k + 1) hr.1 hr.2) rfl rfl (Nat.le_of_ble_eq_true rfl) ?_
      refine ES_callV dX2_isWayFromPadToPad_24 mkX2_74 mfX2_hasPad mvX2_hasPad hn o_ground rfl (sp_hasPad z k _) rfl rfl (Nat.le_of_ble_eq_true rfl) ?_
      refine EV_if_ne 32 dX2_isWayFromPadToPad_27 (by decide) (fun c27 => ?_) (fun c27 => ?_)
      · skip
        refine EV_iconst (v := 1) dX2_isWayFromPadToPad_32 (by decide) ?_
        refine EV_istore_n dX2_isWayFromPadToPad_33 (Nat.le_of_ble_eq_true rfl) (Nat.le_of_ble_eq_true rfl) rfl ?_
        simp only [isWayF, if_neg c5, if_neg c16, if_neg c27]
        exact lp_way z k hr hc h10 hn (cnt - 1) 1 rfl (by omega)
      · skip
        refine EV_iconst (v := 0) dX2_isWayFromPadToPad_30 (by decide) ?_
        exact ES_iret dX2_isWayFromPadToPad_31 rfl rfl (by simp only [isWayF, if_neg c5, if_neg c16, if_pos c27]; try rfl) rfl
end
section
/-! ===== copies, craft, flights ===== -/
/-- Arrays.fill over any memory -/
def fillF (len : Nat) (v : Int32) (f : Nat → Int32) : Nat → Int32 := fun t => if t < len then v else f t
theorem fill_step (i : Nat) (v : Int32) (f : Nat → Int32) : upd (fillF i v f) i v = fillF (i + 1) v f := by
  funext t
  simp only [upd, fillF]
  by_cases h : t = i
  · subst h; simp
  · by_cases h2 : t < i
    · rw [if_neg h, if_pos h2, if_pos (by omega)]
    · rw [if_neg h, if_neg h2, if_neg (by omega)]
theorem qset_qset (M : qM) (r : Nat) (e e' : qE) : qset (qset M r e) r e' = qset M r e' := by
  funext k
  by_cases h : k = r <;> simp [qset, h]
theorem qset_at (M : qM) (r : Nat) (e : qE) : qset M r e r = e := by simp [qset]
theorem qset_id {M : qM} {r : Nat} {e : qE} (h : M r = e) : qset M r e = M := by
  funext k
  by_cases hk : k = r
  · subst hk; simp [qset, h]
  · simp [qset, hk]
set_option maxHeartbeats 2000000 in
theorem lp_fill (z : qZ) (k : Nat) {M : qM} {a len n : Nat} {f : Nat → Int32} (v : Int32) (ha : 0 < a ∧ a ≤ n) (hM : M a = .inl (0, len, .inl f)) (hl : len < 2 ^ 30) : ∀ (j i : Nat), i + j = len → EV z k mJ7_fill 5 [.ref a, .int v, .int (nI i), .int (nI len)] [] (qset M a (.inl (0, len, .inl (fillF i v f)))) n 0 0 (qRes none (qset M a (.inl (0, len, .inl (fillF len v f)))) n) := by
  intro j
  induction j with
  | zero =>
    intro i hi
    refine EV_iload_n dJ7_fill_53178_5 rfl ?_
    refine EV_iload_n dJ7_fill_53178_6 rfl ?_
    refine EV_icmp_ge 20 dJ7_fill_53178_7 (by decide) (fun c7 => ?_) (fun c7 => ?_)
    · skip
      exact EV_vret dJ7_fill_53178_20 rfl ⟨rfl, by rw [show i = len by omega], rfl⟩
    · skip
      exact absurd (nI_le (a := len) (b := i) (by omega) (by omega)) c7
  | succ j ih =>
    intro i hi
    refine EV_iload_n dJ7_fill_53178_5 rfl ?_
    refine EV_iload_n dJ7_fill_53178_6 rfl ?_
    refine EV_icmp_ge 20 dJ7_fill_53178_7 (by decide) (fun c7 => ?_) (fun c7 => ?_)
    · skip
      exact absurd c7 (nI_ge (a := i) (b := len) (by omega) (by omega))
    · skip
      refine EV_aload_n dJ7_fill_53178_10 rfl ?_
      refine EV_iload_n dJ7_fill_53178_11 rfl ?_
      refine EV_iload_n dJ7_fill_53178_12 rfl ?_
      refine EV_iast dJ7_fill_53178_13 ha (qset_at M a _) (vp_in_nI (by omega) (by omega)) ?_
      rw [qset_qset, nI_clamp (by omega), fill_step]
      refine EV_iinc dJ7_fill_53178_14 rfl (Nat.le_of_ble_eq_true rfl) rfl ?_
      refine EV_goto 5 dJ7_fill_53178_17 (by decide) ?_
      rw [show nI i + Int32.ofInt 1 = nI (i + 1) from (nI_succ i).symm]
      exact ih (i + 1) (by omega)
theorem ct_fill (z : qZ) (k : Nat) {M : qM} {a len n : Nat} {f : Nat → Int32} (v : Int32) (ha : 0 < a ∧ a ≤ n) (hM : M a = .inl (0, len, .inl f)) (hl : len < 2 ^ 30) : CT z k mJ7_fill [.ref a, .int v] M n 0 0 (qRes none (qset M a (.inl (0, len, .inl (fillF len v f)))) n) := by
  refine CT_of 2 (by decide) (Nat.le_of_ble_eq_true rfl) ?_
  refine EV_iconst (v := 0) dJ7_fill_53178_0 (by decide) ?_
  refine EV_istore_n dJ7_fill_53178_1 (Nat.le_of_ble_eq_true rfl) (Nat.le_of_ble_eq_true rfl) rfl ?_
  refine EV_aload_n dJ7_fill_53178_2 rfl ?_
  refine EV_alen dJ7_fill_53178_3 ha hM (fun _ => rfl) ?_
  refine EV_istore_n dJ7_fill_53178_4 (Nat.le_of_ble_eq_true rfl) (Nat.le_of_ble_eq_true rfl) rfl ?_
  have h := lp_fill z k v ha hM hl len 0 (by omega)
  rw [show fillF 0 v f = f from funext fun t => by simp [fillF], qset_id hM] at h
  exact h
theorem sp_fill (z : qZ) (k : Nat) {σ : Nat → Nat → Int32} {a len : Nat} (v : Int32) (ha : isA 0 len a) (hl : len < 2 ^ 30) : SP z k mJ7_fill [.ref a, .int v] σ none (srow σ a (fillF len v (σ a))) := by
  intro X n hn
  have h := ct_fill z k (M := mm σ X) (n := n) v ⟨ha.1.1, Nat.le_trans ha.1.2 hn⟩ ((mm_at ha.1.2).trans (ha.2 _)) hl
  rw [← ha.2, mm_row ha.1.2] at h
  exact h
/-! routes and flights -/
def cpRouteF (σ : Nat → Nat → Int32) (r o : Nat) : Nat → Nat → Int32 :=
  sset (srow σ (r + 1) (va_cpy (σ (o + 1)) (σ (r + 1)) 0 0 10)) r 1 (srow σ (r + 1) (va_cpy (σ (o + 1)) (σ (r + 1)) 0 0 10) o 1)
theorem sp_cpRoute (z : qZ) (k : Nat) {σ : Nat → Nat → Int32} {r o : Nat} (hr : isRt r) (ho : isRt o) : SP z (k + 1) mX4_copyFrom [.ref r, .ref o] σ none (cpRouteF σ r o) := by
  refine SP_of 0 (by decide) (Nat.le_of_ble_eq_true rfl) fun X n hn => ?_
  refine EV_aload_n dX4_copyFrom_0 rfl ?_
  refine ES_getf dX4_copyFrom_1 fkX4_9 hn ho.1 rfl ?_
  refine EV_iconst (v := 0) dX4_copyFrom_4 (by decide) ?_
  refine EV_aload_n dX4_copyFrom_5 rfl ?_
  refine ES_getf dX4_copyFrom_6 fkX4_9 hn hr.1 rfl ?_
  refine EV_iconst (v := 0) dX4_copyFrom_9 (by decide) ?_
  refine EV_bipush (v := 10) dX4_copyFrom_10 (by decide) ?_
  refine ES_acopy dX4_copyFrom_12 lkX4_19 hn ho.2 hr.2 (by decide) (Nat.le_of_ble_eq_true rfl) ?_
  refine EV_aload_n dX4_copyFrom_15 rfl ?_
  refine EV_aload_n dX4_copyFrom_16 rfl ?_
  refine ES_getf dX4_copyFrom_17 fkX4_15 hn ho.1 rfl ?_
  refine ES_put dX4_copyFrom_20 fkX4_15 hn hr.1 (Nat.le_of_ble_eq_true rfl) (fun _ _ => rfl) rfl rfl ?_
  exact ES_vret dX4_copyFrom_23 rfl rfl
/-- a flight with its route behind it -/
def isFl (r : Nat) : Prop := isO 1 r ∧ isRt (r + 1)
def cpFlightF (σ : Nat → Nat → Int32) (r o : Nat) : Nat → Nat → Int32 :=
  let σ1 := sset σ r 0 (σ o 0)
  let σ2 := sset σ1 r 1 (σ1 o 1)
  let σ3 := sset σ2 r 2 (σ2 o 2)
  cpRouteF σ3 (r + 1) (o + 1)
theorem sp_cpFlight (z : qZ) (k : Nat) {σ : Nat → Nat → Int32} {r o : Nat} (hr : isFl r) (ho : isFl o) : SP z (k + 2) mX1_copyFrom [.ref r, .ref o] σ none (cpFlightF σ r o) := by
  refine SP_of 0 (by decide) (Nat.le_of_ble_eq_true rfl) fun X n hn => ?_
  refine EV_aload_n dX1_copyFrom_0 rfl ?_
  refine EV_aload_n dX1_copyFrom_1 rfl ?_
  refine ES_getf dX1_copyFrom_2 fkX1_18 hn ho.1 rfl ?_
  refine ES_put dX1_copyFrom_5 fkX1_18 hn hr.1 (Nat.le_of_ble_eq_true rfl) (fun _ _ => rfl) rfl rfl ?_
  refine EV_aload_n dX1_copyFrom_8 rfl ?_
  refine EV_aload_n dX1_copyFrom_9 rfl ?_
  refine ES_getf dX1_copyFrom_10 fkX1_22 hn ho.1 rfl ?_
  refine ES_put dX1_copyFrom_13 fkX1_22 hn hr.1 (Nat.le_of_ble_eq_true rfl) (fun _ _ => rfl) rfl rfl ?_
  refine EV_aload_n dX1_copyFrom_16 rfl ?_
  refine EV_aload_n dX1_copyFrom_17 rfl ?_
  refine ES_getf dX1_copyFrom_18 fkX1_25 hn ho.1 rfl ?_
  refine ES_put dX1_copyFrom_21 fkX1_25 hn hr.1 (Nat.le_of_ble_eq_true rfl) (fun _ _ => rfl) rfl rfl ?_
  refine EV_aload_n dX1_copyFrom_24 rfl ?_
  refine ES_getf dX1_copyFrom_25 fkX1_12 hn hr.1 rfl ?_
  refine EV_aload_n dX1_copyFrom_28 rfl ?_
  refine ES_getf dX1_copyFrom_29 fkX1_12 hn ho.1 rfl ?_
  refine ES_callV dX1_copyFrom_32 mkX1_28 mfX4_copyFrom mvX4_copyFrom hn hr.2.1 rfl (sp_cpRoute z k hr.2 ho.2) rfl rfl (Nat.le_of_ble_eq_true rfl) ?_
  exact ES_vret dX1_copyFrom_35 rfl rfl
def aheadF (f : Nat → Int32) : Bool := if f 2 = 0 then true else if f 2 = 1 then true else false
theorem sp_isAhead (z : qZ) (k : Nat) {σ : Nat → Nat → Int32} {r : Nat} (hr : isO 1 r) : SP z k mX1_isAhead [.ref r] σ (some (.int (bI (aheadF (σ r))))) σ := by
  refine SP_of 0 (by decide) (Nat.le_of_ble_eq_true rfl) fun X n hn => ?_
  refine EV_aload_n dX1_isAhead_0 rfl ?_
  refine ES_getf dX1_isAhead_1 fkX1_25 hn (by assumption) rfl ?_
  refine EV_if_eq 15 dX1_isAhead_4 (by decide) (fun c4 => ?_) (fun c4 => ?_)
  · skip
    refine EV_iconst (v := 1) dX1_isAhead_15 (by decide) ?_
    refine EV_goto 20 dX1_isAhead_16 (by decide) ?_
    exact ES_iret dX1_isAhead_20 rfl rfl (by simp only [aheadF, if_pos c4]; try rfl) rfl
  · skip
    refine EV_aload_n dX1_isAhead_7 rfl ?_
    refine ES_getf dX1_isAhead_8 fkX1_25 hn (by assumption) rfl ?_
    refine EV_iconst (v := 1) dX1_isAhead_11 (by decide) ?_
    refine EV_icmp_ne 19 dX1_isAhead_12 (by decide) (fun c12 => ?_) (fun c12 => ?_)
    · skip
      refine EV_iconst (v := 0) dX1_isAhead_19 (by decide) ?_
      exact ES_iret dX1_isAhead_20 rfl rfl (by simp only [aheadF, if_neg c4, if_neg c12]; try rfl) rfl
    · skip
      refine EV_iconst (v := 1) dX1_isAhead_15 (by decide) ?_
      refine EV_goto 20 dX1_isAhead_16 (by decide) ?_
      exact ES_iret dX1_isAhead_20 rfl rfl (by simp only [aheadF, if_neg c4, if_pos c12]; try rfl) rfl
def plannedF (f : Nat → Int32) (day : Int32) : Bool :=
  if bI (aheadF f) = 0 then (if f 2 = 2 then (if f 1 / 1440 = day then true else false) else false) else if f 1 / 1440 = day then true else false
theorem sp_isPlannedOn (z : qZ) (k : Nat) {σ : Nat → Nat → Int32} {r : Nat} (hr : isO 1 r) (day : Int32) : SP z (k + 1) mX1_isPlannedOn [.ref r, .int day] σ (some (.int (bI (plannedF (σ r) day)))) σ := by
  refine SP_of 0 (by decide) (Nat.le_of_ble_eq_true rfl) fun X n hn => ?_
  refine EV_aload_n dX1_isPlannedOn_0 rfl ?_
  refine ES_callV dX1_isPlannedOn_1 mkX1_32 mfX1_isAhead mvX1_isAhead hn (by assumption) rfl (sp_isAhead z k hr) rfl rfl (Nat.le_of_ble_eq_true rfl) ?_
  refine EV_if_ne 15 dX1_isPlannedOn_4 (by decide) (fun c4 => ?_) (fun c4 => ?_)
  · skip
    refine EV_aload_n dX1_isPlannedOn_15 rfl ?_
    refine ES_getf dX1_isPlannedOn_16 fkX1_22 hn (by assumption) rfl ?_
    refine EV_sipush (v := 1440) dX1_isPlannedOn_19 (by decide) ?_
    refine EV_idiv dX1_isPlannedOn_22 (by decide) ?_
    refine EV_iload_n dX1_isPlannedOn_23 rfl ?_
    refine EV_icmp_ne 31 dX1_isPlannedOn_24 (by decide) (fun c24 => ?_) (fun c24 => ?_)
    · skip
      refine EV_iconst (v := 0) dX1_isPlannedOn_31 (by decide) ?_
      exact ES_iret dX1_isPlannedOn_32 rfl rfl (by simp only [plannedF, if_neg c4, if_neg c24]; try rfl) rfl
    · skip
      refine EV_iconst (v := 1) dX1_isPlannedOn_27 (by decide) ?_
      refine EV_goto 32 dX1_isPlannedOn_28 (by decide) ?_
      exact ES_iret dX1_isPlannedOn_32 rfl rfl (by simp only [plannedF, if_neg c4, if_pos c24]; try rfl) rfl
  · skip
    refine EV_aload_n dX1_isPlannedOn_7 rfl ?_
    refine ES_getf dX1_isPlannedOn_8 fkX1_25 hn (by assumption) rfl ?_
    refine EV_iconst (v := 2) dX1_isPlannedOn_11 (by decide) ?_
    refine EV_icmp_ne 31 dX1_isPlannedOn_12 (by decide) (fun c12 => ?_) (fun c12 => ?_)
    · skip
      refine EV_iconst (v := 0) dX1_isPlannedOn_31 (by decide) ?_
      exact ES_iret dX1_isPlannedOn_32 rfl rfl (by simp only [plannedF, if_pos c4, if_neg c12]; try rfl) rfl
    · skip
      refine EV_aload_n dX1_isPlannedOn_15 rfl ?_
      refine ES_getf dX1_isPlannedOn_16 fkX1_22 hn (by assumption) rfl ?_
      refine EV_sipush (v := 1440) dX1_isPlannedOn_19 (by decide) ?_
      refine EV_idiv dX1_isPlannedOn_22 (by decide) ?_
      refine EV_iload_n dX1_isPlannedOn_23 rfl ?_
      refine EV_icmp_ne 31 dX1_isPlannedOn_24 (by decide) (fun c24 => ?_) (fun c24 => ?_)
      · skip
        refine EV_iconst (v := 0) dX1_isPlannedOn_31 (by decide) ?_
        exact ES_iret dX1_isPlannedOn_32 rfl rfl (by simp only [plannedF, if_pos c4, if_pos c12, if_neg c24]; try rfl) rfl
      · skip
        refine EV_iconst (v := 1) dX1_isPlannedOn_27 (by decide) ?_
        refine EV_goto 32 dX1_isPlannedOn_28 (by decide) ?_
        exact ES_iret dX1_isPlannedOn_32 rfl rfl (by simp only [plannedF, if_pos c4, if_pos c12, if_pos c24]; try rfl) rfl
def occL (σ : Nat → Nat → Int32) (r : Nat) (c m : Int32) : Nat → Nat → Bool
  | 0, _ => false
  | j + 1, i => if atF σ (r + 1) (nI i) = c then (if m < σ r 1 + 2 * nI i - 1 then occL σ r c m j (i + 1) else if σ r 1 + 2 * nI i + 1 < m then occL σ r c m j (i + 1) else true) else occL σ r c m j (i + 1)
set_option maxHeartbeats 2000000 in
theorem lp_occ (z : qZ) (k : Nat) {σ : Nat → Nat → Int32} {r cnt : Nat} (hr : isFl r) (hc : σ (r + 1) 1 = nI cnt) (h10 : cnt < 2 ^ 30) (c m : Int32) {X : qM} {n : Nat} (hn : 112 ≤ n) : ∀ (j i : Nat) (w4 : Value), w4.category = 1 → j = cnt - i → i < 2 ^ 30 → EV z (k + 1) mX1_occupiesIn 2 [.ref r, .int c, .int m, .int (nI i), w4] [] (mm σ X) n 0 0 (qRes (some (.int (bI (occL σ r c m j i)))) (mm σ X) n) := by
  have hO := hr.1
  have hO2 := hr.2.1
  intro j
  induction j with
  | zero =>
    intro i w4 hw hi h2
    refine EV_iload_n dX1_occupiesIn_2 rfl ?_
    refine EV_aload_n dX1_occupiesIn_3 rfl ?_
    refine ES_getf dX1_occupiesIn_4 fkX1_12 hn (by assumption) rfl ?_
    refine ES_getf dX1_occupiesIn_7 fkX1_36 hn (by assumption) rfl ?_
    refine EV_icmp_ge 59 dX1_occupiesIn_10 (by decide) (fun c10 => ?_) (fun c10 => ?_)
    · skip
      refine EV_iconst (v := 0) dX1_occupiesIn_59 (by decide) ?_
      exact ES_iret dX1_occupiesIn_60 rfl rfl rfl rfl
    · skip
      exact absurd (by rw [hc]; exact nI_le (by omega) (by omega)) c10
  | succ j ih =>
    intro i w4 hw hi h2
    refine EV_iload_n dX1_occupiesIn_2 rfl ?_
    refine EV_aload_n dX1_occupiesIn_3 rfl ?_
    refine ES_getf dX1_occupiesIn_4 fkX1_12 hn (by assumption) rfl ?_
    refine ES_getf dX1_occupiesIn_7 fkX1_36 hn (by assumption) rfl ?_
    refine EV_icmp_ge 59 dX1_occupiesIn_10 (by decide) (fun c10 => ?_) (fun c10 => ?_)
    · skip
      exact absurd c10 (by rw [hc]; exact nI_ge (by omega) (by omega))
    · skip
      refine EV_aload_n dX1_occupiesIn_13 rfl ?_
      refine ES_getf dX1_occupiesIn_14 fkX1_22 hn (by assumption) rfl ?_
      refine EV_iconst (v := 2) dX1_occupiesIn_17 (by decide) ?_
      refine EV_iload_n dX1_occupiesIn_18 rfl ?_
      refine EV_imul dX1_occupiesIn_19 ?_
      refine EV_iadd dX1_occupiesIn_20 ?_
      refine EV_istore dX1_occupiesIn_21 (Nat.le_of_ble_eq_true rfl) (Nat.le_of_ble_eq_true rfl) rfl ?_
      refine EV_aload_n dX1_occupiesIn_23 rfl ?_
      refine ES_getf dX1_occupiesIn_24 fkX1_12 hn (by assumption) rfl ?_
      refine EV_iload_n dX1_occupiesIn_27 rfl ?_
      refine ES_callV dX1_occupiesIn_28 mkX1_39 mfX4_at mvX4_at hn (by assumption) rfl (sp_at z k hr.2.1 hr.2.2 _) rfl rfl (Nat.le_of_ble_eq_true rfl) ?_
      refine EV_iload_n dX1_occupiesIn_31 rfl ?_
      refine EV_icmp_ne 53 dX1_occupiesIn_32 (by decide) (fun c32 => ?_) (fun c32 => ?_)
      · skip
        refine EV_iinc dX1_occupiesIn_53 rfl (Nat.le_of_ble_eq_true rfl) rfl ?_
        refine EV_goto 2 dX1_occupiesIn_56 (by decide) ?_
        rw [show nI i + Int32.ofInt 1 = nI (i + 1) from (nI_succ i).symm]
        simp only [occL, if_neg c10, if_neg c32]
        exact ih (i + 1) _ rfl (by omega) (by omega)
      · skip
        refine EV_iload_n dX1_occupiesIn_35 rfl ?_
        refine EV_iload dX1_occupiesIn_36 rfl ?_
        refine EV_iconst (v := 1) dX1_occupiesIn_38 (by decide) ?_
        refine EV_isub dX1_occupiesIn_39 ?_
        refine EV_icmp_lt 53 dX1_occupiesIn_40 (by decide) (fun c40 => ?_) (fun c40 => ?_)
        · skip
          refine EV_iinc dX1_occupiesIn_53 rfl (Nat.le_of_ble_eq_true rfl) rfl ?_
          refine EV_goto 2 dX1_occupiesIn_56 (by decide) ?_
          rw [show nI i + Int32.ofInt 1 = nI (i + 1) from (nI_succ i).symm]
          simp only [occL, if_neg c10, if_pos c32, if_pos c40]
          exact ih (i + 1) _ rfl (by omega) (by omega)
        · skip
          refine EV_iload_n dX1_occupiesIn_43 rfl ?_
          refine EV_iload dX1_occupiesIn_44 rfl ?_
          refine EV_iconst (v := 1) dX1_occupiesIn_46 (by decide) ?_
          refine EV_iadd dX1_occupiesIn_47 ?_
          refine EV_icmp_gt 53 dX1_occupiesIn_48 (by decide) (fun c48 => ?_) (fun c48 => ?_)
          · skip
            refine EV_iinc dX1_occupiesIn_53 rfl (Nat.le_of_ble_eq_true rfl) rfl ?_
            refine EV_goto 2 dX1_occupiesIn_56 (by decide) ?_
            rw [show nI i + Int32.ofInt 1 = nI (i + 1) from (nI_succ i).symm]
            simp only [occL, if_neg c10, if_pos c32, if_neg c40, if_pos c48]
            exact ih (i + 1) _ rfl (by omega) (by omega)
          · skip
            refine EV_iconst (v := 1) dX1_occupiesIn_51 (by decide) ?_
            exact ES_iret dX1_occupiesIn_52 rfl rfl (by simp only [occL, if_neg c10, if_pos c32, if_neg c40, if_neg c48]; try rfl) rfl
theorem sp_occupiesIn (z : qZ) (k : Nat) {σ : Nat → Nat → Int32} {r cnt : Nat} (hr : isFl r) (hc : σ (r + 1) 1 = nI cnt) (h10 : cnt < 2 ^ 30) (c m : Int32) : SP z (k + 1) mX1_occupiesIn [.ref r, .int c, .int m] σ (some (.int (bI (occL σ r c m cnt 0)))) σ := by
  refine SP_of 2 (by decide) (Nat.le_of_ble_eq_true rfl) fun X n hn => ?_
  refine EV_iconst (v := 0) dX1_occupiesIn_0 (by decide) ?_
  refine EV_istore_n dX1_occupiesIn_1 (Nat.le_of_ble_eq_true rfl) (Nat.le_of_ble_eq_true rfl) rfl ?_
  exact lp_occ z k hr hc h10 c m hn cnt 0 _ rfl (by omega) (by omega)
def closeF (σ : Nat → Nat → Int32) (r o : Nat) (os : Int32) : Bool :=
  if endF σ o os + 2 < σ r 1 then false else if endF σ (r + 1) (σ r 1) < os - 2 then false else true
set_option maxHeartbeats 2000000 in
theorem sp_isClose (z : qZ) (k : Nat) {σ : Nat → Nat → Int32} {r o : Nat} (hr : isFl r) (ho : isRt o) (os : Int32) : SP z (k + 1) mX1_isCloseInTime [.ref r, .ref o, .int os] σ (some (.int (bI (closeF σ r o os)))) σ := by
  refine SP_of 0 (by decide) (Nat.le_of_ble_eq_true rfl) fun X n hn => ?_
  have hO := hr.1
  refine EV_aload_n dX1_isCloseInTime_0 rfl ?_
  refine ES_getf dX1_isCloseInTime_1 fkX1_22 hn (by assumption) rfl ?_
  refine EV_aload_n dX1_isCloseInTime_4 rfl ?_
  refine EV_iload_n dX1_isCloseInTime_5 rfl ?_
  refine ES_callV dX1_isCloseInTime_6 mkX1_43 mfX4_endFrom mvX4_endFrom hn ho.1 rfl (sp_endFrom z k ho.1 _) rfl rfl (Nat.le_of_ble_eq_true rfl) ?_
  refine EV_iconst (v := 2) dX1_isCloseInTime_9 (by decide) ?_
  refine EV_iadd dX1_isCloseInTime_10 ?_
  refine EV_icmp_gt 35 dX1_isCloseInTime_11 (by decide) (fun c11 => ?_) (fun c11 => ?_)
  · skip
    refine EV_iconst (v := 0) dX1_isCloseInTime_35 (by decide) ?_
    exact ES_iret dX1_isCloseInTime_36 rfl rfl (by simp only [closeF, if_pos c11]; try rfl) rfl
  · skip
    refine EV_aload_n dX1_isCloseInTime_14 rfl ?_
    refine ES_getf dX1_isCloseInTime_15 fkX1_12 hn (by assumption) rfl ?_
    refine EV_aload_n dX1_isCloseInTime_18 rfl ?_
    refine ES_getf dX1_isCloseInTime_19 fkX1_22 hn (by assumption) rfl ?_
    refine ES_callV dX1_isCloseInTime_22 mkX1_43 mfX4_endFrom mvX4_endFrom hn hr.2.1 rfl (sp_endFrom z k hr.2.1 _) rfl rfl (Nat.le_of_ble_eq_true rfl) ?_
    refine EV_iload_n dX1_isCloseInTime_25 rfl ?_
    refine EV_iconst (v := 2) dX1_isCloseInTime_26 (by decide) ?_
    refine EV_isub dX1_isCloseInTime_27 ?_
    refine EV_icmp_lt 35 dX1_isCloseInTime_28 (by decide) (fun c28 => ?_) (fun c28 => ?_)
    · skip
      refine EV_iconst (v := 0) dX1_isCloseInTime_35 (by decide) ?_
      exact ES_iret dX1_isCloseInTime_36 rfl rfl (by simp only [closeF, if_neg c11, if_pos c28]; try rfl) rfl
    · skip
      refine EV_iconst (v := 1) dX1_isCloseInTime_31 (by decide) ?_
      refine EV_goto 36 dX1_isCloseInTime_32 (by decide) ?_
      exact ES_iret dX1_isCloseInTime_36 rfl rfl (by simp only [closeF, if_neg c11, if_neg c28]; try rfl) rfl
def meetInL (σ : Nat → Nat → Int32) (r o : Nat) (os : Int32) (i : Nat) : Nat → Nat → Bool
  | 0, _ => false
  | j + 1, t => if σ r 1 + 2 * nI i - os - 2 * nI t < -2 then meetInL σ r o os i j (t + 1) else if 2 < σ r 1 + 2 * nI i - os - 2 * nI t then meetInL σ r o os i j (t + 1)
      else if atF σ (r + 1) (nI i) = atF σ o (nI t) then true else meetInL σ r o os i j (t + 1)
def meetL (σ : Nat → Nat → Int32) (r o : Nat) (os : Int32) (co : Nat) : Nat → Nat → Bool
  | 0, _ => false
  | j + 1, i => if meetInL σ r o os i co 0 = true then true else meetL σ r o os co j (i + 1)
set_option maxHeartbeats 4000000 in
theorem lp_meetIn (z : qZ) (k : Nat) {σ : Nat → Nat → Int32} {r o co : Nat} (hr : isFl r) (ho : isRt o) (hco : σ o 1 = nI co) (h10 : co < 2 ^ 30) (os : Int32) {X : qM} {n : Nat} (hn : 112 ≤ n) (i : Nat) (rest : Bool)
    (kk : ∀ w4 w5 : Value, w4.category = 1 → w5.category = 1 → EV z (k + 1) mX1_meets 80 [.ref r, .ref o, .int os, .int (nI i), w4, w5] [] (mm σ X) n 0 0 (qRes (some (.int (bI rest))) (mm σ X) n)) : ∀ (j t : Nat) (w5 : Value), w5.category = 1 → j = co - t → t < 2 ^ 30 → EV z (k + 1) mX1_meets 16 [.ref r, .ref o, .int os, .int (nI i), .int (nI t), w5] [] (mm σ X) n 0 0 (qRes (some (.int (bI (if meetInL σ r o os i j t = true then true else rest)))) (mm σ X) n) := by
  have hO := hr.1
  have hO2 := ho.1
  intro j
  induction j with
  | zero =>
    intro t w5 hw hi h2
    refine EV_iload dX1_meets_16 rfl ?_
    refine EV_aload_n dX1_meets_18 rfl ?_
    refine ES_getf dX1_meets_19 fkX1_36 hn (by assumption) rfl ?_
    refine EV_icmp_ge 80 dX1_meets_22 (by decide) (fun c22 => ?_) (fun c22 => ?_)
    · skip
      exact kk _ _ rfl hw
    · skip
      exact absurd (by rw [hco]; exact nI_le (by omega) (by omega)) c22
  | succ j ih =>
    intro t w5 hw hi h2
    refine EV_iload dX1_meets_16 rfl ?_
    refine EV_aload_n dX1_meets_18 rfl ?_
    refine ES_getf dX1_meets_19 fkX1_36 hn (by assumption) rfl ?_
    refine EV_icmp_ge 80 dX1_meets_22 (by decide) (fun c22 => ?_) (fun c22 => ?_)
    · skip
      exact absurd c22 (by rw [hco]; exact nI_ge (by omega) (by omega))
    · skip
      refine EV_aload_n dX1_meets_25 rfl ?_
      refine ES_getf dX1_meets_26 fkX1_22 hn (by assumption) rfl ?_
      refine EV_iconst (v := 2) dX1_meets_29 (by decide) ?_
      refine EV_iload_n dX1_meets_30 rfl ?_
      refine EV_imul dX1_meets_31 ?_
      refine EV_iadd dX1_meets_32 ?_
      refine EV_iload_n dX1_meets_33 rfl ?_
      refine EV_isub dX1_meets_34 ?_
      refine EV_iconst (v := 2) dX1_meets_35 (by decide) ?_
      refine EV_iload dX1_meets_36 rfl ?_
      refine EV_imul dX1_meets_38 ?_
      refine EV_isub dX1_meets_39 ?_
      refine EV_istore dX1_meets_40 (Nat.le_of_ble_eq_true rfl) (Nat.le_of_ble_eq_true rfl) rfl ?_
      refine EV_iload dX1_meets_42 rfl ?_
      refine EV_bipush (v := (-2)) dX1_meets_44 (by decide) ?_
      refine EV_icmp_lt 74 dX1_meets_46 (by decide) (fun c46 => ?_) (fun c46 => ?_)
      · skip
        refine EV_iinc dX1_meets_74 rfl (Nat.le_of_ble_eq_true rfl) rfl ?_
        refine EV_goto 16 dX1_meets_77 (by decide) ?_
        rw [show nI t + Int32.ofInt 1 = nI (t + 1) from (nI_succ t).symm]
        simp only [meetInL, if_neg c22, if_pos c46]
        exact ih (t + 1) _ rfl (by omega) (by omega)
      · skip
        refine EV_iload dX1_meets_49 rfl ?_
        refine EV_iconst (v := 2) dX1_meets_51 (by decide) ?_
        refine EV_icmp_gt 74 dX1_meets_52 (by decide) (fun c52 => ?_) (fun c52 => ?_)
        · skip
          refine EV_iinc dX1_meets_74 rfl (Nat.le_of_ble_eq_true rfl) rfl ?_
          refine EV_goto 16 dX1_meets_77 (by decide) ?_
          rw [show nI t + Int32.ofInt 1 = nI (t + 1) from (nI_succ t).symm]
          simp only [meetInL, if_neg c22, if_neg c46, if_pos c52]
          exact ih (t + 1) _ rfl (by omega) (by omega)
        · skip
          refine EV_aload_n dX1_meets_55 rfl ?_
          refine ES_getf dX1_meets_56 fkX1_12 hn (by assumption) rfl ?_
          refine EV_iload_n dX1_meets_59 rfl ?_
          refine ES_callV dX1_meets_60 mkX1_39 mfX4_at mvX4_at hn hr.2.1 rfl (sp_at z k hr.2.1 hr.2.2 _) rfl rfl (Nat.le_of_ble_eq_true rfl) ?_
          refine EV_aload_n dX1_meets_63 rfl ?_
          refine EV_iload dX1_meets_64 rfl ?_
          refine ES_callV dX1_meets_66 mkX1_39 mfX4_at mvX4_at hn ho.1 rfl (sp_at z k ho.1 ho.2 _) rfl rfl (Nat.le_of_ble_eq_true rfl) ?_
          refine EV_icmp_ne 74 dX1_meets_69 (by decide) (fun c69 => ?_) (fun c69 => ?_)
          · skip
            refine EV_iinc dX1_meets_74 rfl (Nat.le_of_ble_eq_true rfl) rfl ?_
            refine EV_goto 16 dX1_meets_77 (by decide) ?_
            rw [show nI t + Int32.ofInt 1 = nI (t + 1) from (nI_succ t).symm]
            simp only [meetInL, if_neg c22, if_neg c46, if_neg c52, if_neg c69]
            exact ih (t + 1) _ rfl (by omega) (by omega)
          · skip
            refine EV_iconst (v := 1) dX1_meets_72 (by decide) ?_
            exact ES_iret dX1_meets_73 rfl rfl (by simp only [meetInL, if_neg c22, if_neg c46, if_neg c52, if_pos c69]; try rfl) rfl
set_option maxHeartbeats 4000000 in
theorem lp_meet (z : qZ) (k : Nat) {σ : Nat → Nat → Int32} {r o co cr : Nat} (hr : isFl r) (ho : isRt o) (hco : σ o 1 = nI co) (h10 : co < 2 ^ 30) (hcr : σ (r + 1) 1 = nI cr) (hc10 : cr < 2 ^ 30) (os : Int32) {X : qM} {n : Nat} (hn : 112 ≤ n) : ∀ (j i : Nat) (w4 w5 : Value), w4.category = 1 → w5.category = 1 → j = cr - i → i < 2 ^ 30 → EV z (k + 1) mX1_meets 2 [.ref r, .ref o, .int os, .int (nI i), w4, w5] [] (mm σ X) n 0 0 (qRes (some (.int (bI (meetL σ r o os co j i)))) (mm σ X) n) := by
  have hO := hr.1
  have hO2 := hr.2.1
  intro j
  induction j with
  | zero =>
    intro i w4 w5 hw4 hw5 hi h2
    refine EV_iload_n dX1_meets_2 rfl ?_
    refine EV_aload_n dX1_meets_3 rfl ?_
    refine ES_getf dX1_meets_4 fkX1_12 hn (by assumption) rfl ?_
    refine ES_getf dX1_meets_7 fkX1_36 hn (by assumption) rfl ?_
    refine EV_icmp_ge 86 dX1_meets_10 (by decide) (fun c10 => ?_) (fun c10 => ?_)
    · skip
      refine EV_iconst (v := 0) dX1_meets_86 (by decide) ?_
      exact ES_iret dX1_meets_87 rfl rfl rfl rfl
    · skip
      exact absurd (by rw [hcr]; exact nI_le (by omega) (by omega)) c10
  | succ j ih =>
    intro i w4 w5 hw4 hw5 hi h2
    refine EV_iload_n dX1_meets_2 rfl ?_
    refine EV_aload_n dX1_meets_3 rfl ?_
    refine ES_getf dX1_meets_4 fkX1_12 hn (by assumption) rfl ?_
    refine ES_getf dX1_meets_7 fkX1_36 hn (by assumption) rfl ?_
    refine EV_icmp_ge 86 dX1_meets_10 (by decide) (fun c10 => ?_) (fun c10 => ?_)
    · skip
      exact absurd c10 (by rw [hcr]; exact nI_ge (by omega) (by omega))
    · skip
      refine EV_iconst (v := 0) dX1_meets_13 (by decide) ?_
      refine EV_istore dX1_meets_14 (Nat.le_of_ble_eq_true rfl) (Nat.le_of_ble_eq_true rfl) rfl ?_
      rw [meetL]
      refine lp_meetIn z k hr ho hco h10 os hn i (meetL σ r o os co j (i + 1)) (fun w4 w5 g4 g5 => ?_) co 0 _ hw5 (by omega) (by omega)
      refine EV_iinc dX1_meets_80 rfl (Nat.le_of_ble_eq_true rfl) rfl ?_
      refine EV_goto 2 dX1_meets_83 (by decide) ?_
      rw [show nI i + Int32.ofInt 1 = nI (i + 1) from (nI_succ i).symm]
      exact ih (i + 1) _ _ g4 g5 (by omega) (by omega)
theorem sp_meets (z : qZ) (k : Nat) {σ : Nat → Nat → Int32} {r o co cr : Nat} (hr : isFl r) (ho : isRt o) (hco : σ o 1 = nI co) (h10 : co < 2 ^ 30) (hcr : σ (r + 1) 1 = nI cr) (hc10 : cr < 2 ^ 30) (os : Int32) : SP z (k + 1) mX1_meets [.ref r, .ref o, .int os] σ (some (.int (bI (meetL σ r o os co cr 0)))) σ := by
  refine SP_of 3 (by decide) (Nat.le_of_ble_eq_true rfl) fun X n hn => ?_
  refine EV_iconst (v := 0) dX1_meets_0 (by decide) ?_
  refine EV_istore_n dX1_meets_1 (Nat.le_of_ble_eq_true rfl) (Nat.le_of_ble_eq_true rfl) rfl ?_
  exact lp_meet z k hr ho hco h10 hcr hc10 os hn cr 0 _ _ rfl rfl (by omega) (by omega)
/-! craft -/
def landF (σ : Nat → Nat → Int32) (r : Nat) (m : Int32) : Nat → Nat → Int32 := sset (sset (sset σ r 7 0) r 9 (-1)) r 11 m
theorem sp_landAt (z : qZ) (k : Nat) {σ : Nat → Nat → Int32} {r : Nat} (hr : isO 0 r) (m : Int32) : SP z k mX0_landAt [.ref r, .int m] σ none (landF σ r m) := by
  refine SP_of 0 (by decide) (Nat.le_of_ble_eq_true rfl) fun X n hn => ?_
  refine EV_aload_n dX0_landAt_0 rfl ?_
  refine EV_iconst (v := 0) dX0_landAt_1 (by decide) ?_
  refine ES_put dX0_landAt_2 fkX0_15 hn (by assumption) (Nat.le_of_ble_eq_true rfl) (fun _ _ => rfl) rfl rfl ?_
  refine EV_aload_n dX0_landAt_5 rfl ?_
  refine EV_iconst (v := (-1)) dX0_landAt_6 (by decide) ?_
  refine ES_put dX0_landAt_7 fkX0_19 hn (by assumption) (Nat.le_of_ble_eq_true rfl) (fun _ _ => rfl) rfl rfl ?_
  refine EV_aload_n dX0_landAt_10 rfl ?_
  refine EV_iload_n dX0_landAt_11 rfl ?_
  refine ES_put dX0_landAt_12 fkX0_22 hn (by assumption) (Nat.le_of_ble_eq_true rfl) (fun _ _ => rfl) rfl rfl ?_
  exact ES_vret dX0_landAt_15 rfl rfl
def downF (σ : Nat → Nat → Int32) (r : Nat) : Nat → Nat → Int32 := sset (sset (sset σ r 7 2) r 9 (-1)) r 4 0
theorem sp_goDown (z : qZ) (k : Nat) {σ : Nat → Nat → Int32} {r : Nat} (hr : isO 0 r) : SP z k mX0_goDown [.ref r] σ none (downF σ r) := by
  refine SP_of 0 (by decide) (Nat.le_of_ble_eq_true rfl) fun X n hn => ?_
  refine EV_aload_n dX0_goDown_0 rfl ?_
  refine EV_iconst (v := 2) dX0_goDown_1 (by decide) ?_
  refine ES_put dX0_goDown_2 fkX0_15 hn (by assumption) (Nat.le_of_ble_eq_true rfl) (fun _ _ => rfl) rfl rfl ?_
  refine EV_aload_n dX0_goDown_5 rfl ?_
  refine EV_iconst (v := (-1)) dX0_goDown_6 (by decide) ?_
  refine ES_put dX0_goDown_7 fkX0_19 hn (by assumption) (Nat.le_of_ble_eq_true rfl) (fun _ _ => rfl) rfl rfl ?_
  refine EV_aload_n dX0_goDown_10 rfl ?_
  refine EV_iconst (v := 0) dX0_goDown_11 (by decide) ?_
  refine ES_put dX0_goDown_12 fkX0_37 hn (by assumption) (Nat.le_of_ble_eq_true rfl) (fun _ _ => rfl) rfl rfl ?_
  exact ES_vret dX0_goDown_15 rfl rfl
def homeF (f : Nat → Int32) : Int32 :=
  if f 8 / 5 = f 2 / 5 then (if f 8 = f 2 then f 8 else if f 2 ≤ f 8 then f 8 - 1 else f 8 + 1) else if f 2 ≤ f 8 then f 8 - 5 else f 8 + 5
theorem sp_nextHome (z : qZ) (k : Nat) {σ : Nat → Nat → Int32} {r : Nat} (hr : isO 0 r) : SP z k mX0_nextCellHome [.ref r] σ (some (.int (homeF (σ r)))) σ := by
  refine SP_of 0 (by decide) (Nat.le_of_ble_eq_true rfl) fun X n hn => ?_
  refine EV_aload_n dX0_nextCellHome_0 rfl ?_
  refine ES_getf dX0_nextCellHome_1 fkX0_43 hn (by assumption) rfl ?_
  refine EV_iconst (v := 5) dX0_nextCellHome_4 (by decide) ?_
  refine EV_idiv dX0_nextCellHome_5 (by decide) ?_
  refine EV_aload_n dX0_nextCellHome_6 rfl ?_
  refine ES_getf dX0_nextCellHome_7 fkX0_31 hn (by assumption) rfl ?_
  refine EV_iconst (v := 5) dX0_nextCellHome_10 (by decide) ?_
  refine EV_idiv dX0_nextCellHome_11 (by decide) ?_
  refine EV_icmp_eq 42 dX0_nextCellHome_12 (by decide) (fun c12 => ?_) (fun c12 => ?_)
  · skip
    refine EV_aload_n dX0_nextCellHome_42 rfl ?_
    refine ES_getf dX0_nextCellHome_43 fkX0_43 hn (by assumption) rfl ?_
    refine EV_aload_n dX0_nextCellHome_46 rfl ?_
    refine ES_getf dX0_nextCellHome_47 fkX0_31 hn (by assumption) rfl ?_
    refine EV_icmp_ne 58 dX0_nextCellHome_50 (by decide) (fun c50 => ?_) (fun c50 => ?_)
    · skip
      refine EV_aload_n dX0_nextCellHome_58 rfl ?_
      refine ES_getf dX0_nextCellHome_59 fkX0_43 hn (by assumption) rfl ?_
      refine EV_aload_n dX0_nextCellHome_62 rfl ?_
      refine ES_getf dX0_nextCellHome_63 fkX0_31 hn (by assumption) rfl ?_
      refine EV_icmp_ge 78 dX0_nextCellHome_66 (by decide) (fun c66 => ?_) (fun c66 => ?_)
      · skip
        refine EV_aload_n dX0_nextCellHome_78 rfl ?_
        refine ES_getf dX0_nextCellHome_79 fkX0_43 hn (by assumption) rfl ?_
        refine EV_iconst (v := 1) dX0_nextCellHome_82 (by decide) ?_
        refine EV_isub dX0_nextCellHome_83 ?_
        exact ES_iret dX0_nextCellHome_84 rfl rfl (by simp only [homeF, if_pos c12, if_neg c50, if_pos c66]; try rfl) rfl
      · skip
        refine EV_aload_n dX0_nextCellHome_69 rfl ?_
        refine ES_getf dX0_nextCellHome_70 fkX0_43 hn (by assumption) rfl ?_
        refine EV_iconst (v := 1) dX0_nextCellHome_73 (by decide) ?_
        refine EV_iadd dX0_nextCellHome_74 ?_
        refine EV_goto 84 dX0_nextCellHome_75 (by decide) ?_
        exact ES_iret dX0_nextCellHome_84 rfl rfl (by simp only [homeF, if_pos c12, if_neg c50, if_neg c66]; try rfl) rfl
    · skip
      refine EV_aload_n dX0_nextCellHome_53 rfl ?_
      refine ES_getf dX0_nextCellHome_54 fkX0_43 hn (by assumption) rfl ?_
      exact ES_iret dX0_nextCellHome_57 rfl rfl (by simp only [homeF, if_pos c12, if_pos c50]; try rfl) rfl
  · skip
    refine EV_aload_n dX0_nextCellHome_15 rfl ?_
    refine ES_getf dX0_nextCellHome_16 fkX0_43 hn (by assumption) rfl ?_
    refine EV_aload_n dX0_nextCellHome_19 rfl ?_
    refine ES_getf dX0_nextCellHome_20 fkX0_31 hn (by assumption) rfl ?_
    refine EV_icmp_ge 35 dX0_nextCellHome_23 (by decide) (fun c23 => ?_) (fun c23 => ?_)
    · skip
      refine EV_aload_n dX0_nextCellHome_35 rfl ?_
      refine ES_getf dX0_nextCellHome_36 fkX0_43 hn (by assumption) rfl ?_
      refine EV_iconst (v := 5) dX0_nextCellHome_39 (by decide) ?_
      refine EV_isub dX0_nextCellHome_40 ?_
      exact ES_iret dX0_nextCellHome_41 rfl rfl (by simp only [homeF, if_neg c12, if_pos c23]; try rfl) rfl
    · skip
      refine EV_aload_n dX0_nextCellHome_26 rfl ?_
      refine ES_getf dX0_nextCellHome_27 fkX0_43 hn (by assumption) rfl ?_
      refine EV_iconst (v := 5) dX0_nextCellHome_30 (by decide) ?_
      refine EV_iadd dX0_nextCellHome_31 ?_
      refine EV_goto 41 dX0_nextCellHome_32 (by decide) ?_
      exact ES_iret dX0_nextCellHome_41 rfl rfl (by simp only [homeF, if_neg c12, if_neg c23]; try rfl) rfl
def cpCraftF (σ : Nat → Nat → Int32) (r o : Nat) : Nat → Nat → Int32 :=
  let σ := sset σ r 0 (σ o 0)
  let σ := sset σ r 1 (σ o 1)
  let σ := sset σ r 2 (σ o 2)
  let σ := sset σ r 3 (σ o 3)
  let σ := sset σ r 4 (σ o 4)
  let σ := sset σ r 5 (σ o 5)
  let σ := sset σ r 6 (σ o 6)
  let σ := sset σ r 7 (σ o 7)
  let σ := sset σ r 8 (σ o 8)
  let σ := sset σ r 9 (σ o 9)
  let σ := sset σ r 10 (σ o 10)
  sset σ r 11 (σ o 11)
theorem nar_b {x : Int32} {b : Bool} (h : x = bI b) : narrow .boolean (.int x) = .int x := by rw [h]; exact bI_nar b
theorem fit_b {x : Int32} {b : Bool} (h : x = bI b) : fits .boolean (.int x) = true := by rw [h]; exact bI_fit b
set_option maxHeartbeats 4000000 in
theorem sp_cpCraft (z : qZ) (k : Nat) {σ : Nat → Nat → Int32} {r o : Nat} (hr : isO 0 r) (ho : isO 0 o) (hne : o ≠ r) {b : Bool} (hb : σ o 6 = bI b) : SP z k mX0_copyFrom [.ref r, .ref o] σ none (cpCraftF σ r o) := by
  refine SP_of 0 (by decide) (Nat.le_of_ble_eq_true rfl) fun X n hn => ?_
  refine EV_aload_n dX0_copyFrom_0 rfl ?_
  refine EV_aload_n dX0_copyFrom_1 rfl ?_
  refine ES_getf dX0_copyFrom_2 fkX0_25 hn ho rfl ?_
  refine ES_put dX0_copyFrom_5 fkX0_25 hn hr (Nat.le_of_ble_eq_true rfl) (fun _ _ => rfl) rfl rfl ?_
  refine EV_aload_n dX0_copyFrom_8 rfl ?_
  refine EV_aload_n dX0_copyFrom_9 rfl ?_
  refine ES_getf dX0_copyFrom_10 fkX0_28 hn ho rfl ?_
  refine ES_put dX0_copyFrom_13 fkX0_28 hn hr (Nat.le_of_ble_eq_true rfl) (fun _ _ => rfl) rfl rfl ?_
  refine EV_aload_n dX0_copyFrom_16 rfl ?_
  refine EV_aload_n dX0_copyFrom_17 rfl ?_
  refine ES_getf dX0_copyFrom_18 fkX0_31 hn ho rfl ?_
  refine ES_put dX0_copyFrom_21 fkX0_31 hn hr (Nat.le_of_ble_eq_true rfl) (fun _ _ => rfl) rfl rfl ?_
  refine EV_aload_n dX0_copyFrom_24 rfl ?_
  refine EV_aload_n dX0_copyFrom_25 rfl ?_
  refine ES_getf dX0_copyFrom_26 fkX0_34 hn ho rfl ?_
  refine ES_put dX0_copyFrom_29 fkX0_34 hn hr (Nat.le_of_ble_eq_true rfl) (fun _ _ => rfl) rfl rfl ?_
  refine EV_aload_n dX0_copyFrom_32 rfl ?_
  refine EV_aload_n dX0_copyFrom_33 rfl ?_
  refine ES_getf dX0_copyFrom_34 fkX0_37 hn ho rfl ?_
  refine ES_put dX0_copyFrom_37 fkX0_37 hn hr (Nat.le_of_ble_eq_true rfl) (fun _ _ => rfl) rfl rfl ?_
  refine EV_aload_n dX0_copyFrom_40 rfl ?_
  refine EV_aload_n dX0_copyFrom_41 rfl ?_
  refine ES_getf dX0_copyFrom_42 fkX0_40 hn ho rfl ?_
  refine ES_put dX0_copyFrom_45 fkX0_40 hn hr (Nat.le_of_ble_eq_true rfl) (fun _ _ => rfl) rfl rfl ?_
  refine EV_aload_n dX0_copyFrom_48 rfl ?_
  refine EV_aload_n dX0_copyFrom_49 rfl ?_
  refine ES_getf dX0_copyFrom_50 fkX0_9 hn ho rfl ?_
  refine ES_put dX0_copyFrom_53 fkX0_9 hn hr (Nat.le_of_ble_eq_true rfl) (fun _ _ => rfl) (nar_b (b := b) (by simp only [sset_ne _ _ _ hne]; exact hb)) (fit_b (b := b) (by simp only [sset_ne _ _ _ hne]; exact hb)) ?_
  refine EV_aload_n dX0_copyFrom_56 rfl ?_
  refine EV_aload_n dX0_copyFrom_57 rfl ?_
  refine ES_getf dX0_copyFrom_58 fkX0_15 hn ho rfl ?_
  refine ES_put dX0_copyFrom_61 fkX0_15 hn hr (Nat.le_of_ble_eq_true rfl) (fun _ _ => rfl) rfl rfl ?_
  refine EV_aload_n dX0_copyFrom_64 rfl ?_
  refine EV_aload_n dX0_copyFrom_65 rfl ?_
  refine ES_getf dX0_copyFrom_66 fkX0_43 hn ho rfl ?_
  refine ES_put dX0_copyFrom_69 fkX0_43 hn hr (Nat.le_of_ble_eq_true rfl) (fun _ _ => rfl) rfl rfl ?_
  refine EV_aload_n dX0_copyFrom_72 rfl ?_
  refine EV_aload_n dX0_copyFrom_73 rfl ?_
  refine ES_getf dX0_copyFrom_74 fkX0_19 hn ho rfl ?_
  refine ES_put dX0_copyFrom_77 fkX0_19 hn hr (Nat.le_of_ble_eq_true rfl) (fun _ _ => rfl) rfl rfl ?_
  refine EV_aload_n dX0_copyFrom_80 rfl ?_
  refine EV_aload_n dX0_copyFrom_81 rfl ?_
  refine ES_getf dX0_copyFrom_82 fkX0_46 hn ho rfl ?_
  refine ES_put dX0_copyFrom_85 fkX0_46 hn hr (Nat.le_of_ble_eq_true rfl) (fun _ _ => rfl) rfl rfl ?_
  refine EV_aload_n dX0_copyFrom_88 rfl ?_
  refine EV_aload_n dX0_copyFrom_89 rfl ?_
  refine ES_getf dX0_copyFrom_90 fkX0_22 hn ho rfl ?_
  refine ES_put dX0_copyFrom_93 fkX0_22 hn hr (Nat.le_of_ble_eq_true rfl) (fun _ _ => rfl) rfl rfl ?_
  exact ES_vret dX0_copyFrom_96 rfl rfl
def isCraftF (σ : Nat → Nat → Int32) (s : Nat) (c : Int32) : Bool := if c < 0 then false else if σ s 2 ≤ c then false else true
theorem sp_isCraft (z : qZ) (k : Nat) {σ : Nat → Nat → Int32} {s : Nat} (hs : isSky s) (c : Int32) : SP z k mX6_isCraft [.ref s, .int c] σ (some (.int (bI (isCraftF σ s c)))) σ := by
  refine SP_of 0 (by decide) (Nat.le_of_ble_eq_true rfl) fun X n hn => ?_
  have hO := o_sky hs
  refine EV_iload_n dX6_isCraft_0 rfl ?_
  refine EV_if_lt 16 dX6_isCraft_1 (by decide) (fun c1 => ?_) (fun c1 => ?_)
  · skip
    refine EV_iconst (v := 0) dX6_isCraft_16 (by decide) ?_
    exact ES_iret dX6_isCraft_17 rfl rfl (by simp only [isCraftF, if_pos c1]; try rfl) rfl
  · skip
    refine EV_iload_n dX6_isCraft_4 rfl ?_
    refine EV_aload_n dX6_isCraft_5 rfl ?_
    refine ES_getf dX6_isCraft_6 fkX6_33 hn (by assumption) rfl ?_
    refine EV_icmp_ge 16 dX6_isCraft_9 (by decide) (fun c9 => ?_) (fun c9 => ?_)
    · skip
      refine EV_iconst (v := 0) dX6_isCraft_16 (by decide) ?_
      exact ES_iret dX6_isCraft_17 rfl rfl (by simp only [isCraftF, if_neg c1, if_pos c9]; try rfl) rfl
    · skip
      refine EV_iconst (v := 1) dX6_isCraft_12 (by decide) ?_
      refine EV_goto 17 dX6_isCraft_13 (by decide) ?_
      exact ES_iret dX6_isCraft_17 rfl rfl (by simp only [isCraftF, if_neg c1, if_neg c9]; try rfl) rfl
end
section
/-! ===== the sky: what a minute touches ===== -/
theorem fl_of {s i : Nat} (h : isSky s) (hi : i < 12) : isFl (s + 10 + 3 * i) := ⟨o_flight h hi, o_route h hi, a_cells h hi⟩
abbrev qσ : Type := Nat → Nat → Int32
def tch (s k j : Nat) : Prop := k = s + 3 ∨ (k = s ∧ 6 ≤ j ∧ j ≤ 8) ∨ (∃ i, i < 6 ∧ k = s + 4 + i ∧ (j = 4 ∨ 7 ≤ j)) ∨ (∃ i, i < 12 ∧ k = s + 10 + 3 * i ∧ j = 2)
theorem tch_h (s j : Nat) : tch s (s + 3) j := Or.inl rfl
theorem tch_s (s : Nat) {j : Nat} (h1 : 6 ≤ j) (h2 : j ≤ 8) : tch s s j := Or.inr (Or.inl ⟨rfl, h1, h2⟩)
theorem tch_c (s : Nat) {i j : Nat} (hi : i < 6) (hj : j = 4 ∨ 7 ≤ j) : tch s (s + 4 + i) j := Or.inr (Or.inr (Or.inl ⟨i, hi, rfl, hj⟩))
theorem tch_f (s : Nat) {i : Nat} (hi : i < 12) : tch s (s + 10 + 3 * i) 2 := Or.inr (Or.inr (Or.inr ⟨i, hi, rfl, rfl⟩))
def Only (s : Nat) (σ σ' : qσ) : Prop := ∀ k j, ¬ tch s k j → σ' k j = σ k j
theorem Only.rf {s : Nat} {σ : qσ} : Only s σ σ := fun _ _ _ => rfl
theorem Only.tr {s : Nat} {σ σ1 σ2 : qσ} (h : Only s σ σ1) (g : Only s σ1 σ2) : Only s σ σ2 := fun k j hk => (g k j hk).trans (h k j hk)
theorem sset_at (σ : qσ) (r j : Nat) (v : Int32) (k i : Nat) : sset σ r j v k i = if k = r ∧ i = j then v else σ k i := by
  unfold sset srow
  by_cases hk : k = r
  · subst hk
    by_cases hi : i = j <;> simp [upd, hi]
  · simp [hk]
theorem Only.set {s : Nat} {σ σ1 : qσ} {r j : Nat} (h : Only s σ σ1) (hr : tch s r j) (v : Int32) : Only s σ (sset σ1 r j v) := fun k i hk => by
  rw [sset_at]
  by_cases h1 : k = r ∧ i = j
  · rw [h1.1, h1.2] at hk; exact absurd hr hk
  · rw [if_neg h1]; exact h k i hk
theorem Only.row {s : Nat} {σ σ1 : qσ} (h : Only s σ σ1) (g : Nat → Int32) : Only s σ (srow σ1 (s + 3) g) := fun k i hk => by
  unfold srow
  by_cases h1 : k = s + 3
  · rw [h1] at hk; exact absurd (tch_h s i) hk
  · rw [if_neg h1]; exact h k i hk
theorem Only.if {s : Nat} {σ σ1 σ2 : qσ} {p : Prop} [Decidable p] (h1 : p → Only s σ σ1) (h2 : ¬ p → Only s σ σ2) : Only s σ (if p then σ1 else σ2) := by
  by_cases h : p
  · rw [if_pos h]; exact h1 h
  · rw [if_neg h]; exact h2 h
/-- the sky at s is as it must be: so many craft, flights, zones; links are truth values; routes have ten cells at most -/
def WF (σ : qσ) (s cc fc zc : Nat) : Prop := isSky s ∧ (σ s 2 = nI cc ∧ cc ≤ 6) ∧ (σ s 4 = nI fc ∧ fc ≤ 12) ∧ (σ 2 6 = nI zc ∧ zc ≤ 6) ∧ (∀ i, i < 6 → ∃ b, σ (s + 4 + i) 6 = bI b) ∧ (∀ i, i < 12 → ∃ c, c ≤ 10 ∧ σ (s + 10 + 3 * i + 1) 1 = nI c)
theorem WF.only {σ σ' : qσ} {s cc fc zc : Nat} (h : WF σ s cc fc zc) (ho : Only s σ σ') : WF σ' s cc fc zc := by
  obtain ⟨hs, h1, h2, h3, h4, h5⟩ := h
  have hl := hs.le
  refine ⟨hs, ⟨(ho s 2 ?_).trans h1.1, h1.2⟩, ⟨(ho s 4 ?_).trans h2.1, h2.2⟩, ⟨(ho 2 6 ?_).trans h3.1, h3.2⟩, fun i hi => ?_, fun i hi => ?_⟩
  · rintro (h | h | ⟨i, h⟩ | ⟨i, h⟩) <;> omega
  · rintro (h | h | ⟨i, h⟩ | ⟨i, h⟩) <;> omega
  · rintro (h | h | ⟨i, h⟩ | ⟨i, h⟩) <;> omega
  · obtain ⟨b, hb⟩ := h4 i hi
    refine ⟨b, (ho _ _ ?_).trans hb⟩
    rintro (h | h | ⟨i, h⟩ | ⟨i, h⟩) <;> omega
  · obtain ⟨c, hc, hb⟩ := h5 i hi
    refine ⟨c, hc, (ho _ _ ?_).trans hb⟩
    rintro (h | h | ⟨i, h⟩ | ⟨i, h⟩) <;> omega
/-! coming into a cell -/
def comeInF (σ : qσ) (s r zc : Nat) : qσ :=
  if bI (isCellF (σ r 8)) = 0 then σ else
    let nz := σ r 5 * σ 3 (σ r 8).toNatClampNeg
    let σ1 := sset σ (s + 3) (σ r 8).toNatClampNeg (σ (s + 3) (σ r 8).toNatClampNeg + nz)
    let σ2 := sset σ1 s 6 (σ1 s 6 + nz)
    if bI (isShutF σ2 zc (σ2 r 8) (σ2 r 0) (σ2 s 8)) = 0 then σ2 else sset σ2 r 10 (σ2 r 10 + 1)
theorem comeIn_only {σ : qσ} {s i zc : Nat} (hi : i < 6) : Only s σ (comeInF σ s (s + 4 + i) zc) := by
  unfold comeInF
  refine Only.if (fun _ => Only.rf) (fun _ => ?_)
  refine Only.if (fun _ => ?_) (fun _ => ?_)
  · exact (Only.rf.set (tch_h s _) _).set (tch_s s (by omega) (by omega)) _
  · exact ((Only.rf.set (tch_h s _) _).set (tch_s s (by omega) (by omega)) _).set (tch_c s hi (by omega)) _
set_option maxHeartbeats 4000000 in
theorem sp_comeIn (z : qZ) (k : Nat) {σ : qσ} {s cc fc zc r : Nat} (hW : WF σ s cc fc zc) (hr : isO 0 r) : SP z (k + 2) mX6_comeIn [.ref s, .ref r] σ none (comeInF σ s r zc) := by
  refine SP_of 1 (by decide) (Nat.le_of_ble_eq_true rfl) fun X n hn => ?_
  have hs := hW.1
  have hl := hs.le
  have hO := o_sky hs
  refine EV_aload_n dX6_comeIn_0 rfl ?_
  refine ES_getf dX6_comeIn_1 fkX6_100 hn (by assumption) rfl ?_
  refine ES_callS dX6_comeIn_4 mkX6_154 mfX8_isCell msX8_isCell hn (sp_isCell z (k + 1) _) rfl rfl (Nat.le_of_ble_eq_true rfl) ?_
  refine EV_if_ne 11 dX6_comeIn_7 (by decide) (fun c7 => ?_) (fun c7 => ?_)
  · skip
    refine EV_aload_n dX6_comeIn_11 rfl ?_
    refine ES_getf dX6_comeIn_12 fkX6_160 hn (by assumption) rfl ?_
    refine EV_aload_n dX6_comeIn_15 rfl ?_
    refine ES_getf dX6_comeIn_16 fkX6_27 hn (by assumption) rfl ?_
    refine ES_getf dX6_comeIn_19 fkX6_163 hn o_ground rfl ?_
    refine EV_aload_n dX6_comeIn_22 rfl ?_
    refine ES_getf dX6_comeIn_23 fkX6_100 hn (by assumption) rfl ?_
    refine ES_iald dX6_comeIn_26 hn a_houses (isCell_in c7) ?_
    refine EV_imul dX6_comeIn_27 ?_
    refine EV_istore_n dX6_comeIn_28 (Nat.le_of_ble_eq_true rfl) (Nat.le_of_ble_eq_true rfl) rfl ?_
    refine EV_aload_n dX6_comeIn_29 rfl ?_
    refine ES_getf dX6_comeIn_30 fkX6_23 hn (by assumption) rfl ?_
    refine EV_aload_n dX6_comeIn_33 rfl ?_
    refine ES_getf dX6_comeIn_34 fkX6_100 hn (by assumption) rfl ?_
    refine EV_dup2 dX6_comeIn_37 rfl rfl ?_
    refine ES_iald dX6_comeIn_38 hn (a_heard hs) (isCell_in c7) ?_
    refine EV_iload_n dX6_comeIn_39 rfl ?_
    refine EV_iadd dX6_comeIn_40 ?_
    refine ES_iast dX6_comeIn_41 hn (a_heard hs) (isCell_in c7) ?_
    refine EV_aload_n dX6_comeIn_42 rfl ?_
    refine EV_dup dX6_comeIn_43 rfl ?_
    refine ES_getf dX6_comeIn_44 fkX6_53 hn (by assumption) rfl ?_
    refine EV_iload_n dX6_comeIn_47 rfl ?_
    refine EV_iadd dX6_comeIn_48 ?_
    refine ES_put dX6_comeIn_49 fkX6_53 hn (by assumption) (Nat.le_of_ble_eq_true rfl) (fun _ _ => rfl) rfl rfl ?_
    refine EV_aload_n dX6_comeIn_52 rfl ?_
    refine ES_getf dX6_comeIn_53 fkX6_27 hn (by assumption) rfl ?_
    refine EV_aload_n dX6_comeIn_56 rfl ?_
    refine ES_getf dX6_comeIn_57 fkX6_100 hn (by assumption) rfl ?_
    refine EV_aload_n dX6_comeIn_60 rfl ?_
    refine ES_getf dX6_comeIn_61 fkX6_166 hn (by assumption) rfl ?_
    refine EV_aload_n dX6_comeIn_64 rfl ?_
    refine ES_getf dX6_comeIn_65 fkX6_59 hn (by assumption) rfl ?_
    refine ES_callV dX6_comeIn_68 mkX6_169 mfX2_isShut mvX2_isShut hn o_ground rfl (sp_isShut z k (by rw [sset_ne _ _ _ (by omega), sset_ne _ _ _ (by omega)]; exact hW.2.2.2.1.1) hW.2.2.2.1.2 _ _ _) rfl rfl (Nat.le_of_ble_eq_true rfl) ?_
    refine EV_if_eq 84 dX6_comeIn_71 (by decide) (fun c71 => ?_) (fun c71 => ?_)
    · skip
      exact ES_vret dX6_comeIn_84 rfl (by simp only [comeInF, if_neg c7, if_pos c71])
    · skip
      refine EV_aload_n dX6_comeIn_74 rfl ?_
      refine EV_dup dX6_comeIn_75 rfl ?_
      refine ES_getf dX6_comeIn_76 fkX6_173 hn (by assumption) rfl ?_
      refine EV_iconst (v := 1) dX6_comeIn_79 (by decide) ?_
      refine EV_iadd dX6_comeIn_80 ?_
      refine ES_put dX6_comeIn_81 fkX6_173 hn (by assumption) (Nat.le_of_ble_eq_true rfl) (fun _ _ => rfl) rfl rfl ?_
      exact ES_vret dX6_comeIn_84 rfl (by simp only [comeInF, if_neg c7, if_neg c71])
  · skip
    exact ES_vret dX6_comeIn_10 rfl (by simp only [comeInF, if_pos c7])
end
section
/-! a start -/
theorem isCraft_in {σ : qσ} {s cc : Nat} {c : Int32} (hc : σ s 2 = nI cc) (h6 : cc ≤ 6) (h : ¬ bI (isCraftF σ s c) = 0) : vp_in c cc := by
  unfold isCraftF at h
  by_cases h1 : c < 0
  · rw [if_pos h1] at h; exact absurd rfl h
  · rw [if_neg h1] at h
    by_cases h2 : σ s 2 ≤ c
    · rw [if_pos h2] at h; exact absurd rfl h
    · rw [hc] at h2
      exact vp_in_z h1 (Int32.not_le.mp h2) (by omega)
def goF (σ : qσ) (s fl r zc i : Nat) : qσ :=
  let σ1 := sset σ fl 2 1
  let σ2 := sset σ1 r 7 1
  let σ3 := sset σ2 r 9 (nI i)
  let σ4 := sset σ3 r 4 (σ3 r 4 - 2)
  comeInF σ4 s r zc
def startCF (σ : qσ) (s fl r zc i : Nat) : qσ :=
  if σ r 7 = 0 then (if σ r 8 = firstF σ (fl + 1) then (if σ r 4 < 2 then sset σ fl 2 4 else if σ r 6 = 0 then sset σ fl 2 4 else goF σ s fl r zc i) else sset σ fl 2 4) else sset σ fl 2 4
def startF (σ : qσ) (s zc i : Nat) : qσ :=
  if σ (s + 10 + 3 * i) 2 = 0 then (if σ (s + 10 + 3 * i) 1 = σ s 8 then (if bI (isCraftF σ s (σ (s + 10 + 3 * i) 0)) = 0 then σ else
    startCF σ s (s + 10 + 3 * i) (s + 4 + (σ (s + 10 + 3 * i) 0).toNatClampNeg) zc i) else σ) else σ
theorem go_only {σ : qσ} {s i t zc : Nat} (hi : i < 12) (ht : t < 6) : Only s σ (goF σ s (s + 10 + 3 * i) (s + 4 + t) zc i) :=
  ((((Only.rf.set (tch_f s hi) _).set (tch_c s ht (by omega)) _).set (tch_c s ht (by omega)) _).set (tch_c s ht (by omega)) _).tr (comeIn_only ht)
theorem start_only {σ : qσ} {s cc fc zc i : Nat} (hW : WF σ s cc fc zc) (hi : i < 12) : Only s σ (startF σ s zc i) := by
  unfold startF
  refine Only.if (fun _ => Only.if (fun _ => Only.if (fun _ => Only.rf) (fun h => ?_)) (fun _ => Only.rf)) (fun _ => Only.rf)
  have ht := vp_lt (vp_mono (isCraft_in hW.2.1.1 hW.2.1.2 h) hW.2.1.2)
  unfold startCF
  have hm : Only s σ (sset σ (s + 10 + 3 * i) 2 4) := Only.rf.set (tch_f s hi) _
  exact Only.if (fun _ => Only.if (fun _ => Only.if (fun _ => hm) (fun _ => Only.if (fun _ => hm) (fun _ => go_only hi ht))) (fun _ => hm)) (fun _ => hm)
set_option maxHeartbeats 8000000 in
theorem sp_start (z : qZ) (k : Nat) {σ : qσ} {s cc fc zc i : Nat} (hW : WF σ s cc fc zc) (hi : i < fc) : SP z (k + 3) mX6_startOrMissIfDue [.ref s, .int (nI i)] σ none (startF σ s zc i) := by
  refine SP_of 3 (by decide) (Nat.le_of_ble_eq_true rfl) fun X n hn => ?_
  have hs := hW.1
  have hl := hs.le
  have hO := o_sky hs
  have hi12 : i < 12 := Nat.lt_of_lt_of_le hi hW.2.2.1.2
  have hF := fl_of hs hi12
  have hFO := hF.1
  refine EV_aload_n dX6_startOrMissIfDue_0 rfl ?_
  refine ES_getf dX6_startOrMissIfDue_1 fkX6_19 hn (by assumption) rfl ?_
  refine EV_iload_n dX6_startOrMissIfDue_4 rfl ?_
  refine ES_aaldF hs dX6_startOrMissIfDue_5 hn hi12 ?_
  refine EV_astore_n dX6_startOrMissIfDue_6 (Nat.le_of_ble_eq_true rfl) (Nat.le_of_ble_eq_true rfl) rfl ?_
  refine EV_aload_n dX6_startOrMissIfDue_7 rfl ?_
  refine ES_getf dX6_startOrMissIfDue_8 fkX6_86 hn (by assumption) rfl ?_
  refine EV_if_ne 36 dX6_startOrMissIfDue_11 (by decide) (fun c11 => ?_) (fun c11 => ?_)
  · skip
    exact ES_vret dX6_startOrMissIfDue_36 rfl (by simp only [startF, startCF, goF, if_neg c11])
  · skip
    refine EV_aload_n dX6_startOrMissIfDue_14 rfl ?_
    refine ES_getf dX6_startOrMissIfDue_15 fkX6_89 hn (by assumption) rfl ?_
    refine EV_aload_n dX6_startOrMissIfDue_18 rfl ?_
    refine ES_getf dX6_startOrMissIfDue_19 fkX6_59 hn (by assumption) rfl ?_
    refine EV_icmp_ne 36 dX6_startOrMissIfDue_22 (by decide) (fun c22 => ?_) (fun c22 => ?_)
    · skip
      exact ES_vret dX6_startOrMissIfDue_36 rfl (by simp only [startF, startCF, goF, if_pos c11, if_neg c22])
    · skip
      refine EV_aload_n dX6_startOrMissIfDue_25 rfl ?_
      refine EV_aload_n dX6_startOrMissIfDue_26 rfl ?_
      refine ES_getf dX6_startOrMissIfDue_27 fkX6_92 hn (by assumption) rfl ?_
      refine ES_callV dX6_startOrMissIfDue_30 mkX6_95 mfX6_isCraft mvX6_isCraft hn (by assumption) rfl (sp_isCraft z (k + 2) hs _) rfl rfl (Nat.le_of_ble_eq_true rfl) ?_
      refine EV_if_ne 37 dX6_startOrMissIfDue_33 (by decide) (fun c33 => ?_) (fun c33 => ?_)
      · skip
        have hin := vp_mono (isCraft_in hW.2.1.1 hW.2.1.2 c33) hW.2.1.2
        have hC := o_craft hs (vp_lt hin)
        refine EV_aload_n dX6_startOrMissIfDue_37 rfl ?_
        refine ES_getf dX6_startOrMissIfDue_38 fkX6_11 hn (by assumption) rfl ?_
        refine EV_aload_n dX6_startOrMissIfDue_41 rfl ?_
        refine ES_getf dX6_startOrMissIfDue_42 fkX6_92 hn (by assumption) rfl ?_
        refine ES_aaldC' hs dX6_startOrMissIfDue_45 hn hin ?_
        refine EV_astore_n dX6_startOrMissIfDue_46 (Nat.le_of_ble_eq_true rfl) (Nat.le_of_ble_eq_true rfl) rfl ?_
        refine EV_aload_n dX6_startOrMissIfDue_47 rfl ?_
        refine ES_getf dX6_startOrMissIfDue_48 fkX6_99 hn (by assumption) rfl ?_
        refine EV_if_ne 72 dX6_startOrMissIfDue_51 (by decide) (fun c51 => ?_) (fun c51 => ?_)
        · skip
          refine EV_iconst (v := 0) dX6_startOrMissIfDue_72 (by decide) ?_
          refine EV_istore dX6_startOrMissIfDue_73 (Nat.le_of_ble_eq_true rfl) (Nat.le_of_ble_eq_true rfl) rfl ?_
          refine EV_iload dX6_startOrMissIfDue_75 rfl ?_
          refine EV_if_eq 95 dX6_startOrMissIfDue_77 (by decide) (fun c77 => ?_) (fun c77 => ?_)
          · skip
            refine EV_aload_n dX6_startOrMissIfDue_95 rfl ?_
            refine EV_iconst (v := 4) dX6_startOrMissIfDue_96 (by decide) ?_
            refine ES_put dX6_startOrMissIfDue_97 fkX6_86 hn (by assumption) (Nat.le_of_ble_eq_true rfl) (fun _ _ => rfl) rfl rfl ?_
            exact ES_vret dX6_startOrMissIfDue_100 rfl (by simp only [startF, startCF, goF, if_pos c11, if_pos c22, if_neg c33, if_neg c51])
          · skip
            exact absurd (by decide) c77
        · skip
          refine EV_aload_n dX6_startOrMissIfDue_54 rfl ?_
          refine ES_getf dX6_startOrMissIfDue_55 fkX6_100 hn (by assumption) rfl ?_
          refine EV_aload_n dX6_startOrMissIfDue_58 rfl ?_
          refine ES_getf dX6_startOrMissIfDue_59 fkX6_103 hn (by assumption) rfl ?_
          refine ES_callV dX6_startOrMissIfDue_62 mkX6_107 mfX4_first mvX4_first hn hF.2.1 rfl (sp_first z (k + 2) hF.2.1 hF.2.2) rfl rfl (Nat.le_of_ble_eq_true rfl) ?_
          refine EV_icmp_ne 72 dX6_startOrMissIfDue_65 (by decide) (fun c65 => ?_) (fun c65 => ?_)
          · skip
            refine EV_iconst (v := 0) dX6_startOrMissIfDue_72 (by decide) ?_
            refine EV_istore dX6_startOrMissIfDue_73 (Nat.le_of_ble_eq_true rfl) (Nat.le_of_ble_eq_true rfl) rfl ?_
            refine EV_iload dX6_startOrMissIfDue_75 rfl ?_
            refine EV_if_eq 95 dX6_startOrMissIfDue_77 (by decide) (fun c77 => ?_) (fun c77 => ?_)
            · skip
              refine EV_aload_n dX6_startOrMissIfDue_95 rfl ?_
              refine EV_iconst (v := 4) dX6_startOrMissIfDue_96 (by decide) ?_
              refine ES_put dX6_startOrMissIfDue_97 fkX6_86 hn (by assumption) (Nat.le_of_ble_eq_true rfl) (fun _ _ => rfl) rfl rfl ?_
              exact ES_vret dX6_startOrMissIfDue_100 rfl (by simp only [startF, startCF, goF, if_pos c11, if_pos c22, if_neg c33, if_pos c51, if_neg c65])
            · skip
              exact absurd (by decide) c77
          · skip
            refine EV_iconst (v := 1) dX6_startOrMissIfDue_68 (by decide) ?_
            refine EV_goto 73 dX6_startOrMissIfDue_69 (by decide) ?_
            refine EV_istore dX6_startOrMissIfDue_73 (Nat.le_of_ble_eq_true rfl) (Nat.le_of_ble_eq_true rfl) rfl ?_
            refine EV_iload dX6_startOrMissIfDue_75 rfl ?_
            refine EV_if_eq 95 dX6_startOrMissIfDue_77 (by decide) (fun c77 => ?_) (fun c77 => ?_)
            · skip
              exact absurd c77 (by decide)
            · skip
              refine EV_aload_n dX6_startOrMissIfDue_80 rfl ?_
              refine ES_getf dX6_startOrMissIfDue_81 fkX6_112 hn (by assumption) rfl ?_
              refine EV_iconst (v := 2) dX6_startOrMissIfDue_84 (by decide) ?_
              refine EV_icmp_lt 95 dX6_startOrMissIfDue_85 (by decide) (fun c85 => ?_) (fun c85 => ?_)
              · skip
                refine EV_aload_n dX6_startOrMissIfDue_95 rfl ?_
                refine EV_iconst (v := 4) dX6_startOrMissIfDue_96 (by decide) ?_
                refine ES_put dX6_startOrMissIfDue_97 fkX6_86 hn (by assumption) (Nat.le_of_ble_eq_true rfl) (fun _ _ => rfl) rfl rfl ?_
                exact ES_vret dX6_startOrMissIfDue_100 rfl (by simp only [startF, startCF, goF, if_pos c11, if_pos c22, if_neg c33, if_pos c51, if_pos c65, if_pos c85])
              · skip
                refine EV_aload_n dX6_startOrMissIfDue_88 rfl ?_
                refine ES_getf dX6_startOrMissIfDue_89 fkX6_115 hn (by assumption) rfl ?_
                refine EV_if_ne 101 dX6_startOrMissIfDue_92 (by decide) (fun c92 => ?_) (fun c92 => ?_)
                · skip
                  refine EV_aload_n dX6_startOrMissIfDue_101 rfl ?_
                  refine EV_iconst (v := 1) dX6_startOrMissIfDue_102 (by decide) ?_
                  refine ES_put dX6_startOrMissIfDue_103 fkX6_86 hn (by assumption) (Nat.le_of_ble_eq_true rfl) (fun _ _ => rfl) rfl rfl ?_
                  refine EV_aload_n dX6_startOrMissIfDue_106 rfl ?_
                  refine EV_iconst (v := 1) dX6_startOrMissIfDue_107 (by decide) ?_
                  refine ES_put dX6_startOrMissIfDue_108 fkX6_99 hn (by assumption) (Nat.le_of_ble_eq_true rfl) (fun _ _ => rfl) rfl rfl ?_
                  refine EV_aload_n dX6_startOrMissIfDue_111 rfl ?_
                  refine EV_iload_n dX6_startOrMissIfDue_112 rfl ?_
                  refine ES_put dX6_startOrMissIfDue_113 fkX6_119 hn (by assumption) (Nat.le_of_ble_eq_true rfl) (fun _ _ => rfl) rfl rfl ?_
                  refine EV_aload_n dX6_startOrMissIfDue_116 rfl ?_
                  refine EV_dup dX6_startOrMissIfDue_117 rfl ?_
                  refine ES_getf dX6_startOrMissIfDue_118 fkX6_112 hn (by assumption) rfl ?_
                  refine EV_iconst (v := 2) dX6_startOrMissIfDue_121 (by decide) ?_
                  refine EV_isub dX6_startOrMissIfDue_122 ?_
                  refine ES_put dX6_startOrMissIfDue_123 fkX6_112 hn (by assumption) (Nat.le_of_ble_eq_true rfl) (fun _ _ => rfl) rfl rfl ?_
                  refine EV_aload_n dX6_startOrMissIfDue_126 rfl ?_
                  refine EV_aload_n dX6_startOrMissIfDue_127 rfl ?_
                  refine ES_callV dX6_startOrMissIfDue_128 mkX6_122 mfX6_comeIn mvX6_comeIn hn (by assumption) rfl (sp_comeIn z k (hW.only ((((Only.rf.set (tch_f s hi12) _).set (tch_c s (vp_lt hin) (by omega)) _).set (tch_c s (vp_lt hin) (by omega)) _).set (tch_c s (vp_lt hin) (by omega)) _)) hC) rfl rfl (Nat.le_of_ble_eq_true rfl) ?_
                  exact ES_vret dX6_startOrMissIfDue_131 rfl (by simp only [startF, startCF, goF, if_pos c11, if_pos c22, if_neg c33, if_pos c51, if_pos c65, if_neg c85, if_neg c92])
                · skip
                  refine EV_aload_n dX6_startOrMissIfDue_95 rfl ?_
                  refine EV_iconst (v := 4) dX6_startOrMissIfDue_96 (by decide) ?_
                  refine ES_put dX6_startOrMissIfDue_97 fkX6_86 hn (by assumption) (Nat.le_of_ble_eq_true rfl) (fun _ _ => rfl) rfl rfl ?_
                  exact ES_vret dX6_startOrMissIfDue_100 rfl (by simp only [startF, startCF, goF, if_pos c11, if_pos c22, if_neg c33, if_pos c51, if_pos c65, if_neg c85, if_pos c92])
      · skip
        exact ES_vret dX6_startOrMissIfDue_36 rfl (by simp only [startF, startCF, goF, if_pos c11, if_pos c22, if_pos c33])
end
section
/-! moves -/
abbrev intoC (σ : qσ) (r : Nat) (nx : Int32) : Int32 := costF σ (dirF (σ r 8) nx)
def intoB (σ : qσ) (r : Nat) (nx : Int32) : Bool := if bI (isCellF nx) = 0 then false else if intoC σ r nx ≤ σ r 4 then true else false
def intoS (σ : qσ) (r fl : Nat) (nx : Int32) : qσ := if bI (isCellF nx) = 0 then sset (downF σ r) fl 2 6 else if intoC σ r nx ≤ σ r 4 then sset (sset σ r 4 (σ r 4 - intoC σ r nx)) r 8 nx else sset (downF σ r) fl 2 6
set_option maxHeartbeats 4000000 in
theorem sp_movesInto (z : qZ) (k : Nat) {σ : qσ} {s r fl : Nat} (hs : isSky s) (hr : isO 0 r) (hf : isO 1 fl) (nx : Int32) : SP z (k + 2) mX6_movesInto [.ref s, .ref r, .ref fl, .int nx] σ (some (.int (bI (intoB σ r nx)))) (intoS σ r fl nx) := by
  refine SP_of 1 (by decide) (Nat.le_of_ble_eq_true rfl) fun X n hn => ?_
  have hO := o_sky hs
  refine EV_aload_n dX6_movesInto_0 rfl ?_
  refine ES_getf dX6_movesInto_1 fkX6_27 hn (by assumption) rfl ?_
  refine EV_aload_n dX6_movesInto_4 rfl ?_
  refine ES_getf dX6_movesInto_5 fkX6_100 hn (by assumption) rfl ?_
  refine EV_iload_n dX6_movesInto_8 rfl ?_
  refine ES_callS dX6_movesInto_9 mkX6_145 mfX2_directionTo msX2_directionTo hn (sp_directionTo z k _ _) rfl rfl (Nat.le_of_ble_eq_true rfl) ?_
  refine ES_callV dX6_movesInto_12 mkX6_151 mfX2_costOfMove mvX2_costOfMove hn o_ground rfl (sp_costOfMove z k _) rfl rfl (Nat.le_of_ble_eq_true rfl) ?_
  refine EV_istore dX6_movesInto_15 (Nat.le_of_ble_eq_true rfl) (Nat.le_of_ble_eq_true rfl) rfl ?_
  refine EV_iload_n dX6_movesInto_17 rfl ?_
  refine ES_callS dX6_movesInto_18 mkX6_154 mfX8_isCell msX8_isCell hn (sp_isCell z (k + 1) _) rfl rfl (Nat.le_of_ble_eq_true rfl) ?_
  refine EV_if_eq 33 dX6_movesInto_21 (by decide) (fun c21 => ?_) (fun c21 => ?_)
  · skip
    refine EV_aload_n dX6_movesInto_33 rfl ?_
    refine ES_callV dX6_movesInto_34 mkX6_157 mfX0_goDown mvX0_goDown hn (by assumption) rfl (sp_goDown z (k + 1) hr) rfl rfl (Nat.le_of_ble_eq_true rfl) ?_
    refine EV_aload_n dX6_movesInto_37 rfl ?_
    refine EV_bipush (v := 6) dX6_movesInto_38 (by decide) ?_
    refine ES_put dX6_movesInto_40 fkX6_86 hn (by assumption) (Nat.le_of_ble_eq_true rfl) (fun _ _ => rfl) rfl rfl ?_
    refine EV_iconst (v := 0) dX6_movesInto_43 (by decide) ?_
    exact ES_iret dX6_movesInto_44 rfl rfl (by simp only [intoB, if_pos c21]; try rfl) (by simp only [intoS, if_pos c21])
  · skip
    refine EV_iload dX6_movesInto_24 rfl ?_
    refine EV_aload_n dX6_movesInto_26 rfl ?_
    refine ES_getf dX6_movesInto_27 fkX6_112 hn (by assumption) rfl ?_
    refine EV_icmp_le 45 dX6_movesInto_30 (by decide) (fun c30 => ?_) (fun c30 => ?_)
    · skip
      refine EV_aload_n dX6_movesInto_45 rfl ?_
      refine EV_dup dX6_movesInto_46 rfl ?_
      refine ES_getf dX6_movesInto_47 fkX6_112 hn (by assumption) rfl ?_
      refine EV_iload dX6_movesInto_50 rfl ?_
      refine EV_isub dX6_movesInto_52 ?_
      refine ES_put dX6_movesInto_53 fkX6_112 hn (by assumption) (Nat.le_of_ble_eq_true rfl) (fun _ _ => rfl) rfl rfl ?_
      refine EV_aload_n dX6_movesInto_56 rfl ?_
      refine EV_iload_n dX6_movesInto_57 rfl ?_
      refine ES_put dX6_movesInto_58 fkX6_100 hn (by assumption) (Nat.le_of_ble_eq_true rfl) (fun _ _ => rfl) rfl rfl ?_
      refine EV_iconst (v := 1) dX6_movesInto_61 (by decide) ?_
      exact ES_iret dX6_movesInto_62 rfl rfl (by simp only [intoB, if_neg c21, if_pos c30]; try rfl) (by simp only [intoS, if_neg c21, if_pos c30])
    · skip
      refine EV_aload_n dX6_movesInto_33 rfl ?_
      refine ES_callV dX6_movesInto_34 mkX6_157 mfX0_goDown mvX0_goDown hn (by assumption) rfl (sp_goDown z (k + 1) hr) rfl rfl (Nat.le_of_ble_eq_true rfl) ?_
      refine EV_aload_n dX6_movesInto_37 rfl ?_
      refine EV_bipush (v := 6) dX6_movesInto_38 (by decide) ?_
      refine ES_put dX6_movesInto_40 fkX6_86 hn (by assumption) (Nat.le_of_ble_eq_true rfl) (fun _ _ => rfl) rfl rfl ?_
      refine EV_iconst (v := 0) dX6_movesInto_43 (by decide) ?_
      exact ES_iret dX6_movesInto_44 rfl rfl (by simp only [intoB, if_neg c21, if_neg c30]; try rfl) (by simp only [intoS, if_neg c21, if_neg c30])
theorem down_only {σ : qσ} {s t : Nat} (ht : t < 6) : Only s σ (downF σ (s + 4 + t)) := ((Only.rf.set (tch_c s ht (by omega)) _).set (tch_c s ht (by omega)) _).set (tch_c s ht (by omega)) _
theorem land_only {σ : qσ} {s t : Nat} (ht : t < 6) (m : Int32) : Only s σ (landF σ (s + 4 + t) m) := ((Only.rf.set (tch_c s ht (by omega)) _).set (tch_c s ht (by omega)) _).set (tch_c s ht (by omega)) _
theorem into_only {σ : qσ} {s t i : Nat} (ht : t < 6) (hi : i < 12) (nx : Int32) : Only s σ (intoS σ (s + 4 + t) (s + 10 + 3 * i) nx) := by
  unfold intoS
  refine Only.if (fun _ => (down_only ht).set (tch_f s hi) _) (fun _ => Only.if (fun _ => ?_) (fun _ => (down_only ht).set (tch_f s hi) _))
  exact (Only.rf.set (tch_c s ht (by omega)) _).set (tch_c s ht (by omega)) _
def mv128F (σ : qσ) (s r fl : Nat) (gh : Bool) (pl : Int32) : qσ := if bI gh = 0 then (if pl = σ (fl + 1) 1 - 1 then sset (landF σ r (σ s 8)) fl 2 2 else σ) else σ
def mv105F (σ : qσ) (s r fl : Nat) (gh : Bool) (pl : Int32) : qσ := if bI gh = 0 then mv128F σ s r fl gh pl else if σ r 8 = σ r 2 then mv128F (landF σ r (σ s 8)) s r fl gh pl else mv128F σ s r fl gh pl
def mv79F (σ : qσ) (s r fl zc : Nat) (gh : Bool) (pl nx : Int32) : qσ := if nx = σ r 8 then mv105F σ s r fl gh pl else if bI (intoB σ r nx) = 0 then intoS σ r fl nx else mv105F (comeInF (intoS σ r fl nx) s r zc) s r fl gh pl
def mv44F (σ : qσ) (s r fl zc : Nat) (gh : Bool) : qσ := if bI gh = 0 then mv79F σ s r fl zc gh ((σ s 8 - σ fl 1) / 2) (atF σ (fl + 1) ((σ s 8 - σ fl 1) / 2)) else mv79F σ s r fl zc gh ((σ s 8 - σ fl 1) / 2) (homeF (σ r))
def mv30F (σ : qσ) (s r fl zc : Nat) : qσ := if σ fl 2 = 5 then mv44F σ s r fl zc true else mv44F σ s r fl zc false
def moveFl (σ : qσ) (s r fl zc : Nat) : qσ := if σ fl 2 = 1 then (if σ r 6 = 0 then mv30F (sset σ fl 2 5) s r fl zc else mv30F σ s r fl zc) else mv30F σ s r fl zc
def moveF (σ : qσ) (s r zc : Nat) : qσ := moveFl σ s r (s + 10 + 3 * (σ r 9).toNatClampNeg) zc
end
section
section Mv
variable {z : qZ} {k : Nat} {s cc fc zc t i : Nat} {X : qM} {n : Nat}
set_option maxHeartbeats 4000000 in
theorem mv128 (hn : 112 ≤ n) (hs : isSky s) (ht : t < 6) (hi : i < 12) {σ : qσ} (gh : Bool) (pl : Int32) (w5 : Value) : EV z (k + 3) mX6_move 128 [.ref s, .ref (s + 4 + t), .ref (s + 10 + 3 * i), .int (bI gh), .int pl, w5] [] (mm σ X) n 0 0 (qRes none (mm (mv128F σ s (s + 4 + t) (s + 10 + 3 * i) gh pl) X) n) := by
  have hO := o_sky hs
  have hC := o_craft hs ht
  have hF := fl_of hs hi
  have hFO := hF.1
  have hRO := hF.2.1
  refine EV_iload_n dX6_move_128 rfl ?_
  refine EV_if_ne 159 dX6_move_129 (by decide) (fun c129 => ?_) (fun c129 => ?_)
  · skip
    exact ES_vret dX6_move_159 rfl (by simp only [mv128F, if_neg c129])
  · skip
    refine EV_iload dX6_move_132 rfl ?_
    refine EV_aload_n dX6_move_134 rfl ?_
    refine ES_getf dX6_move_135 fkX6_103 hn (by assumption) rfl ?_
    refine ES_getf dX6_move_138 fkX6_142 hn (by assumption) rfl ?_
    refine EV_iconst (v := 1) dX6_move_141 (by decide) ?_
    refine EV_isub dX6_move_142 ?_
    refine EV_icmp_ne 159 dX6_move_143 (by decide) (fun c143 => ?_) (fun c143 => ?_)
    · skip
      exact ES_vret dX6_move_159 rfl (by simp only [mv128F, if_pos c129, if_neg c143])
    · skip
      refine EV_aload_n dX6_move_146 rfl ?_
      refine EV_aload_n dX6_move_147 rfl ?_
      refine ES_getf dX6_move_148 fkX6_59 hn (by assumption) rfl ?_
      refine ES_callV dX6_move_151 mkX6_139 mfX0_landAt mvX0_landAt hn (by assumption) rfl (sp_landAt z (k + 2) hC _) rfl rfl (Nat.le_of_ble_eq_true rfl) ?_
      refine EV_aload_n dX6_move_154 rfl ?_
      refine EV_iconst (v := 2) dX6_move_155 (by decide) ?_
      refine ES_put dX6_move_156 fkX6_86 hn (by assumption) (Nat.le_of_ble_eq_true rfl) (fun _ _ => rfl) rfl rfl ?_
      exact ES_vret dX6_move_159 rfl (by simp only [mv128F, if_pos c129, if_pos c143])
set_option maxHeartbeats 4000000 in
theorem mv105 (hn : 112 ≤ n) (hs : isSky s) (ht : t < 6) (hi : i < 12) {σ : qσ} (gh : Bool) (pl : Int32) (w5 : Value) : EV z (k + 3) mX6_move 105 [.ref s, .ref (s + 4 + t), .ref (s + 10 + 3 * i), .int (bI gh), .int pl, w5] [] (mm σ X) n 0 0 (qRes none (mm (mv105F σ s (s + 4 + t) (s + 10 + 3 * i) gh pl) X) n) := by
  have hO := o_sky hs
  have hC := o_craft hs ht
  refine EV_iload_n dX6_move_105 rfl ?_
  refine EV_if_eq 128 dX6_move_106 (by decide) (fun c106 => ?_) (fun c106 => ?_)
  · skip
    simp only [mv105F, if_pos c106]
    exact mv128 hn hs ht hi gh pl w5
  · skip
    refine EV_aload_n dX6_move_109 rfl ?_
    refine ES_getf dX6_move_110 fkX6_100 hn (by assumption) rfl ?_
    refine EV_aload_n dX6_move_113 rfl ?_
    refine ES_getf dX6_move_114 fkX6_136 hn (by assumption) rfl ?_
    refine EV_icmp_ne 128 dX6_move_117 (by decide) (fun c117 => ?_) (fun c117 => ?_)
    · skip
      simp only [mv105F, if_neg c106, if_neg c117]
      exact mv128 hn hs ht hi gh pl w5
    · skip
      refine EV_aload_n dX6_move_120 rfl ?_
      refine EV_aload_n dX6_move_121 rfl ?_
      refine ES_getf dX6_move_122 fkX6_59 hn (by assumption) rfl ?_
      refine ES_callV dX6_move_125 mkX6_139 mfX0_landAt mvX0_landAt hn (by assumption) rfl (sp_landAt z (k + 2) hC _) rfl rfl (Nat.le_of_ble_eq_true rfl) ?_
      simp only [mv105F, if_neg c106, if_pos c117]
      exact mv128 hn hs ht hi gh pl w5
set_option maxHeartbeats 4000000 in
theorem mv79 (hn : 112 ≤ n) (ht : t < 6) (hi : i < 12) {σ : qσ} (hW : WF σ s cc fc zc) (gh : Bool) (pl nx : Int32) : EV z (k + 3) mX6_move 79 [.ref s, .ref (s + 4 + t), .ref (s + 10 + 3 * i), .int (bI gh), .int pl, .int nx] [] (mm σ X) n 0 0 (qRes none (mm (mv79F σ s (s + 4 + t) (s + 10 + 3 * i) zc gh pl nx) X) n) := by
  have hs := hW.1
  have hO := o_sky hs
  have hC := o_craft hs ht
  have hF := fl_of hs hi
  refine EV_iload dX6_move_79 rfl ?_
  refine EV_aload_n dX6_move_81 rfl ?_
  refine ES_getf dX6_move_82 fkX6_100 hn (by assumption) rfl ?_
  refine EV_icmp_eq 105 dX6_move_85 (by decide) (fun c85 => ?_) (fun c85 => ?_)
  · skip
    simp only [mv79F, if_pos c85]
    exact mv105 hn hs ht hi gh pl _
  · skip
    refine EV_aload_n dX6_move_88 rfl ?_
    refine EV_aload_n dX6_move_89 rfl ?_
    refine EV_aload_n dX6_move_90 rfl ?_
    refine EV_iload dX6_move_91 rfl ?_
    refine ES_callV dX6_move_93 mkX6_132 mfX6_movesInto mvX6_movesInto hn (by assumption) rfl (sp_movesInto z k hs hC hF.1 nx) rfl rfl (Nat.le_of_ble_eq_true rfl) ?_
    refine EV_if_ne 100 dX6_move_96 (by decide) (fun c96 => ?_) (fun c96 => ?_)
    · skip
      refine EV_aload_n dX6_move_100 rfl ?_
      refine EV_aload_n dX6_move_101 rfl ?_
      refine ES_callV dX6_move_102 mkX6_122 mfX6_comeIn mvX6_comeIn hn (by assumption) rfl (sp_comeIn z k (hW.only (into_only ht hi nx)) hC) rfl rfl (Nat.le_of_ble_eq_true rfl) ?_
      simp only [mv79F, if_neg c85, if_neg c96]
      exact mv105 hn hs ht hi gh pl _
    · skip
      exact ES_vret dX6_move_99 rfl (by simp only [mv79F, if_neg c85, if_pos c96])
set_option maxHeartbeats 4000000 in
theorem mv44 (hn : 112 ≤ n) (ht : t < 6) (hi : i < 12) {σ : qσ} (hW : WF σ s cc fc zc) (gh : Bool) (w4 w5 : Value) (h4 : w4.category = 1) (h5 : w5.category = 1) : EV z (k + 3) mX6_move 44 [.ref s, .ref (s + 4 + t), .ref (s + 10 + 3 * i), .int (bI gh), w4, w5] [] (mm σ X) n 0 0 (qRes none (mm (mv44F σ s (s + 4 + t) (s + 10 + 3 * i) zc gh) X) n) := by
  have hs := hW.1
  have hO := o_sky hs
  have hC := o_craft hs ht
  have hF := fl_of hs hi
  have hFO := hF.1
  have hRO := hF.2.1
  refine EV_aload_n dX6_move_44 rfl ?_
  refine ES_getf dX6_move_45 fkX6_59 hn (by assumption) rfl ?_
  refine EV_aload_n dX6_move_48 rfl ?_
  refine ES_getf dX6_move_49 fkX6_89 hn (by assumption) rfl ?_
  refine EV_isub dX6_move_52 ?_
  refine EV_iconst (v := 2) dX6_move_53 (by decide) ?_
  refine EV_idiv dX6_move_54 (by decide) ?_
  refine EV_istore dX6_move_55 (Nat.le_of_ble_eq_true rfl) (Nat.le_of_ble_eq_true rfl) rfl ?_
  refine EV_iload_n dX6_move_57 rfl ?_
  refine EV_if_eq 68 dX6_move_58 (by decide) (fun c58 => ?_) (fun c58 => ?_)
  · skip
    refine EV_aload_n dX6_move_68 rfl ?_
    refine ES_getf dX6_move_69 fkX6_103 hn (by assumption) rfl ?_
    refine EV_iload dX6_move_72 rfl ?_
    refine ES_callV dX6_move_74 mkX6_128 mfX4_at mvX4_at hn (by assumption) rfl (sp_at z (k + 2) hF.2.1 hF.2.2 _) rfl rfl (Nat.le_of_ble_eq_true rfl) ?_
    refine EV_istore dX6_move_77 (Nat.le_of_ble_eq_true rfl) (Nat.le_of_ble_eq_true rfl) rfl ?_
    simp only [mv44F, if_pos c58]
    exact mv79 hn ht hi hW gh _ _
  · skip
    refine EV_aload_n dX6_move_61 rfl ?_
    refine ES_callV dX6_move_62 mkX6_125 mfX0_nextCellHome mvX0_nextCellHome hn (by assumption) rfl (sp_nextHome z (k + 2) hC) rfl rfl (Nat.le_of_ble_eq_true rfl) ?_
    refine EV_goto 77 dX6_move_65 (by decide) ?_
    refine EV_istore dX6_move_77 (Nat.le_of_ble_eq_true rfl) (Nat.le_of_ble_eq_true rfl) rfl ?_
    simp only [mv44F, if_neg c58]
    exact mv79 hn ht hi hW gh _ _
set_option maxHeartbeats 4000000 in
theorem mv30 (hn : 112 ≤ n) (ht : t < 6) (hi : i < 12) {σ : qσ} (hW : WF σ s cc fc zc) (w3 w4 w5 : Value) (h3 : w3.category = 1) (h4 : w4.category = 1) (h5 : w5.category = 1) : EV z (k + 3) mX6_move 30 [.ref s, .ref (s + 4 + t), .ref (s + 10 + 3 * i), w3, w4, w5] [] (mm σ X) n 0 0 (qRes none (mm (mv30F σ s (s + 4 + t) (s + 10 + 3 * i) zc) X) n) := by
  have hs := hW.1
  have hO := o_sky hs
  have hFO := (fl_of hs hi).1
  refine EV_aload_n dX6_move_30 rfl ?_
  refine ES_getf dX6_move_31 fkX6_86 hn (by assumption) rfl ?_
  refine EV_iconst (v := 5) dX6_move_34 (by decide) ?_
  refine EV_icmp_ne 42 dX6_move_35 (by decide) (fun c35 => ?_) (fun c35 => ?_)
  · skip
    refine EV_iconst (v := 0) dX6_move_42 (by decide) ?_
    refine EV_istore_n dX6_move_43 (Nat.le_of_ble_eq_true rfl) (Nat.le_of_ble_eq_true rfl) rfl ?_
    simp only [mv30F, if_neg c35]
    exact mv44 hn ht hi hW false _ _ h4 h5
  · skip
    refine EV_iconst (v := 1) dX6_move_38 (by decide) ?_
    refine EV_goto 43 dX6_move_39 (by decide) ?_
    refine EV_istore_n dX6_move_43 (Nat.le_of_ble_eq_true rfl) (Nat.le_of_ble_eq_true rfl) rfl ?_
    simp only [mv30F, if_pos c35]
    exact mv44 hn ht hi hW true _ _ h4 h5
end Mv
end
section
set_option maxHeartbeats 4000000 in
theorem sp_move (z : qZ) (k : Nat) {σ : qσ} {s cc fc zc t : Nat} (hW : WF σ s cc fc zc) (ht : t < 6) (hin : vp_in (σ (s + 4 + t) 9) fc) : SP z (k + 3) mX6_move [.ref s, .ref (s + 4 + t)] σ none (moveF σ s (s + 4 + t) zc) := by
  refine SP_of 4 (by decide) (Nat.le_of_ble_eq_true rfl) fun X n hn => ?_
  have hs := hW.1
  have hO := o_sky hs
  have hC := o_craft hs ht
  have hin12 := vp_mono hin hW.2.2.1.2
  have hi := vp_lt hin12
  have hFO := (fl_of hs hi).1
  refine EV_aload_n dX6_move_0 rfl ?_
  refine ES_getf dX6_move_1 fkX6_19 hn (by assumption) rfl ?_
  refine EV_aload_n dX6_move_4 rfl ?_
  refine ES_getf dX6_move_5 fkX6_119 hn (by assumption) rfl ?_
  refine ES_aaldF' hs dX6_move_8 hn hin12 ?_
  refine EV_astore_n dX6_move_9 (Nat.le_of_ble_eq_true rfl) (Nat.le_of_ble_eq_true rfl) rfl ?_
  refine EV_aload_n dX6_move_10 rfl ?_
  refine ES_getf dX6_move_11 fkX6_86 hn (by assumption) rfl ?_
  refine EV_iconst (v := 1) dX6_move_14 (by decide) ?_
  refine EV_icmp_ne 30 dX6_move_15 (by decide) (fun c15 => ?_) (fun c15 => ?_)
  · skip
    simp only [moveF, moveFl, if_neg c15]
    exact mv30 hn ht hi hW _ _ _ rfl rfl rfl
  · skip
    refine EV_aload_n dX6_move_18 rfl ?_
    refine ES_getf dX6_move_19 fkX6_115 hn (by assumption) rfl ?_
    refine EV_if_ne 30 dX6_move_22 (by decide) (fun c22 => ?_) (fun c22 => ?_)
    · skip
      simp only [moveF, moveFl, if_pos c15, if_neg c22]
      exact mv30 hn ht hi hW _ _ _ rfl rfl rfl
    · skip
      refine EV_aload_n dX6_move_25 rfl ?_
      refine EV_iconst (v := 5) dX6_move_26 (by decide) ?_
      refine ES_put dX6_move_27 fkX6_86 hn (by assumption) (Nat.le_of_ble_eq_true rfl) (fun _ _ => rfl) rfl rfl ?_
      simp only [moveF, moveFl, if_pos c15, if_pos c22]
      exact mv30 hn ht hi (hW.only (Only.rf.set (tch_f s hi) _)) _ _ _ rfl rfl rfl
end
section
/-! ===== the sky: minutes ===== -/
section Mv2
variable {s t i zc : Nat}
theorem mv128_only {σ : qσ} (ht : t < 6) (hi : i < 12) (gh : Bool) (pl : Int32) : Only s σ (mv128F σ s (s + 4 + t) (s + 10 + 3 * i) gh pl) := by
  unfold mv128F
  exact Only.if (fun _ => Only.if (fun _ => (land_only ht _).set (tch_f s hi) _) (fun _ => Only.rf)) (fun _ => Only.rf)
theorem mv105_only {σ : qσ} (ht : t < 6) (hi : i < 12) (gh : Bool) (pl : Int32) : Only s σ (mv105F σ s (s + 4 + t) (s + 10 + 3 * i) gh pl) := by
  unfold mv105F
  exact Only.if (fun _ => mv128_only ht hi gh pl) (fun _ => Only.if (fun _ => (land_only ht _).tr (mv128_only ht hi gh pl)) (fun _ => mv128_only ht hi gh pl))
theorem mv79_only {σ : qσ} (ht : t < 6) (hi : i < 12) (gh : Bool) (pl nx : Int32) : Only s σ (mv79F σ s (s + 4 + t) (s + 10 + 3 * i) zc gh pl nx) := by
  unfold mv79F
  exact Only.if (fun _ => mv105_only ht hi gh pl) (fun _ => Only.if (fun _ => into_only ht hi nx) (fun _ => ((into_only ht hi nx).tr (comeIn_only ht)).tr (mv105_only ht hi gh pl)))
theorem mv44_only {σ : qσ} (ht : t < 6) (hi : i < 12) (gh : Bool) : Only s σ (mv44F σ s (s + 4 + t) (s + 10 + 3 * i) zc gh) := by
  unfold mv44F
  exact Only.if (fun _ => mv79_only ht hi gh _ _) (fun _ => mv79_only ht hi gh _ _)
theorem mv30_only {σ : qσ} (ht : t < 6) (hi : i < 12) : Only s σ (mv30F σ s (s + 4 + t) (s + 10 + 3 * i) zc) := by
  unfold mv30F
  exact Only.if (fun _ => mv44_only ht hi true) (fun _ => mv44_only ht hi false)
theorem move_only {σ : qσ} (ht : t < 6) (hi : (σ (s + 4 + t) 9).toNatClampNeg < 12) : Only s σ (moveF σ s (s + 4 + t) zc) := by
  unfold moveF moveFl
  exact Only.if (fun _ => Only.if (fun _ => (Only.rf.set (tch_f s hi) _).tr (mv30_only ht hi)) (fun _ => mv30_only ht hi)) (fun _ => mv30_only ht hi)
end Mv2
def toMoveF (σ : qσ) (s r : Nat) : Bool :=
  if σ r 7 = 1 then (if σ r 9 < 0 then false else if σ r 9 < σ s 4 then
    (if σ s 8 - σ (s + 10 + 3 * (σ r 9).toNatClampNeg) 1 < 2 then false
     else if (σ s 8 - σ (s + 10 + 3 * (σ r 9).toNatClampNeg) 1) - (σ s 8 - σ (s + 10 + 3 * (σ r 9).toNatClampNeg) 1) / 2 * 2 = 0 then true else false) else false) else false
set_option maxHeartbeats 4000000 in
theorem sp_isToMove (z : qZ) (k : Nat) {σ : qσ} {s cc fc zc r : Nat} (hW : WF σ s cc fc zc) (hr : isO 0 r) : SP z k mX6_isToMove [.ref s, .ref r] σ (some (.int (bI (toMoveF σ s r)))) σ := by
  refine SP_of 1 (by decide) (Nat.le_of_ble_eq_true rfl) fun X n hn => ?_
  have hs := hW.1
  have hO := o_sky hs
  refine EV_aload_n dX6_isToMove_0 rfl ?_
  refine ES_getf dX6_isToMove_1 fkX6_99 hn (by assumption) rfl ?_
  refine EV_iconst (v := 1) dX6_isToMove_4 (by decide) ?_
  refine EV_icmp_ne 26 dX6_isToMove_5 (by decide) (fun c5 => ?_) (fun c5 => ?_)
  · skip
    refine EV_iconst (v := 0) dX6_isToMove_26 (by decide) ?_
    exact ES_iret dX6_isToMove_27 rfl rfl (by simp only [toMoveF, if_neg c5]; try rfl) rfl
  · skip
    refine EV_aload_n dX6_isToMove_8 rfl ?_
    refine ES_getf dX6_isToMove_9 fkX6_119 hn (by assumption) rfl ?_
    refine EV_if_lt 26 dX6_isToMove_12 (by decide) (fun c12 => ?_) (fun c12 => ?_)
    · skip
      refine EV_iconst (v := 0) dX6_isToMove_26 (by decide) ?_
      exact ES_iret dX6_isToMove_27 rfl rfl (by simp only [toMoveF, if_pos c5, if_pos c12]; try rfl) rfl
    · skip
      refine EV_aload_n dX6_isToMove_15 rfl ?_
      refine ES_getf dX6_isToMove_16 fkX6_119 hn (by assumption) rfl ?_
      refine EV_aload_n dX6_isToMove_19 rfl ?_
      refine ES_getf dX6_isToMove_20 fkX6_41 hn (by assumption) rfl ?_
      refine EV_icmp_lt 28 dX6_isToMove_23 (by decide) (fun c23 => ?_) (fun c23 => ?_)
      · skip
        have hin := vp_mono (vp_in_z c12 (by rw [← hW.2.2.1.1]; exact c23) (by have := hW.2.2.1.2; omega)) hW.2.2.1.2
        have hFO := (fl_of hs (vp_lt hin)).1
        refine EV_aload_n dX6_isToMove_28 rfl ?_
        refine ES_getf dX6_isToMove_29 fkX6_59 hn (by assumption) rfl ?_
        refine EV_aload_n dX6_isToMove_32 rfl ?_
        refine ES_getf dX6_isToMove_33 fkX6_19 hn (by assumption) rfl ?_
        refine EV_aload_n dX6_isToMove_36 rfl ?_
        refine ES_getf dX6_isToMove_37 fkX6_119 hn (by assumption) rfl ?_
        refine ES_aaldF' hs dX6_isToMove_40 hn hin ?_
        refine ES_getf dX6_isToMove_41 fkX6_89 hn (by assumption) rfl ?_
        refine EV_isub dX6_isToMove_44 ?_
        refine EV_istore_n dX6_isToMove_45 (Nat.le_of_ble_eq_true rfl) (Nat.le_of_ble_eq_true rfl) rfl ?_
        refine EV_iload_n dX6_isToMove_46 rfl ?_
        refine EV_iconst (v := 2) dX6_isToMove_47 (by decide) ?_
        refine EV_icmp_lt 61 dX6_isToMove_48 (by decide) (fun c48 => ?_) (fun c48 => ?_)
        · skip
          refine EV_iconst (v := 0) dX6_isToMove_61 (by decide) ?_
          exact ES_iret dX6_isToMove_62 rfl rfl (by simp only [toMoveF, if_pos c5, if_neg c12, if_pos c23, if_pos c48]; try rfl) rfl
        · skip
          refine EV_iload_n dX6_isToMove_51 rfl ?_
          refine EV_iconst (v := 2) dX6_isToMove_52 (by decide) ?_
          refine EV_irem dX6_isToMove_53 (by decide) ?_
          refine EV_if_ne 61 dX6_isToMove_54 (by decide) (fun c54 => ?_) (fun c54 => ?_)
          · skip
            refine EV_iconst (v := 0) dX6_isToMove_61 (by decide) ?_
            exact ES_iret dX6_isToMove_62 rfl rfl (by simp only [toMoveF, if_pos c5, if_neg c12, if_pos c23, if_neg c48, if_neg c54]; try rfl) rfl
          · skip
            refine EV_iconst (v := 1) dX6_isToMove_57 (by decide) ?_
            refine EV_goto 62 dX6_isToMove_58 (by decide) ?_
            exact ES_iret dX6_isToMove_62 rfl rfl (by simp only [toMoveF, if_pos c5, if_neg c12, if_pos c23, if_neg c48, if_pos c54]; try rfl) rfl
      · skip
        refine EV_iconst (v := 0) dX6_isToMove_26 (by decide) ?_
        exact ES_iret dX6_isToMove_27 rfl rfl (by simp only [toMoveF, if_pos c5, if_neg c12, if_neg c23]; try rfl) rfl
theorem toMove_in {σ : qσ} {s cc fc zc r : Nat} (hW : WF σ s cc fc zc) (h : ¬ bI (toMoveF σ s r) = 0) : vp_in (σ r 9) fc := by
  unfold toMoveF at h
  by_cases h1 : σ r 7 = 1
  · rw [if_pos h1] at h
    by_cases h2 : σ r 9 < 0
    · rw [if_pos h2] at h; exact absurd rfl h
    · rw [if_neg h2] at h
      by_cases h3 : σ r 9 < σ s 4
      · rw [hW.2.2.1.1] at h3
        exact vp_in_z h2 h3 (by have := hW.2.2.1.2; omega)
      · rw [if_neg h3] at h; exact absurd rfl h
  · rw [if_neg h1] at h; exact absurd rfl h
def pairInL (σ : qσ) (s i : Nat) : Nat → Nat → Int32 → Int32
  | 0, _, a => a
  | j + 1, t, a => if σ (s + 4 + i) 7 = 1 then (if σ (s + 4 + t) 7 = 1 then (if σ (s + 4 + i) 8 = σ (s + 4 + t) 8 then pairInL σ s i j (t + 1) (a + 1) else pairInL σ s i j (t + 1) a) else pairInL σ s i j (t + 1) a) else pairInL σ s i j (t + 1) a
def pairL (σ : qσ) (s cc : Nat) : Nat → Nat → Int32 → Int32
  | 0, _, a => a
  | j + 1, i, a => pairL σ s cc j (i + 1) (pairInL σ s i j (i + 1) a)
set_option maxHeartbeats 4000000 in
theorem lp_pairIn (z : qZ) (k : Nat) {σ : qσ} {s cc fc zc i : Nat} (hW : WF σ s cc fc zc) (hi : i < 6) {X : qM} {n : Nat} (hn : 112 ≤ n) {Q : qQ} : ∀ (j t : Nat) (a : Int32), t + j = cc →
    EV z k mX6_pairsNear 80 [.ref s, .int (pairInL σ s i j t a), .int (nI i), .int (nI cc)] [] (mm σ X) n 0 0 Q → EV z k mX6_pairsNear 16 [.ref s, .int a, .int (nI i), .int (nI t)] [] (mm σ X) n 0 0 Q := by
  have hs := hW.1
  have hO := o_sky hs
  have hC := o_craft hs hi
  have hc := hW.2.1.1
  have hc6 := hW.2.1.2
  intro j
  induction j with
  | zero =>
    intro t a ht kk
    refine EV_iload_n dX6_pairsNear_16 rfl ?_
    refine EV_aload_n dX6_pairsNear_17 rfl ?_
    refine ES_getf dX6_pairsNear_18 fkX6_33 hn (by assumption) rfl ?_
    refine EV_icmp_ge 80 dX6_pairsNear_21 (by decide) (fun c21 => ?_) (fun c21 => ?_)
    · skip
      rw [show t = cc by omega]; exact kk
    · skip
      exact absurd (by rw [hc]; exact nI_le (by omega) (by omega)) c21
  | succ j ih =>
    intro t a ht kk
    have hC2 := o_craft hs (show t < 6 by omega)
    refine EV_iload_n dX6_pairsNear_16 rfl ?_
    refine EV_aload_n dX6_pairsNear_17 rfl ?_
    refine ES_getf dX6_pairsNear_18 fkX6_33 hn (by assumption) rfl ?_
    refine EV_icmp_ge 80 dX6_pairsNear_21 (by decide) (fun c21 => ?_) (fun c21 => ?_)
    · skip
      exact absurd c21 (by rw [hc]; exact nI_ge (by omega) (by omega))
    · skip
      refine EV_aload_n dX6_pairsNear_24 rfl ?_
      refine ES_getf dX6_pairsNear_25 fkX6_11 hn (by assumption) rfl ?_
      refine EV_iload_n dX6_pairsNear_28 rfl ?_
      refine ES_aaldC hs dX6_pairsNear_29 hn hi ?_
      refine ES_getf dX6_pairsNear_30 fkX6_99 hn (by assumption) rfl ?_
      refine EV_iconst (v := 1) dX6_pairsNear_33 (by decide) ?_
      refine EV_icmp_ne 74 dX6_pairsNear_34 (by decide) (fun c34 => ?_) (fun c34 => ?_)
      · skip
        refine EV_iinc dX6_pairsNear_74 rfl (Nat.le_of_ble_eq_true rfl) rfl ?_
        refine EV_goto 16 dX6_pairsNear_77 (by decide) ?_
        rw [show nI t + Int32.ofInt 1 = nI (t + 1) from (nI_succ t).symm]
        simp only [pairInL, if_neg c21, if_neg c34] at kk
        exact ih (t + 1) _ (by omega) kk
      · skip
        refine EV_aload_n dX6_pairsNear_37 rfl ?_
        refine ES_getf dX6_pairsNear_38 fkX6_11 hn (by assumption) rfl ?_
        refine EV_iload_n dX6_pairsNear_41 rfl ?_
        refine ES_aaldC hs dX6_pairsNear_42 hn (by omega) ?_
        refine ES_getf dX6_pairsNear_43 fkX6_99 hn (by assumption) rfl ?_
        refine EV_iconst (v := 1) dX6_pairsNear_46 (by decide) ?_
        refine EV_icmp_ne 74 dX6_pairsNear_47 (by decide) (fun c47 => ?_) (fun c47 => ?_)
        · skip
          refine EV_iinc dX6_pairsNear_74 rfl (Nat.le_of_ble_eq_true rfl) rfl ?_
          refine EV_goto 16 dX6_pairsNear_77 (by decide) ?_
          rw [show nI t + Int32.ofInt 1 = nI (t + 1) from (nI_succ t).symm]
          simp only [pairInL, if_neg c21, if_pos c34, if_neg c47] at kk
          exact ih (t + 1) _ (by omega) kk
        · skip
          refine EV_aload_n dX6_pairsNear_50 rfl ?_
          refine ES_getf dX6_pairsNear_51 fkX6_11 hn (by assumption) rfl ?_
          refine EV_iload_n dX6_pairsNear_54 rfl ?_
          refine ES_aaldC hs dX6_pairsNear_55 hn hi ?_
          refine ES_getf dX6_pairsNear_56 fkX6_100 hn (by assumption) rfl ?_
          refine EV_aload_n dX6_pairsNear_59 rfl ?_
          refine ES_getf dX6_pairsNear_60 fkX6_11 hn (by assumption) rfl ?_
          refine EV_iload_n dX6_pairsNear_63 rfl ?_
          refine ES_aaldC hs dX6_pairsNear_64 hn (by omega) ?_
          refine ES_getf dX6_pairsNear_65 fkX6_100 hn (by assumption) rfl ?_
          refine EV_icmp_ne 74 dX6_pairsNear_68 (by decide) (fun c68 => ?_) (fun c68 => ?_)
          · skip
            refine EV_iinc dX6_pairsNear_74 rfl (Nat.le_of_ble_eq_true rfl) rfl ?_
            refine EV_goto 16 dX6_pairsNear_77 (by decide) ?_
            rw [show nI t + Int32.ofInt 1 = nI (t + 1) from (nI_succ t).symm]
            simp only [pairInL, if_neg c21, if_pos c34, if_pos c47, if_neg c68] at kk
            exact ih (t + 1) _ (by omega) kk
          · skip
            refine EV_iinc dX6_pairsNear_71 rfl (Nat.le_of_ble_eq_true rfl) rfl ?_
            refine EV_iinc dX6_pairsNear_74 rfl (Nat.le_of_ble_eq_true rfl) rfl ?_
            refine EV_goto 16 dX6_pairsNear_77 (by decide) ?_
            rw [show nI t + Int32.ofInt 1 = nI (t + 1) from (nI_succ t).symm]
            simp only [pairInL, if_neg c21, if_pos c34, if_pos c47, if_pos c68] at kk
            exact ih (t + 1) _ (by omega) kk
set_option maxHeartbeats 4000000 in
theorem lp_pair (z : qZ) (k : Nat) {σ : qσ} {s cc fc zc : Nat} (hW : WF σ s cc fc zc) {X : qM} {n : Nat} (hn : 112 ≤ n) : ∀ (j i : Nat) (a : Int32) (w3 : Value), w3.category = 1 → i + j = cc →
    EV z k mX6_pairsNear 4 [.ref s, .int a, .int (nI i), w3] [] (mm σ X) n 0 0 (qRes (some (.int (pairL σ s cc j i a))) (mm σ X) n) := by
  have hs := hW.1
  have hO := o_sky hs
  have hc := hW.2.1.1
  have hc6 := hW.2.1.2
  intro j
  induction j with
  | zero =>
    intro i a w3 h3 hi
    refine EV_iload_n dX6_pairsNear_4 rfl ?_
    refine EV_aload_n dX6_pairsNear_5 rfl ?_
    refine ES_getf dX6_pairsNear_6 fkX6_33 hn (by assumption) rfl ?_
    refine EV_icmp_ge 86 dX6_pairsNear_9 (by decide) (fun c9 => ?_) (fun c9 => ?_)
    · skip
      refine EV_iload_n dX6_pairsNear_86 rfl ?_
      exact ES_iret dX6_pairsNear_87 rfl rfl rfl rfl
    · skip
      exact absurd (by rw [hc]; exact nI_le (by omega) (by omega)) c9
  | succ j ih =>
    intro i a w3 h3 hi
    refine EV_iload_n dX6_pairsNear_4 rfl ?_
    refine EV_aload_n dX6_pairsNear_5 rfl ?_
    refine ES_getf dX6_pairsNear_6 fkX6_33 hn (by assumption) rfl ?_
    refine EV_icmp_ge 86 dX6_pairsNear_9 (by decide) (fun c9 => ?_) (fun c9 => ?_)
    · skip
      exact absurd c9 (by rw [hc]; exact nI_ge (by omega) (by omega))
    · skip
      refine EV_iload_n dX6_pairsNear_12 rfl ?_
      refine EV_iconst (v := 1) dX6_pairsNear_13 (by decide) ?_
      refine EV_iadd dX6_pairsNear_14 ?_
      refine EV_istore_n dX6_pairsNear_15 (Nat.le_of_ble_eq_true rfl) (Nat.le_of_ble_eq_true rfl) rfl ?_
      rw [show nI i + 1 = nI (i + 1) from (nI_succ i).symm]
      refine lp_pairIn z k hW (show i < 6 by omega) hn j (i + 1) a (by omega) ?_
      refine EV_iinc dX6_pairsNear_80 rfl (Nat.le_of_ble_eq_true rfl) rfl ?_
      refine EV_goto 4 dX6_pairsNear_83 (by decide) ?_
      rw [show nI i + Int32.ofInt 1 = nI (i + 1) from (nI_succ i).symm]
      exact ih (i + 1) _ _ rfl (by omega)
def pairsF (σ : qσ) (s cc : Nat) : Int32 := pairL σ s cc cc 0 0
theorem sp_pairsNear (z : qZ) (k : Nat) {σ : qσ} {s cc fc zc : Nat} (hW : WF σ s cc fc zc) : SP z k mX6_pairsNear [.ref s] σ (some (.int (pairsF σ s cc))) σ := by
  refine SP_of 3 (by decide) (Nat.le_of_ble_eq_true rfl) fun X n hn => ?_
  refine EV_iconst (v := 0) dX6_pairsNear_0 (by decide) ?_
  refine EV_istore_n dX6_pairsNear_1 (Nat.le_of_ble_eq_true rfl) (Nat.le_of_ble_eq_true rfl) rfl ?_
  refine EV_iconst (v := 0) dX6_pairsNear_2 (by decide) ?_
  refine EV_istore_n dX6_pairsNear_3 (Nat.le_of_ble_eq_true rfl) (Nat.le_of_ble_eq_true rfl) rfl ?_
  exact lp_pair z k hW hn cc 0 0 _ rfl (by omega)
def chargeF (σ : qσ) (s r : Nat) : qσ := if σ r 7 = 0 then (if σ r 11 = σ s 8 then σ else sset σ r 4 (if σ r 4 + 3 < σ r 3 then σ r 4 + 3 else σ r 3)) else σ
theorem charge_only {σ : qσ} {s t : Nat} (ht : t < 6) : Only s σ (chargeF σ s (s + 4 + t)) := by
  unfold chargeF
  exact Only.if (fun _ => Only.if (fun _ => Only.rf) (fun _ => Only.rf.set (tch_c s ht (by omega)) _)) (fun _ => Only.rf)
set_option maxHeartbeats 4000000 in
theorem sp_charge (z : qZ) (k : Nat) {σ : qσ} {s r : Nat} (hs : isSky s) (hr : isO 0 r) : SP z (k + 1) mX6_chargeIfLying [.ref s, .ref r] σ none (chargeF σ s r) := by
  refine SP_of 0 (by decide) (Nat.le_of_ble_eq_true rfl) fun X n hn => ?_
  have hO := o_sky hs
  refine EV_aload_n dX6_chargeIfLying_0 rfl ?_
  refine ES_getf dX6_chargeIfLying_1 fkX6_99 hn (by assumption) rfl ?_
  refine EV_if_ne 35 dX6_chargeIfLying_4 (by decide) (fun c4 => ?_) (fun c4 => ?_)
  · skip
    exact ES_vret dX6_chargeIfLying_35 rfl (by simp only [chargeF, if_neg c4])
  · skip
    refine EV_aload_n dX6_chargeIfLying_7 rfl ?_
    refine ES_getf dX6_chargeIfLying_8 fkX6_176 hn (by assumption) rfl ?_
    refine EV_aload_n dX6_chargeIfLying_11 rfl ?_
    refine ES_getf dX6_chargeIfLying_12 fkX6_59 hn (by assumption) rfl ?_
    refine EV_icmp_eq 35 dX6_chargeIfLying_15 (by decide) (fun c15 => ?_) (fun c15 => ?_)
    · skip
      exact ES_vret dX6_chargeIfLying_35 rfl (by simp only [chargeF, if_pos c4, if_pos c15])
    · skip
      refine EV_aload_n dX6_chargeIfLying_18 rfl ?_
      refine EV_aload_n dX6_chargeIfLying_19 rfl ?_
      refine ES_getf dX6_chargeIfLying_20 fkX6_179 hn (by assumption) rfl ?_
      refine EV_aload_n dX6_chargeIfLying_23 rfl ?_
      refine ES_getf dX6_chargeIfLying_24 fkX6_112 hn (by assumption) rfl ?_
      refine EV_iconst (v := 3) dX6_chargeIfLying_27 (by decide) ?_
      refine EV_iadd dX6_chargeIfLying_28 ?_
      refine EV_min dX6_chargeIfLying_29 lkX6_182 ls_min ln_Math lc_min (Nat.le_of_ble_eq_true rfl) ?_
      refine ES_put dX6_chargeIfLying_32 fkX6_112 hn (by assumption) (Nat.le_of_ble_eq_true rfl) (fun _ _ => rfl) rfl rfl ?_
      exact ES_vret dX6_chargeIfLying_35 rfl (by simp only [chargeF, if_pos c4, if_neg c15])
/-! the loops of a minute -/
def startL (s zc : Nat) : Nat → Nat → qσ → qσ
  | 0, _, σ => σ
  | j + 1, i, σ => startL s zc j (i + 1) (startF σ s zc i)
def moveL (s zc : Nat) : Nat → Nat → qσ → qσ
  | 0, _, σ => σ
  | j + 1, i, σ => moveL s zc j (i + 1) (if bI (toMoveF σ s (s + 4 + i)) = 0 then σ else moveF σ s (s + 4 + i) zc)
def chargeL (s : Nat) : Nat → Nat → qσ → qσ
  | 0, _, σ => σ
  | j + 1, i, σ => chargeL s j (i + 1) (chargeF σ s (s + 4 + i))
theorem startL_only {s cc fc zc : Nat} : ∀ (j i : Nat) (σ : qσ), WF σ s cc fc zc → i + j ≤ 12 → Only s σ (startL s zc j i σ) := by
  intro j
  induction j with
  | zero => intro i σ _ _; exact Only.rf
  | succ j ih =>
    intro i σ hW hi
    have h := start_only (i := i) hW (by omega)
    exact h.tr (ih (i + 1) _ (hW.only h) (by omega))
theorem mv1_only {σ : qσ} {s cc fc zc t : Nat} (hW : WF σ s cc fc zc) (ht : t < 6) : Only s σ (if bI (toMoveF σ s (s + 4 + t)) = 0 then σ else moveF σ s (s + 4 + t) zc) :=
  Only.if (fun _ => Only.rf) (fun h => move_only ht (vp_lt (vp_mono (toMove_in hW h) hW.2.2.1.2)))
theorem moveL_only {s cc fc zc : Nat} : ∀ (j i : Nat) (σ : qσ), WF σ s cc fc zc → i + j ≤ 6 → Only s σ (moveL s zc j i σ) := by
  intro j
  induction j with
  | zero => intro i σ _ _; exact Only.rf
  | succ j ih =>
    intro i σ hW hi
    have h := mv1_only (t := i) hW (by omega)
    exact h.tr (ih (i + 1) _ (hW.only h) (by omega))
theorem chargeL_only {s : Nat} : ∀ (j i : Nat) (σ : qσ), i + j ≤ 6 → Only s σ (chargeL s j i σ) := by
  intro j
  induction j with
  | zero => intro i σ _; exact Only.rf
  | succ j ih =>
    intro i σ hi
    exact (charge_only (by omega)).tr (ih (i + 1) _ (by omega))
def m1F (σ : qσ) (s : Nat) : qσ := sset σ s 8 (σ s 8 + 1)
def m2F (σ : qσ) (s : Nat) : qσ := if σ s 8 - σ s 8 / 1440 * 1440 = 0 then srow σ (s + 3) (fillF 25 0 (σ (s + 3))) else σ
def minuteF (σ : qσ) (s cc fc zc : Nat) : qσ :=
  let σ3 := startL s zc fc 0 (m2F (m1F σ s) s)
  let σ4 := moveL s zc cc 0 σ3
  let σ5 := sset σ4 s 7 (σ4 s 7 + pairsF σ4 s cc)
  chargeL s cc 0 σ5
def playF (s cc fc zc : Nat) : Nat → qσ → qσ
  | 0, σ => σ
  | j + 1, σ => playF s cc fc zc j (minuteF σ s cc fc zc)
theorem m12_only {σ : qσ} {s : Nat} : Only s σ (m2F (m1F σ s) s) := by
  have h : Only s σ (m1F σ s) := Only.rf.set (tch_s s (by omega) (by omega)) _
  unfold m2F
  exact Only.if (fun _ => h.row _) (fun _ => h)
theorem minute_only {σ : qσ} {s cc fc zc : Nat} (hW : WF σ s cc fc zc) : Only s σ (minuteF σ s cc fc zc) := by
  have h2 : Only s σ _ := m12_only
  have h3 := h2.tr (startL_only fc 0 _ (hW.only h2) (by have := hW.2.2.1.2; omega))
  have h4 := h3.tr (moveL_only cc 0 _ (hW.only h3) (by have := hW.2.1.2; omega))
  exact (h4.set (tch_s s (by omega) (by omega)) _).tr (chargeL_only cc 0 _ (by have := hW.2.1.2; omega))
theorem play_only {s cc fc zc : Nat} : ∀ (j : Nat) (σ : qσ), WF σ s cc fc zc → Only s σ (playF s cc fc zc j σ) := by
  intro j
  induction j with
  | zero => intro σ _; exact Only.rf
  | succ j ih =>
    intro σ hW
    have h := minute_only hW
    exact h.tr (ih _ (hW.only h))
section Play
variable {z : qZ} {k : Nat} {s cc fc zc : Nat} {X : qM} {n : Nat} {Q : qQ}
set_option maxHeartbeats 4000000 in
theorem lp_start (hn : 112 ≤ n) (w1 : Value) (w2 : Int32) : ∀ (j i : Nat) (σ : qσ), WF σ s cc fc zc → i + j = fc →
    EV z (k + 4) mX6_play 57 [.ref s, w1, .int w2, .int (nI fc)] [] (mm (startL s zc j i σ) X) n 0 0 Q → EV z (k + 4) mX6_play 38 [.ref s, w1, .int w2, .int (nI i)] [] (mm σ X) n 0 0 Q := by
  intro j
  induction j with
  | zero =>
    intro i σ hW hi kk
    have hO := o_sky hW.1
    have hc := hW.2.2.1.1
    have hc12 := hW.2.2.1.2
    refine EV_iload_n dX6_play_38 rfl ?_
    refine EV_aload_n dX6_play_39 rfl ?_
    refine ES_getf dX6_play_40 fkX6_41 hn (by assumption) rfl ?_
    refine EV_icmp_ge 57 dX6_play_43 (by decide) (fun c43 => ?_) (fun c43 => ?_)
    · skip
      rw [show i = fc by omega]; exact kk
    · skip
      exact absurd (by rw [hc]; exact nI_le (by omega) (by omega)) c43
  | succ j ih =>
    intro i σ hW hi kk
    have hO := o_sky hW.1
    have hc := hW.2.2.1.1
    have hc12 := hW.2.2.1.2
    refine EV_iload_n dX6_play_38 rfl ?_
    refine EV_aload_n dX6_play_39 rfl ?_
    refine ES_getf dX6_play_40 fkX6_41 hn (by assumption) rfl ?_
    refine EV_icmp_ge 57 dX6_play_43 (by decide) (fun c43 => ?_) (fun c43 => ?_)
    · skip
      exact absurd c43 (by rw [hc]; exact nI_ge (by omega) (by omega))
    · skip
      refine EV_aload_n dX6_play_46 rfl ?_
      refine EV_iload_n dX6_play_47 rfl ?_
      refine ES_callV dX6_play_48 mkX6_68 mfX6_startOrMissIfDue mvX6_startOrMissIfDue hn (by assumption) rfl (sp_start z k hW (show i < fc by omega)) rfl rfl (Nat.le_of_ble_eq_true rfl) ?_
      refine EV_iinc dX6_play_51 rfl (Nat.le_of_ble_eq_true rfl) rfl ?_
      refine EV_goto 38 dX6_play_54 (by decide) ?_
      rw [show nI i + Int32.ofInt 1 = nI (i + 1) from (nI_succ i).symm]
      exact ih (i + 1) _ (hW.only (start_only hW (by omega))) (by omega) kk
set_option maxHeartbeats 4000000 in
theorem lp_move (hn : 112 ≤ n) (w1 : Value) (w2 : Int32) : ∀ (j i : Nat) (σ : qσ), WF σ s cc fc zc → i + j = cc →
    EV z (k + 4) mX6_play 96 [.ref s, w1, .int w2, .int (nI cc)] [] (mm (moveL s zc j i σ) X) n 0 0 Q → EV z (k + 4) mX6_play 59 [.ref s, w1, .int w2, .int (nI i)] [] (mm σ X) n 0 0 Q := by
  intro j
  induction j with
  | zero =>
    intro i σ hW hi kk
    have hO := o_sky hW.1
    have hc := hW.2.1.1
    have hc12 := hW.2.1.2
    refine EV_iload_n dX6_play_59 rfl ?_
    refine EV_aload_n dX6_play_60 rfl ?_
    refine ES_getf dX6_play_61 fkX6_33 hn (by assumption) rfl ?_
    refine EV_icmp_ge 96 dX6_play_64 (by decide) (fun c64 => ?_) (fun c64 => ?_)
    · skip
      rw [show i = cc by omega]; exact kk
    · skip
      exact absurd (by rw [hc]; exact nI_le (by omega) (by omega)) c64
  | succ j ih =>
    intro i σ hW hi kk
    have hs := hW.1
    have hO := o_sky hW.1
    have hc := hW.2.1.1
    have hc12 := hW.2.1.2
    have hi6 : i < 6 := by omega
    have hC := o_craft hs hi6
    refine EV_iload_n dX6_play_59 rfl ?_
    refine EV_aload_n dX6_play_60 rfl ?_
    refine ES_getf dX6_play_61 fkX6_33 hn (by assumption) rfl ?_
    refine EV_icmp_ge 96 dX6_play_64 (by decide) (fun c64 => ?_) (fun c64 => ?_)
    · skip
      exact absurd c64 (by rw [hc]; exact nI_ge (by omega) (by omega))
    · skip
      refine EV_aload_n dX6_play_67 rfl ?_
      refine EV_aload_n dX6_play_68 rfl ?_
      refine ES_getf dX6_play_69 fkX6_11 hn (by assumption) rfl ?_
      refine EV_iload_n dX6_play_72 rfl ?_
      refine ES_aaldC hs dX6_play_73 hn hi6 ?_
      refine ES_callV dX6_play_74 mkX6_72 mfX6_isToMove mvX6_isToMove hn (by assumption) rfl (sp_isToMove z (k + 3) hW hC) rfl rfl (Nat.le_of_ble_eq_true rfl) ?_
      refine EV_if_eq 90 dX6_play_77 (by decide) (fun c77 => ?_) (fun c77 => ?_)
      · skip
        refine EV_iinc dX6_play_90 rfl (Nat.le_of_ble_eq_true rfl) rfl ?_
        refine EV_goto 59 dX6_play_93 (by decide) ?_
        rw [show nI i + Int32.ofInt 1 = nI (i + 1) from (nI_succ i).symm]
        have hW2 := hW.only (mv1_only (t := i) hW hi6)
        simp only [moveL, if_neg c64, if_pos c77] at kk hW2
        exact ih (i + 1) _ hW2 (by omega) kk
      · skip
        refine EV_aload_n dX6_play_80 rfl ?_
        refine EV_aload_n dX6_play_81 rfl ?_
        refine ES_getf dX6_play_82 fkX6_11 hn (by assumption) rfl ?_
        refine EV_iload_n dX6_play_85 rfl ?_
        refine ES_aaldC hs dX6_play_86 hn hi6 ?_
        refine ES_callV dX6_play_87 mkX6_76 mfX6_move mvX6_move hn (by assumption) rfl (sp_move z k hW hi6 (toMove_in hW c77)) rfl rfl (Nat.le_of_ble_eq_true rfl) ?_
        refine EV_iinc dX6_play_90 rfl (Nat.le_of_ble_eq_true rfl) rfl ?_
        refine EV_goto 59 dX6_play_93 (by decide) ?_
        rw [show nI i + Int32.ofInt 1 = nI (i + 1) from (nI_succ i).symm]
        have hW2 := hW.only (mv1_only (t := i) hW hi6)
        simp only [moveL, if_neg c64, if_neg c77] at kk hW2
        exact ih (i + 1) _ hW2 (by omega) kk
set_option maxHeartbeats 4000000 in
theorem lp_charge (hn : 112 ≤ n) (w1 : Value) (w2 : Int32) : ∀ (j i : Nat) (σ : qσ), WF σ s cc fc zc → i + j = cc →
    EV z (k + 4) mX6_play 135 [.ref s, w1, .int w2, .int (nI cc)] [] (mm (chargeL s j i σ) X) n 0 0 Q → EV z (k + 4) mX6_play 111 [.ref s, w1, .int w2, .int (nI i)] [] (mm σ X) n 0 0 Q := by
  intro j
  induction j with
  | zero =>
    intro i σ hW hi kk
    have hO := o_sky hW.1
    have hc := hW.2.1.1
    have hc12 := hW.2.1.2
    refine EV_iload_n dX6_play_111 rfl ?_
    refine EV_aload_n dX6_play_112 rfl ?_
    refine ES_getf dX6_play_113 fkX6_33 hn (by assumption) rfl ?_
    refine EV_icmp_ge 135 dX6_play_116 (by decide) (fun c116 => ?_) (fun c116 => ?_)
    · skip
      rw [show i = cc by omega]; exact kk
    · skip
      exact absurd (by rw [hc]; exact nI_le (by omega) (by omega)) c116
  | succ j ih =>
    intro i σ hW hi kk
    have hs := hW.1
    have hO := o_sky hW.1
    have hc := hW.2.1.1
    have hc12 := hW.2.1.2
    have hi6 : i < 6 := by omega
    refine EV_iload_n dX6_play_111 rfl ?_
    refine EV_aload_n dX6_play_112 rfl ?_
    refine ES_getf dX6_play_113 fkX6_33 hn (by assumption) rfl ?_
    refine EV_icmp_ge 135 dX6_play_116 (by decide) (fun c116 => ?_) (fun c116 => ?_)
    · skip
      exact absurd c116 (by rw [hc]; exact nI_ge (by omega) (by omega))
    · skip
      refine EV_aload_n dX6_play_119 rfl ?_
      refine EV_aload_n dX6_play_120 rfl ?_
      refine ES_getf dX6_play_121 fkX6_11 hn (by assumption) rfl ?_
      refine EV_iload_n dX6_play_124 rfl ?_
      refine ES_aaldC hs dX6_play_125 hn hi6 ?_
      refine ES_callV dX6_play_126 mkX6_83 mfX6_chargeIfLying mvX6_chargeIfLying hn (by assumption) rfl (sp_charge z (k + 2) hs (o_craft hs hi6)) rfl rfl (Nat.le_of_ble_eq_true rfl) ?_
      refine EV_iinc dX6_play_129 rfl (Nat.le_of_ble_eq_true rfl) rfl ?_
      refine EV_goto 111 dX6_play_132 (by decide) ?_
      rw [show nI i + Int32.ofInt 1 = nI (i + 1) from (nI_succ i).symm]
      exact ih (i + 1) _ (hW.only (charge_only hi6)) (by omega) kk
set_option maxHeartbeats 8000000 in
theorem lp_play (hn : 112 ≤ n) : ∀ (j i mt : Nat) (σ : qσ) (w3 : Value), w3.category = 1 → mt < 2 ^ 30 → WF σ s cc fc zc → i + j = mt →
    EV z (k + 4) mX6_play 2 [.ref s, .int (nI mt), .int (nI i), w3] [] (mm σ X) n 0 0 (qRes none (mm (playF s cc fc zc j σ) X) n) := by
  intro j
  induction j with
  | zero =>
    intro i mt σ w3 h3 hm hW hi
    refine EV_iload_n dX6_play_2 rfl ?_
    refine EV_iload_n dX6_play_3 rfl ?_
    refine EV_icmp_ge 141 dX6_play_4 (by decide) (fun c4 => ?_) (fun c4 => ?_)
    · skip
      exact ES_vret dX6_play_141 rfl rfl
    · skip
      exact absurd (nI_le (a := mt) (b := i) (by omega) (by omega)) c4
  | succ j ih =>
    intro i mt σ w3 h3 hm hW hi
    have hs := hW.1
    have hO := o_sky hs
    refine EV_iload_n dX6_play_2 rfl ?_
    refine EV_iload_n dX6_play_3 rfl ?_
    refine EV_icmp_ge 141 dX6_play_4 (by decide) (fun c4 => ?_) (fun c4 => ?_)
    · skip
      exact absurd c4 (nI_ge (a := i) (b := mt) (by omega) (by omega))
    · skip
      refine EV_aload_n dX6_play_7 rfl ?_
      refine EV_dup dX6_play_8 rfl ?_
      refine ES_getf (v := .int (σ s 8)) dX6_play_9 fkX6_59 hn (by assumption) rfl ?_
      refine EV_iconst (v := 1) dX6_play_12 (by decide) ?_
      refine EV_iadd dX6_play_13 ?_
      refine ES_put dX6_play_14 fkX6_59 hn (by assumption) (Nat.le_of_ble_eq_true rfl) (fun _ _ => rfl) rfl rfl ?_
      show EV z (k + 4) mX6_play 17 _ _ (mm (m1F σ s) X) n 0 0 _
      have hW1 := hW.only (show Only s σ (m1F σ s) from Only.rf.set (tch_s s (by omega) (by omega)) _)
      rw [playF]
      refine EV_aload_n dX6_play_17 rfl ?_
      refine ES_getf dX6_play_18 fkX6_59 hn (by assumption) rfl ?_
      refine EV_sipush (v := 1440) dX6_play_21 (by decide) ?_
      refine EV_irem dX6_play_24 (by decide) ?_
      refine EV_if_ne 36 dX6_play_25 (by decide) (fun c25 => ?_) (fun c25 => ?_)
      · skip
        have hW2 := hW.only (m12_only (σ := σ) (s := s))
        simp only [minuteF, m2F, if_neg c4, if_neg c25] at hW2 ⊢
        refine EV_iconst (v := 0) dX6_play_36 (by decide) ?_
        refine EV_istore_n dX6_play_37 (Nat.le_of_ble_eq_true rfl) (Nat.le_of_ble_eq_true rfl) rfl ?_
        refine lp_start hn _ _ fc 0 _ hW2 (by omega) ?_
        have hW3 := hW2.only (startL_only fc 0 _ hW2 (by have := hW.2.2.1.2; omega))
        refine EV_iconst (v := 0) dX6_play_57 (by decide) ?_
        refine EV_istore_n dX6_play_58 (Nat.le_of_ble_eq_true rfl) (Nat.le_of_ble_eq_true rfl) rfl ?_
        refine lp_move hn _ _ cc 0 _ hW3 (by omega) ?_
        have hW4 := hW3.only (moveL_only cc 0 _ hW3 (by have := hW.2.1.2; omega))
        refine EV_aload_n dX6_play_96 rfl ?_
        refine EV_dup dX6_play_97 rfl ?_
        refine ES_getf dX6_play_98 fkX6_56 hn hO rfl ?_
        refine EV_aload_n dX6_play_101 rfl ?_
        refine ES_callV dX6_play_102 mkX6_79 mfX6_pairsNear mvX6_pairsNear hn hO rfl (sp_pairsNear z (k + 3) hW4) rfl rfl (Nat.le_of_ble_eq_true rfl) ?_
        refine EV_iadd dX6_play_105 ?_
        refine ES_put dX6_play_106 fkX6_56 hn hO (Nat.le_of_ble_eq_true rfl) (fun _ _ => rfl) rfl rfl ?_
        refine EV_iconst (v := 0) dX6_play_109 (by decide) ?_
        refine EV_istore_n dX6_play_110 (Nat.le_of_ble_eq_true rfl) (Nat.le_of_ble_eq_true rfl) rfl ?_
        have hW5 := fun (v : Int32) => hW4.only (Only.rf.set (tch_s s (j := 7) (by omega) (by omega)) v)
        refine lp_charge hn _ _ cc 0 _ (hW5 _) (by omega) ?_
        refine EV_iinc dX6_play_135 rfl (Nat.le_of_ble_eq_true rfl) rfl ?_
        refine EV_goto 2 dX6_play_138 (by decide) ?_
        rw [show nI i + Int32.ofInt 1 = nI (i + 1) from (nI_succ i).symm]
        exact ih (i + 1) mt _ _ rfl hm ((hW5 _).only (chargeL_only cc 0 _ (by have := hW.2.1.2; omega))) (by omega)
      · skip
        refine EV_aload_n dX6_play_28 rfl ?_
        refine ES_getf dX6_play_29 fkX6_23 hn (by assumption) rfl ?_
        refine EV_iconst (v := 0) dX6_play_32 (by decide) ?_
        refine ES_callS dX6_play_33 mkX6_62 mfJ7_fill msJ7_fill hn (sp_fill z (k + 3) 0 (a_heard hs) (by omega)) rfl rfl (Nat.le_of_ble_eq_true rfl) ?_
        have hW2 := hW.only (m12_only (σ := σ) (s := s))
        simp only [minuteF, m2F, if_neg c4, if_pos c25] at hW2 ⊢
        refine EV_iconst (v := 0) dX6_play_36 (by decide) ?_
        refine EV_istore_n dX6_play_37 (Nat.le_of_ble_eq_true rfl) (Nat.le_of_ble_eq_true rfl) rfl ?_
        refine lp_start hn _ _ fc 0 _ hW2 (by omega) ?_
        have hW3 := hW2.only (startL_only fc 0 _ hW2 (by have := hW.2.2.1.2; omega))
        refine EV_iconst (v := 0) dX6_play_57 (by decide) ?_
        refine EV_istore_n dX6_play_58 (Nat.le_of_ble_eq_true rfl) (Nat.le_of_ble_eq_true rfl) rfl ?_
        refine lp_move hn _ _ cc 0 _ hW3 (by omega) ?_
        have hW4 := hW3.only (moveL_only cc 0 _ hW3 (by have := hW.2.1.2; omega))
        refine EV_aload_n dX6_play_96 rfl ?_
        refine EV_dup dX6_play_97 rfl ?_
        refine ES_getf dX6_play_98 fkX6_56 hn hO rfl ?_
        refine EV_aload_n dX6_play_101 rfl ?_
        refine ES_callV dX6_play_102 mkX6_79 mfX6_pairsNear mvX6_pairsNear hn hO rfl (sp_pairsNear z (k + 3) hW4) rfl rfl (Nat.le_of_ble_eq_true rfl) ?_
        refine EV_iadd dX6_play_105 ?_
        refine ES_put dX6_play_106 fkX6_56 hn hO (Nat.le_of_ble_eq_true rfl) (fun _ _ => rfl) rfl rfl ?_
        refine EV_iconst (v := 0) dX6_play_109 (by decide) ?_
        refine EV_istore_n dX6_play_110 (Nat.le_of_ble_eq_true rfl) (Nat.le_of_ble_eq_true rfl) rfl ?_
        have hW5 := fun (v : Int32) => hW4.only (Only.rf.set (tch_s s (j := 7) (by omega) (by omega)) v)
        refine lp_charge hn _ _ cc 0 _ (hW5 _) (by omega) ?_
        refine EV_iinc dX6_play_135 rfl (Nat.le_of_ble_eq_true rfl) rfl ?_
        refine EV_goto 2 dX6_play_138 (by decide) ?_
        rw [show nI i + Int32.ofInt 1 = nI (i + 1) from (nI_succ i).symm]
        exact ih (i + 1) mt _ _ rfl hm ((hW5 _).only (chargeL_only cc 0 _ (by have := hW.2.1.2; omega))) (by omega)
end Play
theorem sp_play (z : qZ) (k : Nat) {σ : qσ} {s cc fc zc : Nat} (hW : WF σ s cc fc zc) {mt : Nat} (hm : mt < 2 ^ 30) : SP z (k + 4) mX6_play [.ref s, .int (nI mt)] σ none (playF s cc fc zc mt σ) := by
  refine SP_of 2 (by decide) (Nat.le_of_ble_eq_true rfl) fun X n hn => ?_
  refine EV_iconst (v := 0) dX6_play_0 (by decide) ?_
  refine EV_istore_n dX6_play_1 (Nat.le_of_ble_eq_true rfl) (Nat.le_of_ble_eq_true rfl) rfl ?_
  exact lp_play hn mt 0 mt σ _ rfl hm hW (by omega)
end
section
/-! ===== the judge ===== -/
def cntF (σ : qσ) (r : Nat) : Nat := (σ r 1).toNatClampNeg
theorem cntF_of {σ : qσ} {r c : Nat} (h : σ r 1 = nI c) (hc : c ≤ 10) : cntF σ r = c := by rw [cntF, h]; exact nI_clamp (by omega)
/-- a route that has ten cells at most -/
def okRt (σ : qσ) (r : Nat) : Prop := isRt r ∧ r < 107 ∧ ∃ c, c ≤ 10 ∧ σ r 1 = nI c
theorem okRt.cnt {σ : qσ} {r : Nat} (h : okRt σ r) : σ r 1 = nI (cntF σ r) ∧ cntF σ r ≤ 10 := by
  obtain ⟨-, -, c, hc, h⟩ := h
  rw [cntF_of h hc]
  exact ⟨h, hc⟩
theorem WF.rt {σ : qσ} {s cc fc zc i : Nat} (h : WF σ s cc fc zc) (hi : i < 12) : okRt σ (s + 10 + 3 * i + 1) := by
  have hs := h.1.le
  refine ⟨(fl_of h.1 hi).2, ?_, h.2.2.2.2.2 i hi⟩
  rcases h.1 with rfl | rfl <;> omega
/-- only the planned noise has changed -/
def Pl (σ σ' : qσ) : Prop := ∀ k, k ≠ 109 → σ' k = σ k
theorem Pl.rf {σ : qσ} : Pl σ σ := fun _ _ => rfl
theorem Pl.tr {σ σ1 σ2 : qσ} (h : Pl σ σ1) (g : Pl σ1 σ2) : Pl σ σ2 := fun k hk => (g k hk).trans (h k hk)
theorem Pl.set {σ σ1 : qσ} (h : Pl σ σ1) (j : Nat) (v : Int32) : Pl σ (sset σ1 109 j v) := fun k hk => (sset_ne _ _ _ hk).trans (h k hk)
theorem Pl.row {σ σ1 : qσ} (h : Pl σ σ1) (g : Nat → Int32) : Pl σ (srow σ1 109 g) := fun k hk => (srow_ne _ _ hk).trans (h k hk)
theorem Pl.if {σ σ1 σ2 : qσ} {p : Prop} [Decidable p] (h1 : Pl σ σ1) (h2 : Pl σ σ2) : Pl σ (if p then σ1 else σ2) := by
  by_cases h : p
  · rw [if_pos h]; exact h1
  · rw [if_neg h]; exact h2
theorem WF.pl {σ σ' : qσ} {s cc fc zc : Nat} (h : WF σ s cc fc zc) (hp : Pl σ σ') : WF σ' s cc fc zc := by
  obtain ⟨hs, h1, h2, h3, h4, h5⟩ := h
  refine ⟨hs, ⟨?_, h1.2⟩, ⟨?_, h2.2⟩, ⟨?_, h3.2⟩, fun i hi => ?_, fun i hi => ?_⟩
  · rw [hp s (by have := hs.le; omega)]; exact h1.1
  · rw [hp s (by have := hs.le; omega)]; exact h2.1
  · rw [hp 2 (by omega)]; exact h3.1
  · rw [hp _ (by rcases hs with rfl | rfl <;> omega)]; exact h4 i hi
  · rw [hp _ (by rcases hs with rfl | rfl <;> omega)]; exact h5 i hi
theorem okRt.pl {σ σ' : qσ} {r : Nat} (h : okRt σ r) (hp : Pl σ σ') : okRt σ' r := by
  refine ⟨h.1, h.2.1, ?_⟩
  rw [hp r (by have := h.2.1; omega)]
  exact h.2.2
theorem cntF_pl {σ σ' : qσ} {r : Nat} (hr : r < 107) (hp : Pl σ σ') : cntF σ' r = cntF σ r := by rw [cntF, cntF, hp r (by omega)]
def planStep (σ : qσ) (rc r i : Nat) : qσ := if bI (isCellF (atF σ r (nI i))) = 0 then σ else sset σ 109 (atF σ r (nI i)).toNatClampNeg (σ 109 (atF σ r (nI i)).toNatClampNeg + σ rc 5 * σ 3 (atF σ r (nI i)).toNatClampNeg)
def planL (rc r : Nat) : Nat → Nat → qσ → qσ
  | 0, _, σ => σ
  | j + 1, i, σ => planL rc r j (i + 1) (planStep σ rc r i)
theorem planStep_pl {σ : qσ} {rc r i : Nat} : Pl σ (planStep σ rc r i) := Pl.if Pl.rf (Pl.rf.set _ _)
theorem planL_pl {rc r : Nat} : ∀ (j i : Nat) (σ : qσ), Pl σ (planL rc r j i σ) := by
  intro j
  induction j with
  | zero => intro i σ; exact Pl.rf
  | succ j ih => intro i σ; exact planStep_pl.tr (ih (i + 1) _)
section Jd
variable {z : qZ} {k : Nat} {X : qM} {n : Nat}
set_option maxHeartbeats 4000000 in
theorem lp_plan (hn : 112 ≤ n) {rc r cnt : Nat} (hc : isO 0 rc) : ∀ (j i : Nat) (σ : qσ) (w4 : Value), w4.category = 1 → okRt σ r → cntF σ r = cnt → i + j = cnt → EV z (k + 1) mX3_plan 2 [.ref 108, .ref rc, .ref r, .int (nI i), w4] [] (mm σ X) n 0 0 (qRes none (mm (planL rc r j i σ) X) n) := by
  intro j
  induction j with
  | zero =>
    intro i σ w4 h4 hr hcn hi
    have hO := hr.1.1
    have hq := hr.cnt
    refine EV_iload_n dX3_plan_2 rfl ?_
    refine EV_aload_n dX3_plan_3 rfl ?_
    refine ES_getf dX3_plan_4 fkX3_59 hn (by assumption) rfl ?_
    refine EV_icmp_ge 56 dX3_plan_7 (by decide) (fun c7 => ?_) (fun c7 => ?_)
    · skip
      exact ES_vret dX3_plan_56 rfl rfl
    · skip
      exact absurd (by rw [hq.1]; exact nI_le (by omega) (by omega)) c7
  | succ j ih =>
    intro i σ w4 h4 hr hcn hi
    have hO := hr.1.1
    have hq := hr.cnt
    refine EV_iload_n dX3_plan_2 rfl ?_
    refine EV_aload_n dX3_plan_3 rfl ?_
    refine ES_getf dX3_plan_4 fkX3_59 hn (by assumption) rfl ?_
    refine EV_icmp_ge 56 dX3_plan_7 (by decide) (fun c7 => ?_) (fun c7 => ?_)
    · skip
      exact absurd c7 (by rw [hq.1]; exact nI_ge (by omega) (by omega))
    · skip
      refine EV_aload_n dX3_plan_10 rfl ?_
      refine EV_iload_n dX3_plan_11 rfl ?_
      refine ES_callV dX3_plan_12 mkX3_64 mfX4_at mvX4_at hn (by assumption) rfl (sp_at z k hr.1.1 hr.1.2 _) rfl rfl (Nat.le_of_ble_eq_true rfl) ?_
      refine EV_istore dX3_plan_15 (Nat.le_of_ble_eq_true rfl) (Nat.le_of_ble_eq_true rfl) rfl ?_
      refine EV_iload dX3_plan_17 rfl ?_
      refine ES_callS dX3_plan_19 mkX3_68 mfX8_isCell msX8_isCell hn (sp_isCell z k _) rfl rfl (Nat.le_of_ble_eq_true rfl) ?_
      refine EV_if_eq 50 dX3_plan_22 (by decide) (fun c22 => ?_) (fun c22 => ?_)
      · skip
        refine EV_iinc dX3_plan_50 rfl (Nat.le_of_ble_eq_true rfl) rfl ?_
        refine EV_goto 2 dX3_plan_53 (by decide) ?_
        rw [show nI i + Int32.ofInt 1 = nI (i + 1) from (nI_succ i).symm]
        have hp := planStep_pl (σ := σ) (rc := rc) (r := r) (i := i)
        simp only [planL, planStep, if_neg c7, if_pos c22] at hp ⊢
        exact ih (i + 1) _ _ rfl (hr.pl hp) ((cntF_pl hr.2.1 hp).trans hcn) (by omega)
      · skip
        refine EV_aload_n dX3_plan_25 rfl ?_
        refine ES_getf dX3_plan_26 fkX3_9 hn o_judge rfl ?_
        refine EV_iload dX3_plan_29 rfl ?_
        refine EV_dup2 dX3_plan_31 rfl rfl ?_
        refine ES_iald dX3_plan_32 hn a_planned (isCell_in c22) ?_
        refine EV_aload_n dX3_plan_33 rfl ?_
        refine ES_getf dX3_plan_34 fkX3_130 hn (by assumption) rfl ?_
        refine EV_aload_n dX3_plan_37 rfl ?_
        refine ES_getf dX3_plan_38 fkX3_15 hn o_judge rfl ?_
        refine ES_getf dX3_plan_41 fkX3_133 hn o_ground rfl ?_
        refine EV_iload dX3_plan_44 rfl ?_
        refine ES_iald dX3_plan_46 hn a_houses (isCell_in c22) ?_
        refine EV_imul dX3_plan_47 ?_
        refine EV_iadd dX3_plan_48 ?_
        refine ES_iast dX3_plan_49 hn a_planned (isCell_in c22) ?_
        refine EV_iinc dX3_plan_50 rfl (Nat.le_of_ble_eq_true rfl) rfl ?_
        refine EV_goto 2 dX3_plan_53 (by decide) ?_
        rw [show nI i + Int32.ofInt 1 = nI (i + 1) from (nI_succ i).symm]
        have hp := planStep_pl (σ := σ) (rc := rc) (r := r) (i := i)
        simp only [planL, planStep, if_neg c7, if_neg c22] at hp ⊢
        exact ih (i + 1) _ _ rfl (hr.pl hp) ((cntF_pl hr.2.1 hp).trans hcn) (by omega)
theorem sp_plan (σ : qσ) {rc r : Nat} (hc : isO 0 rc) (hr : okRt σ r) : SP z (k + 1) mX3_plan [.ref 108, .ref rc, .ref r] σ none (planL rc r (cntF σ r) 0 σ) := by
  refine SP_of 2 (by decide) (Nat.le_of_ble_eq_true rfl) fun X n hn => ?_
  refine EV_iconst (v := 0) dX3_plan_0 (by decide) ?_
  refine EV_istore_n dX3_plan_1 (Nat.le_of_ble_eq_true rfl) (Nat.le_of_ble_eq_true rfl) rfl ?_
  exact lp_plan hn hc _ 0 σ _ rfl hr rfl (by omega)
def dayStep (σ : qσ) (day : Int32) (i : Nat) : qσ := if bI (plannedF (σ (14 + 10 + 3 * i)) day) = 0 then σ else if bI (isCraftF σ 14 (σ (14 + 10 + 3 * i) 0)) = 0 then σ else planL (14 + 4 + (σ (14 + 10 + 3 * i) 0).toNatClampNeg) (14 + 10 + 3 * i + 1) (cntF σ (14 + 10 + 3 * i + 1)) 0 σ
def dayL (day : Int32) : Nat → Nat → qσ → qσ
  | 0, _, σ => σ
  | j + 1, i, σ => dayL day j (i + 1) (dayStep σ day i)
def planDayF (σ : qσ) (day : Int32) (fc : Nat) : qσ := dayL day fc 0 (srow σ 109 (fillF 25 0 (σ 109)))
theorem dayStep_pl {σ : qσ} {day : Int32} {i : Nat} : Pl σ (dayStep σ day i) := Pl.if Pl.rf (Pl.if Pl.rf (planL_pl _ _ _))
theorem dayL_pl {day : Int32} : ∀ (j i : Nat) (σ : qσ), Pl σ (dayL day j i σ) := by
  intro j
  induction j with
  | zero => intro i σ; exact Pl.rf
  | succ j ih => intro i σ; exact dayStep_pl.tr (ih (i + 1) _)
theorem planDay_pl {σ : qσ} {day : Int32} {fc : Nat} : Pl σ (planDayF σ day fc) := (Pl.rf.row _).tr (dayL_pl _ _ _)
theorem s14 : isSky 14 := Or.inl rfl
set_option maxHeartbeats 8000000 in
theorem lp_day (hn : 112 ≤ n) (day : Int32) {cc fc zc : Nat} : ∀ (j i : Nat) (σ : qσ) (w3 : Value), w3.category = 1 → WF σ 14 cc fc zc → i + j = fc → EV z (k + 2) mX3_planDay 10 [.ref 108, .int day, .int (nI i), w3] [] (mm σ X) n 0 0 (qRes none (mm (dayL day j i σ) X) n) := by
  have hO := o_sky s14
  intro j
  induction j with
  | zero =>
    intro i σ w3 h3 hW hi
    have hc := hW.2.2.1
    refine EV_iload_n dX3_planDay_10 rfl ?_
    refine EV_aload_n dX3_planDay_11 rfl ?_
    refine ES_getf dX3_planDay_12 fkX3_19 hn o_judge rfl ?_
    refine ES_getf dX3_planDay_15 fkX3_83 hn (by assumption) rfl ?_
    refine EV_icmp_ge 79 dX3_planDay_18 (by decide) (fun c18 => ?_) (fun c18 => ?_)
    · skip
      exact ES_vret dX3_planDay_79 rfl rfl
    · skip
      exact absurd (by rw [hc.1]; exact nI_le (by omega) (by omega)) c18
  | succ j ih =>
    intro i σ w3 h3 hW hi
    have hc := hW.2.2.1
    have hF := fl_of s14 (show i < 12 by omega)
    have hFO := hF.1
    have hR := hW.rt (show i < 12 by omega)
    refine EV_iload_n dX3_planDay_10 rfl ?_
    refine EV_aload_n dX3_planDay_11 rfl ?_
    refine ES_getf dX3_planDay_12 fkX3_19 hn o_judge rfl ?_
    refine ES_getf dX3_planDay_15 fkX3_83 hn (by assumption) rfl ?_
    refine EV_icmp_ge 79 dX3_planDay_18 (by decide) (fun c18 => ?_) (fun c18 => ?_)
    · skip
      exact absurd c18 (by rw [hc.1]; exact nI_ge (by omega) (by omega))
    · skip
      refine EV_aload_n dX3_planDay_21 rfl ?_
      refine ES_getf dX3_planDay_22 fkX3_19 hn o_judge rfl ?_
      refine ES_getf dX3_planDay_25 fkX3_86 hn (by assumption) rfl ?_
      refine EV_iload_n dX3_planDay_28 rfl ?_
      refine ES_aaldF s14 dX3_planDay_29 hn (by omega) ?_
      refine EV_astore_n dX3_planDay_30 (Nat.le_of_ble_eq_true rfl) (Nat.le_of_ble_eq_true rfl) rfl ?_
      refine EV_aload_n dX3_planDay_31 rfl ?_
      refine EV_iload_n dX3_planDay_32 rfl ?_
      refine ES_callV dX3_planDay_33 mkX3_120 mfX1_isPlannedOn mvX1_isPlannedOn hn (by assumption) rfl (sp_isPlannedOn z k hFO _) rfl rfl (Nat.le_of_ble_eq_true rfl) ?_
      refine EV_if_eq 73 dX3_planDay_36 (by decide) (fun c36 => ?_) (fun c36 => ?_)
      · skip
        refine EV_iinc dX3_planDay_73 rfl (Nat.le_of_ble_eq_true rfl) rfl ?_
        refine EV_goto 10 dX3_planDay_76 (by decide) ?_
        rw [show nI i + Int32.ofInt 1 = nI (i + 1) from (nI_succ i).symm]
        have hp := dayStep_pl (σ := σ) (day := day) (i := i)
        simp only [dayL, dayStep, if_neg c18, if_pos c36] at hp ⊢
        exact ih (i + 1) _ _ rfl (hW.pl hp) (by omega)
      · skip
        refine EV_aload_n dX3_planDay_39 rfl ?_
        refine ES_getf dX3_planDay_40 fkX3_19 hn o_judge rfl ?_
        refine EV_aload_n dX3_planDay_43 rfl ?_
        refine ES_getf dX3_planDay_44 fkX3_90 hn (by assumption) rfl ?_
        refine ES_callV dX3_planDay_47 mkX3_123 mfX6_isCraft mvX6_isCraft hn (by assumption) rfl (sp_isCraft z (k + 1) s14 _) rfl rfl (Nat.le_of_ble_eq_true rfl) ?_
        refine EV_if_eq 73 dX3_planDay_50 (by decide) (fun c50 => ?_) (fun c50 => ?_)
        · skip
          refine EV_iinc dX3_planDay_73 rfl (Nat.le_of_ble_eq_true rfl) rfl ?_
          refine EV_goto 10 dX3_planDay_76 (by decide) ?_
          rw [show nI i + Int32.ofInt 1 = nI (i + 1) from (nI_succ i).symm]
          have hp := dayStep_pl (σ := σ) (day := day) (i := i)
          simp only [dayL, dayStep, if_neg c18, if_neg c36, if_pos c50] at hp ⊢
          exact ih (i + 1) _ _ rfl (hW.pl hp) (by omega)
        · skip
          have hin := vp_mono (isCraft_in hW.2.1.1 hW.2.1.2 c50) hW.2.1.2
          have hC := o_craft s14 (vp_lt hin)
          refine EV_aload_n dX3_planDay_53 rfl ?_
          refine EV_aload_n dX3_planDay_54 rfl ?_
          refine ES_getf dX3_planDay_55 fkX3_19 hn o_judge rfl ?_
          refine ES_getf dX3_planDay_58 fkX3_23 hn (by assumption) rfl ?_
          refine EV_aload_n dX3_planDay_61 rfl ?_
          refine ES_getf dX3_planDay_62 fkX3_90 hn (by assumption) rfl ?_
          refine ES_aaldC' s14 dX3_planDay_65 hn hin ?_
          refine EV_aload_n dX3_planDay_66 rfl ?_
          refine ES_getf dX3_planDay_67 fkX3_126 hn (by assumption) rfl ?_
          refine ES_callV dX3_planDay_70 mkX3_110 mfX3_plan mvX3_plan hn o_judge rfl (sp_plan σ hC hR) rfl rfl (Nat.le_of_ble_eq_true rfl) ?_
          refine EV_iinc dX3_planDay_73 rfl (Nat.le_of_ble_eq_true rfl) rfl ?_
          refine EV_goto 10 dX3_planDay_76 (by decide) ?_
          rw [show nI i + Int32.ofInt 1 = nI (i + 1) from (nI_succ i).symm]
          have hp := dayStep_pl (σ := σ) (day := day) (i := i)
          simp only [dayL, dayStep, if_neg c18, if_neg c36, if_neg c50] at hp ⊢
          exact ih (i + 1) _ _ rfl (hW.pl hp) (by omega)
theorem sp_planDay {σ : qσ} (day : Int32) {cc fc zc : Nat} (hW : WF σ 14 cc fc zc) : SP z (k + 2) mX3_planDay [.ref 108, .int day] σ none (planDayF σ day fc) := by
  refine SP_of 2 (by decide) (Nat.le_of_ble_eq_true rfl) fun X n hn => ?_
  refine EV_aload_n dX3_planDay_0 rfl ?_
  refine ES_getf dX3_planDay_1 fkX3_9 hn o_judge rfl ?_
  refine EV_iconst (v := 0) dX3_planDay_4 (by decide) ?_
  refine ES_callS dX3_planDay_5 mkX3_114 mfJ7_fill msJ7_fill hn (sp_fill z (k + 1) 0 a_planned (by omega)) rfl rfl (Nat.le_of_ble_eq_true rfl) ?_
  refine EV_iconst (v := 0) dX3_planDay_8 (by decide) ?_
  refine EV_istore_n dX3_planDay_9 (Nat.le_of_ble_eq_true rfl) (Nat.le_of_ble_eq_true rfl) rfl ?_
  exact lp_day hn day fc 0 _ _ rfl (hW.pl (Pl.rf.row _)) (by omega)
theorem sp_plannedNoise {σ : qσ} {c : Int32} (day : Int32) {cc fc zc : Nat} (hW : WF σ 14 cc fc zc) (hc : vp_in c 25) : SP z (k + 3) mX3_plannedNoise [.ref 108, .int c, .int day] σ (some (.int (planDayF σ day fc 109 c.toNatClampNeg))) (planDayF σ day fc) := by
  refine SP_of 0 (by decide) (Nat.le_of_ble_eq_true rfl) fun X n hn => ?_
  refine EV_aload_n dX3_plannedNoise_0 rfl ?_
  refine EV_iload_n dX3_plannedNoise_1 rfl ?_
  refine ES_callV dX3_plannedNoise_2 mkX3_106 mfX3_planDay mvX3_planDay hn o_judge rfl (sp_planDay day hW) rfl rfl (Nat.le_of_ble_eq_true rfl) ?_
  refine EV_aload_n dX3_plannedNoise_5 rfl ?_
  refine ES_getf dX3_plannedNoise_6 fkX3_9 hn o_judge rfl ?_
  refine EV_iload_n dX3_plannedNoise_9 rfl ?_
  refine ES_iald dX3_plannedNoise_10 hn a_planned hc ?_
  exact ES_iret dX3_plannedNoise_11 rfl rfl rfl rfl
/-! the reasons -/
def towerL (σ : qσ) (r : Nat) : Nat → Nat → Bool
  | 0, _ => false
  | j + 1, i => if bI (isCellF (atF σ r (nI i))) = 0 then towerL σ r j (i + 1) else if σ 4 (atF σ r (nI i)).toNatClampNeg = 0 then towerL σ r j (i + 1) else true
set_option maxHeartbeats 4000000 in
theorem lp_tower (hn : 112 ≤ n) {σ : qσ} {r : Nat} (hr : okRt σ r) : ∀ (j i : Nat) (w3 : Value), w3.category = 1 → i + j = cntF σ r → EV z (k + 1) mX3_meetsTower 2 [.ref 108, .ref r, .int (nI i), w3] [] (mm σ X) n 0 0 (qRes (some (.int (bI (towerL σ r j i)))) (mm σ X) n) := by
  have hO := hr.1.1
  have hq := hr.cnt
  intro j
  induction j with
  | zero =>
    intro i w3 h3 hi
    refine EV_iload_n dX3_meetsTower_2 rfl ?_
    refine EV_aload_n dX3_meetsTower_3 rfl ?_
    refine ES_getf dX3_meetsTower_4 fkX3_59 hn (by assumption) rfl ?_
    refine EV_icmp_ge 43 dX3_meetsTower_7 (by decide) (fun c7 => ?_) (fun c7 => ?_)
    · skip
      refine EV_iconst (v := 0) dX3_meetsTower_43 (by decide) ?_
      exact ES_iret dX3_meetsTower_44 rfl rfl rfl rfl
    · skip
      exact absurd (by rw [hq.1]; exact nI_le (by omega) (by omega)) c7
  | succ j ih =>
    intro i w3 h3 hi
    refine EV_iload_n dX3_meetsTower_2 rfl ?_
    refine EV_aload_n dX3_meetsTower_3 rfl ?_
    refine ES_getf dX3_meetsTower_4 fkX3_59 hn (by assumption) rfl ?_
    refine EV_icmp_ge 43 dX3_meetsTower_7 (by decide) (fun c7 => ?_) (fun c7 => ?_)
    · skip
      exact absurd c7 (by rw [hq.1]; exact nI_ge (by omega) (by omega))
    · skip
      refine EV_aload_n dX3_meetsTower_10 rfl ?_
      refine EV_iload_n dX3_meetsTower_11 rfl ?_
      refine ES_callV dX3_meetsTower_12 mkX3_64 mfX4_at mvX4_at hn (by assumption) rfl (sp_at z k hr.1.1 hr.1.2 _) rfl rfl (Nat.le_of_ble_eq_true rfl) ?_
      refine EV_istore_n dX3_meetsTower_15 (Nat.le_of_ble_eq_true rfl) (Nat.le_of_ble_eq_true rfl) rfl ?_
      refine EV_iload_n dX3_meetsTower_16 rfl ?_
      refine ES_callS dX3_meetsTower_17 mkX3_68 mfX8_isCell msX8_isCell hn (sp_isCell z k _) rfl rfl (Nat.le_of_ble_eq_true rfl) ?_
      refine EV_if_eq 37 dX3_meetsTower_20 (by decide) (fun c20 => ?_) (fun c20 => ?_)
      · skip
        refine EV_iinc dX3_meetsTower_37 rfl (Nat.le_of_ble_eq_true rfl) rfl ?_
        refine EV_goto 2 dX3_meetsTower_40 (by decide) ?_
        rw [show nI i + Int32.ofInt 1 = nI (i + 1) from (nI_succ i).symm]
        simp only [towerL, if_neg c7, if_pos c20]
        exact ih (i + 1) _ rfl (by omega)
      · skip
        refine EV_aload_n dX3_meetsTower_23 rfl ?_
        refine ES_getf dX3_meetsTower_24 fkX3_15 hn o_judge rfl ?_
        refine ES_getf dX3_meetsTower_27 fkX3_72 hn o_ground rfl ?_
        refine EV_iload_n dX3_meetsTower_30 rfl ?_
        refine ES_zald dX3_meetsTower_31 hn a_towers (isCell_in c20) ?_
        refine EV_if_eq 37 dX3_meetsTower_32 (by decide) (fun c32 => ?_) (fun c32 => ?_)
        · skip
          refine EV_iinc dX3_meetsTower_37 rfl (Nat.le_of_ble_eq_true rfl) rfl ?_
          refine EV_goto 2 dX3_meetsTower_40 (by decide) ?_
          rw [show nI i + Int32.ofInt 1 = nI (i + 1) from (nI_succ i).symm]
          simp only [towerL, if_neg c7, if_neg c20, if_pos c32]
          exact ih (i + 1) _ rfl (by omega)
        · skip
          refine EV_iconst (v := 1) dX3_meetsTower_35 (by decide) ?_
          exact ES_iret dX3_meetsTower_36 rfl rfl (by simp only [towerL, if_neg c7, if_neg c20, if_neg c32]; try rfl) rfl
theorem sp_meetsTower {σ : qσ} {r : Nat} (hr : okRt σ r) : SP z (k + 1) mX3_meetsTower [.ref 108, .ref r] σ (some (.int (bI (towerL σ r (cntF σ r) 0)))) σ := by
  refine SP_of 2 (by decide) (Nat.le_of_ble_eq_true rfl) fun X n hn => ?_
  refine EV_iconst (v := 0) dX3_meetsTower_0 (by decide) ?_
  refine EV_istore_n dX3_meetsTower_1 (Nat.le_of_ble_eq_true rfl) (Nat.le_of_ble_eq_true rfl) rfl ?_
  exact lp_tower hn hr _ 0 _ rfl (by omega)
def zoneInL (σ : qσ) (r rc zc i : Nat) : Nat → Nat → Bool
  | 0, _ => false
  | j + 1, t => if bI (isShutF σ zc (atF σ r (nI i)) (σ rc 0) (nI t)) = 0 then zoneInL σ r rc zc i j (t + 1) else true
def zoneL (σ : qσ) (r rc zc st : Nat) : Nat → Nat → Bool
  | 0, _ => false
  | j + 1, i => if zoneInL σ r rc zc i 3 (st + 2 * i - 1) = true then true else zoneL σ r rc zc st j (i + 1)
set_option maxHeartbeats 4000000 in
theorem lp_zoneIn (hn : 112 ≤ n) {σ : qσ} {r rc cc fc zc i th : Nat} (hW : WF σ 14 cc fc zc) (hr : okRt σ r) (hc : isO 0 rc) (w3 : Value) (hth : th < 2 ^ 30) (rest : Bool)
    (kk : ∀ w6 : Value, w6.category = 1 → EV z (k + 2) mX3_meetsZone 65 [.ref 108, .ref rc, .ref r, w3, .int (nI i), .int (nI th), w6] [] (mm σ X) n 0 0 (qRes (some (.int (bI rest))) (mm σ X) n)) : ∀ (j t : Nat), t + j = th + 2 → EV z (k + 2) mX3_meetsZone 26 [.ref 108, .ref rc, .ref r, w3, .int (nI i), .int (nI th), .int (nI t)] [] (mm σ X) n 0 0 (qRes (some (.int (bI (if zoneInL σ r rc zc i j t = true then true else rest)))) (mm σ X) n) := by
  have hO := hr.1.1
  intro j
  induction j with
  | zero =>
    intro t ht
    refine EV_iload dX3_meetsZone_26 rfl ?_
    refine EV_iload dX3_meetsZone_28 rfl ?_
    refine EV_iconst (v := 1) dX3_meetsZone_30 (by decide) ?_
    refine EV_iadd dX3_meetsZone_31 ?_
    refine EV_icmp_gt 65 dX3_meetsZone_32 (by decide) (fun c32 => ?_) (fun c32 => ?_)
    · skip
      exact kk _ rfl
    · skip
      exact absurd (show nI th + 1 < nI t by rw [← nI_succ]; exact nI_lt (by omega) (by omega)) c32
  | succ j ih =>
    intro t ht
    refine EV_iload dX3_meetsZone_26 rfl ?_
    refine EV_iload dX3_meetsZone_28 rfl ?_
    refine EV_iconst (v := 1) dX3_meetsZone_30 (by decide) ?_
    refine EV_iadd dX3_meetsZone_31 ?_
    refine EV_icmp_gt 65 dX3_meetsZone_32 (by decide) (fun c32 => ?_) (fun c32 => ?_)
    · skip
      exact absurd c32 (by rw [show nI th + 1 = nI (th + 1) from (nI_succ th).symm]; exact nI_nlt (by omega) (by omega))
    · skip
      refine EV_aload_n dX3_meetsZone_35 rfl ?_
      refine ES_getf dX3_meetsZone_36 fkX3_15 hn o_judge rfl ?_
      refine EV_aload_n dX3_meetsZone_39 rfl ?_
      refine EV_iload dX3_meetsZone_40 rfl ?_
      refine ES_callV dX3_meetsZone_42 mkX3_64 mfX4_at mvX4_at hn (by assumption) rfl (sp_at z (k + 1) hr.1.1 hr.1.2 _) rfl rfl (Nat.le_of_ble_eq_true rfl) ?_
      refine EV_aload_n dX3_meetsZone_45 rfl ?_
      refine ES_getf dX3_meetsZone_46 fkX3_76 hn (by assumption) rfl ?_
      refine EV_iload dX3_meetsZone_49 rfl ?_
      refine ES_callV dX3_meetsZone_51 mkX3_79 mfX2_isShut mvX2_isShut hn o_ground rfl (sp_isShut z k hW.2.2.2.1.1 hW.2.2.2.1.2 _ _ _) rfl rfl (Nat.le_of_ble_eq_true rfl) ?_
      refine EV_if_eq 59 dX3_meetsZone_54 (by decide) (fun c54 => ?_) (fun c54 => ?_)
      · skip
        refine EV_iinc dX3_meetsZone_59 rfl (Nat.le_of_ble_eq_true rfl) rfl ?_
        refine EV_goto 26 dX3_meetsZone_62 (by decide) ?_
        rw [show nI t + Int32.ofInt 1 = nI (t + 1) from (nI_succ t).symm]
        simp only [zoneInL, if_neg c32, if_pos c54]
        exact ih (t + 1) (by omega)
      · skip
        refine EV_iconst (v := 1) dX3_meetsZone_57 (by decide) ?_
        exact ES_iret dX3_meetsZone_58 rfl rfl (by simp only [zoneInL, if_neg c32, if_neg c54]; try rfl) rfl
theorem there_eq (st i : Nat) : nI st + 2 * nI i = nI (st + 2 * i) := by
  rw [show (2 : Int32) = nI 2 from rfl, pk_mul, nI_add]
set_option maxHeartbeats 4000000 in
theorem lp_zone (hn : 112 ≤ n) {σ : qσ} {r rc cc fc zc st : Nat} (hW : WF σ 14 cc fc zc) (hr : okRt σ r) (hc : isO 0 rc) (hst : 0 < st ∧ st < 2 ^ 20) : ∀ (j i : Nat) (w5 w6 : Value), w5.category = 1 → w6.category = 1 → i + j = cntF σ r → EV z (k + 2) mX3_meetsZone 3 [.ref 108, .ref rc, .ref r, .int (nI st), .int (nI i), w5, w6] [] (mm σ X) n 0 0 (qRes (some (.int (bI (zoneL σ r rc zc st j i)))) (mm σ X) n) := by
  have hO := hr.1.1
  have hq := hr.cnt
  intro j
  induction j with
  | zero =>
    intro i w5 w6 h5 h6 hi
    refine EV_iload dX3_meetsZone_3 rfl ?_
    refine EV_aload_n dX3_meetsZone_5 rfl ?_
    refine ES_getf dX3_meetsZone_6 fkX3_59 hn (by assumption) rfl ?_
    refine EV_icmp_ge 71 dX3_meetsZone_9 (by decide) (fun c9 => ?_) (fun c9 => ?_)
    · skip
      refine EV_iconst (v := 0) dX3_meetsZone_71 (by decide) ?_
      exact ES_iret dX3_meetsZone_72 rfl rfl rfl rfl
    · skip
      exact absurd (by rw [hq.1]; exact nI_le (by omega) (by omega)) c9
  | succ j ih =>
    intro i w5 w6 h5 h6 hi
    refine EV_iload dX3_meetsZone_3 rfl ?_
    refine EV_aload_n dX3_meetsZone_5 rfl ?_
    refine ES_getf dX3_meetsZone_6 fkX3_59 hn (by assumption) rfl ?_
    refine EV_icmp_ge 71 dX3_meetsZone_9 (by decide) (fun c9 => ?_) (fun c9 => ?_)
    · skip
      exact absurd c9 (by rw [hq.1]; exact nI_ge (by omega) (by omega))
    · skip
      refine EV_iload_n dX3_meetsZone_12 rfl ?_
      refine EV_iconst (v := 2) dX3_meetsZone_13 (by decide) ?_
      refine EV_iload dX3_meetsZone_14 rfl ?_
      refine EV_imul dX3_meetsZone_16 ?_
      refine EV_iadd dX3_meetsZone_17 ?_
      rw [there_eq]
      refine EV_istore dX3_meetsZone_18 (Nat.le_of_ble_eq_true rfl) (Nat.le_of_ble_eq_true rfl) rfl ?_
      refine EV_iload dX3_meetsZone_20 rfl ?_
      refine EV_iconst (v := 1) dX3_meetsZone_22 (by decide) ?_
      refine EV_isub dX3_meetsZone_23 ?_
      rw [show nI (st + 2 * i) - 1 = nI (st + 2 * i - 1) from by
        obtain ⟨v, hv⟩ : ∃ v, st + 2 * i = v + 1 := ⟨st + 2 * i - 1, by omega⟩
        rw [hv, nI_pred, Nat.add_sub_cancel]]
      refine EV_istore dX3_meetsZone_24 (Nat.le_of_ble_eq_true rfl) (Nat.le_of_ble_eq_true rfl) rfl ?_
      rw [zoneL]
      refine lp_zoneIn hn hW hr hc _ (by omega) (zoneL σ r rc zc st j (i + 1)) (fun w6 g6 => ?_) 3 _ (by omega)
      refine EV_iinc dX3_meetsZone_65 rfl (Nat.le_of_ble_eq_true rfl) rfl ?_
      refine EV_goto 3 dX3_meetsZone_68 (by decide) ?_
      rw [show nI i + Int32.ofInt 1 = nI (i + 1) from (nI_succ i).symm]
      exact ih (i + 1) _ _ rfl g6 (by omega)
theorem sp_meetsZone {σ : qσ} {r rc cc fc zc st : Nat} (hW : WF σ 14 cc fc zc) (hr : okRt σ r) (hc : isO 0 rc) (hst : 0 < st ∧ st < 2 ^ 20) : SP z (k + 2) mX3_meetsZone [.ref 108, .ref rc, .ref r, .int (nI st)] σ (some (.int (bI (zoneL σ r rc zc st (cntF σ r) 0)))) σ := by
  refine SP_of 3 (by decide) (Nat.le_of_ble_eq_true rfl) fun X n hn => ?_
  refine EV_iconst (v := 0) dX3_meetsZone_0 (by decide) ?_
  refine EV_istore dX3_meetsZone_1 (Nat.le_of_ble_eq_true rfl) (Nat.le_of_ble_eq_true rfl) rfl ?_
  exact lp_zone hn hW hr hc hst _ 0 _ _ rfl rfl (by omega)
def othersL (σ : qσ) (num : Int32) (r : Nat) (st : Int32) : Nat → Nat → Bool
  | 0, _ => false
  | j + 1, i => if σ (14 + 10 + 3 * i) 0 = num then othersL σ num r st j (i + 1) else if bI (aheadF (σ (14 + 10 + 3 * i))) = 0 then othersL σ num r st j (i + 1)
      else if bI (closeF σ (14 + 10 + 3 * i) r st) = 0 then othersL σ num r st j (i + 1) else if bI (meetL σ (14 + 10 + 3 * i) r st (cntF σ r) (cntF σ (14 + 10 + 3 * i + 1)) 0) = 0 then othersL σ num r st j (i + 1) else true
set_option maxHeartbeats 4000000 in
theorem lp_others (hn : 112 ≤ n) {σ : qσ} {r cc fc zc : Nat} (hW : WF σ 14 cc fc zc) (hr : okRt σ r) (num st : Int32) : ∀ (j i : Nat) (w5 : Value), w5.category = 1 → i + j = fc → EV z (k + 2) mX3_meetsOthers 3 [.ref 108, .int num, .ref r, .int st, .int (nI i), w5] [] (mm σ X) n 0 0 (qRes (some (.int (bI (othersL σ num r st j i)))) (mm σ X) n) := by
  have hO := o_sky s14
  have hc := hW.2.2.1
  intro j
  induction j with
  | zero =>
    intro i w5 h5 hi
    refine EV_iload dX3_meetsOthers_3 rfl ?_
    refine EV_aload_n dX3_meetsOthers_5 rfl ?_
    refine ES_getf dX3_meetsOthers_6 fkX3_19 hn o_judge rfl ?_
    refine ES_getf dX3_meetsOthers_9 fkX3_83 hn (by assumption) rfl ?_
    refine EV_icmp_ge 72 dX3_meetsOthers_12 (by decide) (fun c12 => ?_) (fun c12 => ?_)
    · skip
      refine EV_iconst (v := 0) dX3_meetsOthers_72 (by decide) ?_
      exact ES_iret dX3_meetsOthers_73 rfl rfl rfl rfl
    · skip
      exact absurd (by rw [hc.1]; exact nI_le (by omega) (by omega)) c12
  | succ j ih =>
    intro i w5 h5 hi
    have hF := fl_of s14 (show i < 12 by omega)
    have hFO := hF.1
    have hR := hW.rt (show i < 12 by omega)
    have q1 := hr.cnt
    have q2 := hR.cnt
    refine EV_iload dX3_meetsOthers_3 rfl ?_
    refine EV_aload_n dX3_meetsOthers_5 rfl ?_
    refine ES_getf dX3_meetsOthers_6 fkX3_19 hn o_judge rfl ?_
    refine ES_getf dX3_meetsOthers_9 fkX3_83 hn (by assumption) rfl ?_
    refine EV_icmp_ge 72 dX3_meetsOthers_12 (by decide) (fun c12 => ?_) (fun c12 => ?_)
    · skip
      exact absurd c12 (by rw [hc.1]; exact nI_ge (by omega) (by omega))
    · skip
      refine EV_aload_n dX3_meetsOthers_15 rfl ?_
      refine ES_getf dX3_meetsOthers_16 fkX3_19 hn o_judge rfl ?_
      refine ES_getf dX3_meetsOthers_19 fkX3_86 hn (by assumption) rfl ?_
      refine EV_iload dX3_meetsOthers_22 rfl ?_
      refine ES_aaldF s14 dX3_meetsOthers_24 hn (by omega) ?_
      refine EV_astore dX3_meetsOthers_25 (Nat.le_of_ble_eq_true rfl) (Nat.le_of_ble_eq_true rfl) rfl ?_
      refine EV_aload dX3_meetsOthers_27 rfl ?_
      refine ES_getf dX3_meetsOthers_29 fkX3_90 hn (by assumption) rfl ?_
      refine EV_iload_n dX3_meetsOthers_32 rfl ?_
      refine EV_icmp_eq 66 dX3_meetsOthers_33 (by decide) (fun c33 => ?_) (fun c33 => ?_)
      · skip
        refine EV_iinc dX3_meetsOthers_66 rfl (Nat.le_of_ble_eq_true rfl) rfl ?_
        refine EV_goto 3 dX3_meetsOthers_69 (by decide) ?_
        rw [show nI i + Int32.ofInt 1 = nI (i + 1) from (nI_succ i).symm]
        simp only [othersL, if_neg c12, if_pos c33]
        exact ih (i + 1) _ rfl (by omega)
      · skip
        refine EV_aload dX3_meetsOthers_36 rfl ?_
        refine ES_callV dX3_meetsOthers_38 mkX3_95 mfX1_isAhead mvX1_isAhead hn (by assumption) rfl (sp_isAhead z (k + 1) hFO) rfl rfl (Nat.le_of_ble_eq_true rfl) ?_
        refine EV_if_eq 66 dX3_meetsOthers_41 (by decide) (fun c41 => ?_) (fun c41 => ?_)
        · skip
          refine EV_iinc dX3_meetsOthers_66 rfl (Nat.le_of_ble_eq_true rfl) rfl ?_
          refine EV_goto 3 dX3_meetsOthers_69 (by decide) ?_
          rw [show nI i + Int32.ofInt 1 = nI (i + 1) from (nI_succ i).symm]
          simp only [othersL, if_neg c12, if_neg c33, if_pos c41]
          exact ih (i + 1) _ rfl (by omega)
        · skip
          refine EV_aload dX3_meetsOthers_44 rfl ?_
          refine EV_aload_n dX3_meetsOthers_46 rfl ?_
          refine EV_iload_n dX3_meetsOthers_47 rfl ?_
          refine ES_callV dX3_meetsOthers_48 mkX3_99 mfX1_isCloseInTime mvX1_isCloseInTime hn (by assumption) rfl (sp_isClose z k hF hr.1 _) rfl rfl (Nat.le_of_ble_eq_true rfl) ?_
          refine EV_if_eq 66 dX3_meetsOthers_51 (by decide) (fun c51 => ?_) (fun c51 => ?_)
          · skip
            refine EV_iinc dX3_meetsOthers_66 rfl (Nat.le_of_ble_eq_true rfl) rfl ?_
            refine EV_goto 3 dX3_meetsOthers_69 (by decide) ?_
            rw [show nI i + Int32.ofInt 1 = nI (i + 1) from (nI_succ i).symm]
            simp only [othersL, if_neg c12, if_neg c33, if_neg c41, if_pos c51]
            exact ih (i + 1) _ rfl (by omega)
          · skip
            refine EV_aload dX3_meetsOthers_54 rfl ?_
            refine EV_aload_n dX3_meetsOthers_56 rfl ?_
            refine EV_iload_n dX3_meetsOthers_57 rfl ?_
            refine ES_callV dX3_meetsOthers_58 mkX3_103 mfX1_meets mvX1_meets hn (by assumption) rfl (sp_meets z k hF hr.1 q1.1 (by omega) q2.1 (by omega) _) rfl rfl (Nat.le_of_ble_eq_true rfl) ?_
            refine EV_if_eq 66 dX3_meetsOthers_61 (by decide) (fun c61 => ?_) (fun c61 => ?_)
            · skip
              refine EV_iinc dX3_meetsOthers_66 rfl (Nat.le_of_ble_eq_true rfl) rfl ?_
              refine EV_goto 3 dX3_meetsOthers_69 (by decide) ?_
              rw [show nI i + Int32.ofInt 1 = nI (i + 1) from (nI_succ i).symm]
              simp only [othersL, if_neg c12, if_neg c33, if_neg c41, if_neg c51, if_pos c61]
              exact ih (i + 1) _ rfl (by omega)
            · skip
              refine EV_iconst (v := 1) dX3_meetsOthers_64 (by decide) ?_
              exact ES_iret dX3_meetsOthers_65 rfl rfl (by simp only [othersL, if_neg c12, if_neg c33, if_neg c41, if_neg c51, if_neg c61]; try rfl) rfl
theorem sp_meetsOthers {σ : qσ} {r cc fc zc : Nat} (hW : WF σ 14 cc fc zc) (hr : okRt σ r) (num st : Int32) : SP z (k + 2) mX3_meetsOthers [.ref 108, .int num, .ref r, .int st] σ (some (.int (bI (othersL σ num r st fc 0)))) σ := by
  refine SP_of 2 (by decide) (Nat.le_of_ble_eq_true rfl) fun X n hn => ?_
  refine EV_iconst (v := 0) dX3_meetsOthers_0 (by decide) ?_
  refine EV_istore dX3_meetsOthers_1 (Nat.le_of_ble_eq_true rfl) (Nat.le_of_ble_eq_true rfl) rfl ?_
  exact lp_others hn hW hr num st fc 0 _ rfl (by omega)
def itselfL (σ : qσ) (num : Int32) (r : Nat) (st : Int32) : Nat → Nat → Bool
  | 0, _ => false
  | j + 1, i => if σ (14 + 10 + 3 * i) 0 = num then (if bI (aheadF (σ (14 + 10 + 3 * i))) = 0 then itselfL σ num r st j (i + 1)
      else if bI (closeF σ (14 + 10 + 3 * i) r st) = 0 then itselfL σ num r st j (i + 1) else true) else itselfL σ num r st j (i + 1)
set_option maxHeartbeats 4000000 in
theorem lp_itself (hn : 112 ≤ n) {σ : qσ} {r cc fc zc : Nat} (hW : WF σ 14 cc fc zc) (hr : okRt σ r) (num st : Int32) : ∀ (j i : Nat) (w5 : Value), w5.category = 1 → i + j = fc → EV z (k + 2) mX3_meetsItself 3 [.ref 108, .int num, .ref r, .int st, .int (nI i), w5] [] (mm σ X) n 0 0 (qRes (some (.int (bI (itselfL σ num r st j i)))) (mm σ X) n) := by
  have hO := o_sky s14
  have hc := hW.2.2.1
  intro j
  induction j with
  | zero =>
    intro i w5 h5 hi
    refine EV_iload dX3_meetsItself_3 rfl ?_
    refine EV_aload_n dX3_meetsItself_5 rfl ?_
    refine ES_getf dX3_meetsItself_6 fkX3_19 hn o_judge rfl ?_
    refine ES_getf dX3_meetsItself_9 fkX3_83 hn (by assumption) rfl ?_
    refine EV_icmp_ge 62 dX3_meetsItself_12 (by decide) (fun c12 => ?_) (fun c12 => ?_)
    · skip
      refine EV_iconst (v := 0) dX3_meetsItself_62 (by decide) ?_
      exact ES_iret dX3_meetsItself_63 rfl rfl rfl rfl
    · skip
      exact absurd (by rw [hc.1]; exact nI_le (by omega) (by omega)) c12
  | succ j ih =>
    intro i w5 h5 hi
    have hF := fl_of s14 (show i < 12 by omega)
    have hFO := hF.1
    refine EV_iload dX3_meetsItself_3 rfl ?_
    refine EV_aload_n dX3_meetsItself_5 rfl ?_
    refine ES_getf dX3_meetsItself_6 fkX3_19 hn o_judge rfl ?_
    refine ES_getf dX3_meetsItself_9 fkX3_83 hn (by assumption) rfl ?_
    refine EV_icmp_ge 62 dX3_meetsItself_12 (by decide) (fun c12 => ?_) (fun c12 => ?_)
    · skip
      exact absurd c12 (by rw [hc.1]; exact nI_ge (by omega) (by omega))
    · skip
      refine EV_aload_n dX3_meetsItself_15 rfl ?_
      refine ES_getf dX3_meetsItself_16 fkX3_19 hn o_judge rfl ?_
      refine ES_getf dX3_meetsItself_19 fkX3_86 hn (by assumption) rfl ?_
      refine EV_iload dX3_meetsItself_22 rfl ?_
      refine ES_aaldF s14 dX3_meetsItself_24 hn (by omega) ?_
      refine EV_astore dX3_meetsItself_25 (Nat.le_of_ble_eq_true rfl) (Nat.le_of_ble_eq_true rfl) rfl ?_
      refine EV_aload dX3_meetsItself_27 rfl ?_
      refine ES_getf dX3_meetsItself_29 fkX3_90 hn (by assumption) rfl ?_
      refine EV_iload_n dX3_meetsItself_32 rfl ?_
      refine EV_icmp_ne 56 dX3_meetsItself_33 (by decide) (fun c33 => ?_) (fun c33 => ?_)
      · skip
        refine EV_iinc dX3_meetsItself_56 rfl (Nat.le_of_ble_eq_true rfl) rfl ?_
        refine EV_goto 3 dX3_meetsItself_59 (by decide) ?_
        rw [show nI i + Int32.ofInt 1 = nI (i + 1) from (nI_succ i).symm]
        simp only [itselfL, if_neg c12, if_neg c33]
        exact ih (i + 1) _ rfl (by omega)
      · skip
        refine EV_aload dX3_meetsItself_36 rfl ?_
        refine ES_callV dX3_meetsItself_38 mkX3_95 mfX1_isAhead mvX1_isAhead hn (by assumption) rfl (sp_isAhead z (k + 1) hFO) rfl rfl (Nat.le_of_ble_eq_true rfl) ?_
        refine EV_if_eq 56 dX3_meetsItself_41 (by decide) (fun c41 => ?_) (fun c41 => ?_)
        · skip
          refine EV_iinc dX3_meetsItself_56 rfl (Nat.le_of_ble_eq_true rfl) rfl ?_
          refine EV_goto 3 dX3_meetsItself_59 (by decide) ?_
          rw [show nI i + Int32.ofInt 1 = nI (i + 1) from (nI_succ i).symm]
          simp only [itselfL, if_neg c12, if_pos c33, if_pos c41]
          exact ih (i + 1) _ rfl (by omega)
        · skip
          refine EV_aload dX3_meetsItself_44 rfl ?_
          refine EV_aload_n dX3_meetsItself_46 rfl ?_
          refine EV_iload_n dX3_meetsItself_47 rfl ?_
          refine ES_callV dX3_meetsItself_48 mkX3_99 mfX1_isCloseInTime mvX1_isCloseInTime hn (by assumption) rfl (sp_isClose z k hF hr.1 _) rfl rfl (Nat.le_of_ble_eq_true rfl) ?_
          refine EV_if_eq 56 dX3_meetsItself_51 (by decide) (fun c51 => ?_) (fun c51 => ?_)
          · skip
            refine EV_iinc dX3_meetsItself_56 rfl (Nat.le_of_ble_eq_true rfl) rfl ?_
            refine EV_goto 3 dX3_meetsItself_59 (by decide) ?_
            rw [show nI i + Int32.ofInt 1 = nI (i + 1) from (nI_succ i).symm]
            simp only [itselfL, if_neg c12, if_pos c33, if_neg c41, if_pos c51]
            exact ih (i + 1) _ rfl (by omega)
          · skip
            refine EV_iconst (v := 1) dX3_meetsItself_54 (by decide) ?_
            exact ES_iret dX3_meetsItself_55 rfl rfl (by simp only [itselfL, if_neg c12, if_pos c33, if_neg c41, if_neg c51]; try rfl) rfl
theorem sp_meetsItself {σ : qσ} {r cc fc zc : Nat} (hW : WF σ 14 cc fc zc) (hr : okRt σ r) (num st : Int32) : SP z (k + 2) mX3_meetsItself [.ref 108, .int num, .ref r, .int st] σ (some (.int (bI (itselfL σ num r st fc 0)))) σ := by
  refine SP_of 2 (by decide) (Nat.le_of_ble_eq_true rfl) fun X n hn => ?_
  refine EV_iconst (v := 0) dX3_meetsItself_0 (by decide) ?_
  refine EV_istore dX3_meetsItself_1 (Nat.le_of_ble_eq_true rfl) (Nat.le_of_ble_eq_true rfl) rfl ?_
  exact lp_itself hn hW hr num st fc 0 _ rfl (by omega)
def loudL (σ : qσ) (r : Nat) : Nat → Nat → Bool
  | 0, _ => false
  | j + 1, i => if bI (isCellF (atF σ r (nI i))) = 0 then loudL σ r j (i + 1) else if σ 109 (atF σ r (nI i)).toNatClampNeg ≤ 60 then loudL σ r j (i + 1) else true
def loudS (σ : qσ) (rc r : Nat) (st : Int32) (fc : Nat) : qσ := planL rc r (cntF (planDayF σ (st / 1440) fc) r) 0 (planDayF σ (st / 1440) fc)
theorem loudS_pl {σ : qσ} {rc r : Nat} {st : Int32} {fc : Nat} : Pl σ (loudS σ rc r st fc) := planDay_pl.tr (planL_pl _ _ _)
set_option maxHeartbeats 4000000 in
theorem lp_loud (hn : 112 ≤ n) {σ : qσ} {r : Nat} (hr : okRt σ r) (w1 : Value) (w3 : Int32) : ∀ (j i : Nat) (w5 : Value), w5.category = 1 → i + j = cntF σ r → EV z (k + 1) mX3_isTooLoud 18 [.ref 108, w1, .ref r, .int w3, .int (nI i), w5] [] (mm σ X) n 0 0 (qRes (some (.int (bI (loudL σ r j i)))) (mm σ X) n) := by
  have hO := hr.1.1
  have hq := hr.cnt
  intro j
  induction j with
  | zero =>
    intro i w5 h5 hi
    refine EV_iload dX3_isTooLoud_18 rfl ?_
    refine EV_aload_n dX3_isTooLoud_20 rfl ?_
    refine ES_getf dX3_isTooLoud_21 fkX3_59 hn (by assumption) rfl ?_
    refine EV_icmp_ge 63 dX3_isTooLoud_24 (by decide) (fun c24 => ?_) (fun c24 => ?_)
    · skip
      refine EV_iconst (v := 0) dX3_isTooLoud_63 (by decide) ?_
      exact ES_iret dX3_isTooLoud_64 rfl rfl rfl rfl
    · skip
      exact absurd (by rw [hq.1]; exact nI_le (by omega) (by omega)) c24
  | succ j ih =>
    intro i w5 h5 hi
    refine EV_iload dX3_isTooLoud_18 rfl ?_
    refine EV_aload_n dX3_isTooLoud_20 rfl ?_
    refine ES_getf dX3_isTooLoud_21 fkX3_59 hn (by assumption) rfl ?_
    refine EV_icmp_ge 63 dX3_isTooLoud_24 (by decide) (fun c24 => ?_) (fun c24 => ?_)
    · skip
      exact absurd c24 (by rw [hq.1]; exact nI_ge (by omega) (by omega))
    · skip
      refine EV_aload_n dX3_isTooLoud_27 rfl ?_
      refine EV_iload dX3_isTooLoud_28 rfl ?_
      refine ES_callV dX3_isTooLoud_30 mkX3_64 mfX4_at mvX4_at hn (by assumption) rfl (sp_at z k hr.1.1 hr.1.2 _) rfl rfl (Nat.le_of_ble_eq_true rfl) ?_
      refine EV_istore dX3_isTooLoud_33 (Nat.le_of_ble_eq_true rfl) (Nat.le_of_ble_eq_true rfl) rfl ?_
      refine EV_iload dX3_isTooLoud_35 rfl ?_
      refine ES_callS dX3_isTooLoud_37 mkX3_68 mfX8_isCell msX8_isCell hn (sp_isCell z k _) rfl rfl (Nat.le_of_ble_eq_true rfl) ?_
      refine EV_if_eq 57 dX3_isTooLoud_40 (by decide) (fun c40 => ?_) (fun c40 => ?_)
      · skip
        refine EV_iinc dX3_isTooLoud_57 rfl (Nat.le_of_ble_eq_true rfl) rfl ?_
        refine EV_goto 18 dX3_isTooLoud_60 (by decide) ?_
        rw [show nI i + Int32.ofInt 1 = nI (i + 1) from (nI_succ i).symm]
        simp only [loudL, if_neg c24, if_pos c40]
        exact ih (i + 1) _ rfl (by omega)
      · skip
        refine EV_aload_n dX3_isTooLoud_43 rfl ?_
        refine ES_getf dX3_isTooLoud_44 fkX3_9 hn o_judge rfl ?_
        refine EV_iload dX3_isTooLoud_47 rfl ?_
        refine ES_iald dX3_isTooLoud_49 hn a_planned (isCell_in c40) ?_
        refine EV_bipush (v := 60) dX3_isTooLoud_50 (by decide) ?_
        refine EV_icmp_le 57 dX3_isTooLoud_52 (by decide) (fun c52 => ?_) (fun c52 => ?_)
        · skip
          refine EV_iinc dX3_isTooLoud_57 rfl (Nat.le_of_ble_eq_true rfl) rfl ?_
          refine EV_goto 18 dX3_isTooLoud_60 (by decide) ?_
          rw [show nI i + Int32.ofInt 1 = nI (i + 1) from (nI_succ i).symm]
          simp only [loudL, if_neg c24, if_neg c40, if_pos c52]
          exact ih (i + 1) _ rfl (by omega)
        · skip
          refine EV_iconst (v := 1) dX3_isTooLoud_55 (by decide) ?_
          exact ES_iret dX3_isTooLoud_56 rfl rfl (by simp only [loudL, if_neg c24, if_neg c40, if_neg c52]; try rfl) rfl
def loudB (σ : qσ) (rc r : Nat) (st : Int32) (fc : Nat) : Bool := loudL (loudS σ rc r st fc) r (cntF (loudS σ rc r st fc) r) 0
set_option maxHeartbeats 4000000 in
theorem sp_isTooLoud {σ : qσ} {r rc cc fc zc : Nat} (hW : WF σ 14 cc fc zc) (hr : okRt σ r) (hc : isO 0 rc) (st : Int32) : SP z (k + 3) mX3_isTooLoud [.ref 108, .ref rc, .ref r, .int st] σ (some (.int (bI (loudB σ rc r st fc)))) (loudS σ rc r st fc) := by
  refine SP_of 2 (by decide) (Nat.le_of_ble_eq_true rfl) fun X n hn => ?_
  refine EV_aload_n dX3_isTooLoud_0 rfl ?_
  refine EV_iload_n dX3_isTooLoud_1 rfl ?_
  refine EV_sipush (v := 1440) dX3_isTooLoud_2 (by decide) ?_
  refine EV_idiv dX3_isTooLoud_5 (by decide) ?_
  refine ES_callV dX3_isTooLoud_6 mkX3_106 mfX3_planDay mvX3_planDay hn o_judge rfl (sp_planDay _ hW) rfl rfl (Nat.le_of_ble_eq_true rfl) ?_
  refine EV_aload_n dX3_isTooLoud_9 rfl ?_
  refine EV_aload_n dX3_isTooLoud_10 rfl ?_
  refine EV_aload_n dX3_isTooLoud_11 rfl ?_
  refine ES_callV dX3_isTooLoud_12 mkX3_110 mfX3_plan mvX3_plan hn o_judge rfl (sp_plan (k := k + 1) (planDayF σ (st / 1440) fc) hc (hr.pl planDay_pl)) rfl rfl (Nat.le_of_ble_eq_true rfl) ?_
  refine EV_iconst (v := 0) dX3_isTooLoud_15 (by decide) ?_
  refine EV_istore dX3_isTooLoud_16 (Nat.le_of_ble_eq_true rfl) (Nat.le_of_ble_eq_true rfl) rfl ?_
  exact lp_loud (k := k + 2) hn (hr.pl loudS_pl) _ _ _ 0 _ rfl (by omega)
def reasonF (σ : qσ) (c r st fc zc : Nat) : Int32 :=
  if bI (towerL σ r (cntF σ r) 0) = 0 then (if bI (zoneL σ r (14 + 4 + c) zc st (cntF σ r) 0) = 0 then (if bI (othersL σ (nI c) r (nI st) fc 0) = 0 then (if bI (itselfL σ (nI c) r (nI st) fc 0) = 0 then
    (if costRF σ r (cntF σ r) ≤ σ (14 + 4 + c) 4 then (if bI (loudB σ (14 + 4 + c) r (nI st) fc) = 0 then 0 else 6) else 5) else 4) else 3) else 2) else 1
def reasonS (σ : qσ) (c r st fc zc : Nat) : qσ :=
  if bI (towerL σ r (cntF σ r) 0) = 0 then (if bI (zoneL σ r (14 + 4 + c) zc st (cntF σ r) 0) = 0 then (if bI (othersL σ (nI c) r (nI st) fc 0) = 0 then (if bI (itselfL σ (nI c) r (nI st) fc 0) = 0 then
    (if costRF σ r (cntF σ r) ≤ σ (14 + 4 + c) 4 then loudS σ (14 + 4 + c) r (nI st) fc else σ) else σ) else σ) else σ) else σ
theorem reasonS_pl {σ : qσ} {c r st fc zc : Nat} : Pl σ (reasonS σ c r st fc zc) := Pl.if (Pl.if (Pl.if (Pl.if (Pl.if loudS_pl Pl.rf) Pl.rf) Pl.rf) Pl.rf) Pl.rf
set_option maxHeartbeats 8000000 in
theorem sp_reason {σ : qσ} {c r st cc fc zc : Nat} (hW : WF σ 14 cc fc zc) (hr : okRt σ r) (hc6 : c < 6) (hst : 0 < st ∧ st < 2 ^ 20) : SP z (k + 4) mX3_reasonAgainst [.ref 108, .int (nI c), .ref r, .int (nI st)] σ (some (.int (reasonF σ c r st fc zc))) (reasonS σ c r st fc zc) := by
  refine SP_of 1 (by decide) (Nat.le_of_ble_eq_true rfl) fun X n hn => ?_
  have hO := o_sky s14
  have hC := o_craft s14 hc6
  have q1 := hr.cnt
  refine EV_aload_n dX3_reasonAgainst_0 rfl ?_
  refine ES_getf dX3_reasonAgainst_1 fkX3_19 hn o_judge rfl ?_
  refine ES_getf dX3_reasonAgainst_4 fkX3_23 hn (by assumption) rfl ?_
  refine EV_iload_n dX3_reasonAgainst_7 rfl ?_
  refine ES_aaldC s14 dX3_reasonAgainst_8 hn hc6 ?_
  refine EV_astore dX3_reasonAgainst_9 (Nat.le_of_ble_eq_true rfl) (Nat.le_of_ble_eq_true rfl) rfl ?_
  refine EV_aload_n dX3_reasonAgainst_11 rfl ?_
  refine EV_aload_n dX3_reasonAgainst_12 rfl ?_
  refine ES_callV dX3_reasonAgainst_13 mkX3_29 mfX3_meetsTower mvX3_meetsTower hn o_judge rfl (sp_meetsTower (k := k + 2) hr) rfl rfl (Nat.le_of_ble_eq_true rfl) ?_
  refine EV_if_eq 21 dX3_reasonAgainst_16 (by decide) (fun c16 => ?_) (fun c16 => ?_)
  · skip
    refine EV_aload_n dX3_reasonAgainst_21 rfl ?_
    refine EV_aload dX3_reasonAgainst_22 rfl ?_
    refine EV_aload_n dX3_reasonAgainst_24 rfl ?_
    refine EV_iload_n dX3_reasonAgainst_25 rfl ?_
    refine ES_callV dX3_reasonAgainst_26 mkX3_33 mfX3_meetsZone mvX3_meetsZone hn o_judge rfl (sp_meetsZone (k := k + 1) hW hr hC hst) rfl rfl (Nat.le_of_ble_eq_true rfl) ?_
    refine EV_if_eq 34 dX3_reasonAgainst_29 (by decide) (fun c29 => ?_) (fun c29 => ?_)
    · skip
      refine EV_aload_n dX3_reasonAgainst_34 rfl ?_
      refine EV_iload_n dX3_reasonAgainst_35 rfl ?_
      refine EV_aload_n dX3_reasonAgainst_36 rfl ?_
      refine EV_iload_n dX3_reasonAgainst_37 rfl ?_
      refine ES_callV dX3_reasonAgainst_38 mkX3_37 mfX3_meetsOthers mvX3_meetsOthers hn o_judge rfl (sp_meetsOthers (k := k + 1) hW hr _ _) rfl rfl (Nat.le_of_ble_eq_true rfl) ?_
      refine EV_if_eq 46 dX3_reasonAgainst_41 (by decide) (fun c41 => ?_) (fun c41 => ?_)
      · skip
        refine EV_aload_n dX3_reasonAgainst_46 rfl ?_
        refine EV_iload_n dX3_reasonAgainst_47 rfl ?_
        refine EV_aload_n dX3_reasonAgainst_48 rfl ?_
        refine EV_iload_n dX3_reasonAgainst_49 rfl ?_
        refine ES_callV dX3_reasonAgainst_50 mkX3_41 mfX3_meetsItself mvX3_meetsItself hn o_judge rfl (sp_meetsItself (k := k + 1) hW hr _ _) rfl rfl (Nat.le_of_ble_eq_true rfl) ?_
        refine EV_if_eq 58 dX3_reasonAgainst_53 (by decide) (fun c53 => ?_) (fun c53 => ?_)
        · skip
          refine EV_aload_n dX3_reasonAgainst_58 rfl ?_
          refine ES_getf dX3_reasonAgainst_59 fkX3_15 hn o_judge rfl ?_
          refine EV_aload_n dX3_reasonAgainst_62 rfl ?_
          refine ES_callV dX3_reasonAgainst_63 mkX3_44 mfX2_costOfRoute mvX2_costOfRoute hn o_ground rfl (sp_costOfRoute z (k + 1) hr.1 q1.1 (by omega)) rfl rfl (Nat.le_of_ble_eq_true rfl) ?_
          refine EV_aload dX3_reasonAgainst_66 rfl ?_
          refine ES_getf dX3_reasonAgainst_68 fkX3_50 hn (by assumption) rfl ?_
          refine EV_icmp_le 76 dX3_reasonAgainst_71 (by decide) (fun c71 => ?_) (fun c71 => ?_)
          · skip
            refine EV_aload_n dX3_reasonAgainst_76 rfl ?_
            refine EV_aload dX3_reasonAgainst_77 rfl ?_
            refine EV_aload_n dX3_reasonAgainst_79 rfl ?_
            refine EV_iload_n dX3_reasonAgainst_80 rfl ?_
            refine ES_callV dX3_reasonAgainst_81 mkX3_56 mfX3_isTooLoud mvX3_isTooLoud hn o_judge rfl (sp_isTooLoud (k := k) hW hr hC _) rfl rfl (Nat.le_of_ble_eq_true rfl) ?_
            refine EV_if_eq 92 dX3_reasonAgainst_84 (by decide) (fun c84 => ?_) (fun c84 => ?_)
            · skip
              refine EV_iconst (v := 0) dX3_reasonAgainst_92 (by decide) ?_
              exact ES_iret dX3_reasonAgainst_93 rfl rfl (by simp only [reasonF, if_pos c16, if_pos c29, if_pos c41, if_pos c53, if_pos c71, if_pos c84]; try rfl) (by simp only [reasonS, if_pos c16, if_pos c29, if_pos c41, if_pos c53, if_pos c71, if_pos c84])
            · skip
              refine EV_bipush (v := 6) dX3_reasonAgainst_87 (by decide) ?_
              refine EV_goto 93 dX3_reasonAgainst_89 (by decide) ?_
              exact ES_iret dX3_reasonAgainst_93 rfl rfl (by simp only [reasonF, if_pos c16, if_pos c29, if_pos c41, if_pos c53, if_pos c71, if_neg c84]; try rfl) (by simp only [reasonS, if_pos c16, if_pos c29, if_pos c41, if_pos c53, if_pos c71, if_neg c84])
          · skip
            refine EV_iconst (v := 5) dX3_reasonAgainst_74 (by decide) ?_
            exact ES_iret dX3_reasonAgainst_75 rfl rfl (by simp only [reasonF, if_pos c16, if_pos c29, if_pos c41, if_pos c53, if_neg c71]; try rfl) (by simp only [reasonS, if_pos c16, if_pos c29, if_pos c41, if_pos c53, if_neg c71])
        · skip
          refine EV_iconst (v := 4) dX3_reasonAgainst_56 (by decide) ?_
          exact ES_iret dX3_reasonAgainst_57 rfl rfl (by simp only [reasonF, if_pos c16, if_pos c29, if_pos c41, if_neg c53]; try rfl) (by simp only [reasonS, if_pos c16, if_pos c29, if_pos c41, if_neg c53])
      · skip
        refine EV_iconst (v := 3) dX3_reasonAgainst_44 (by decide) ?_
        exact ES_iret dX3_reasonAgainst_45 rfl rfl (by simp only [reasonF, if_pos c16, if_pos c29, if_neg c41]; try rfl) (by simp only [reasonS, if_pos c16, if_pos c29, if_neg c41])
    · skip
      refine EV_iconst (v := 2) dX3_reasonAgainst_32 (by decide) ?_
      exact ES_iret dX3_reasonAgainst_33 rfl rfl (by simp only [reasonF, if_pos c16, if_neg c29]; try rfl) (by simp only [reasonS, if_pos c16, if_neg c29])
  · skip
    refine EV_iconst (v := 1) dX3_reasonAgainst_19 (by decide) ?_
    exact ES_iret dX3_reasonAgainst_20 rfl rfl (by simp only [reasonF, if_neg c16]; try rfl) (by simp only [reasonS, if_neg c16])
end Jd
end
section
/-! ===== the search, the counts, the copy of a sky ===== -/
/-- only the search's own rows have changed -/
def Se (σ σ' : qσ) : Prop := ∀ k, k ≠ 111 → k ≠ 112 → σ' k = σ k
theorem Se.rf {σ : qσ} : Se σ σ := fun _ _ _ => rfl
theorem Se.tr {σ σ1 σ2 : qσ} (h : Se σ σ1) (g : Se σ1 σ2) : Se σ σ2 := fun k h1 h2 => (g k h1 h2).trans (h k h1 h2)
theorem Se.set1 {σ σ1 : qσ} (h : Se σ σ1) (j : Nat) (v : Int32) : Se σ (sset σ1 111 j v) := fun k h1 h2 => (sset_ne _ _ _ h1).trans (h k h1 h2)
theorem Se.set2 {σ σ1 : qσ} (h : Se σ σ1) (j : Nat) (v : Int32) : Se σ (sset σ1 112 j v) := fun k h1 h2 => (sset_ne _ _ _ h2).trans (h k h1 h2)
theorem Se.row {σ σ1 : qσ} (h : Se σ σ1) (g : Nat → Int32) : Se σ (srow σ1 112 g) := fun k h1 h2 => (srow_ne _ _ h2).trans (h k h1 h2)
theorem Se.if {σ σ1 σ2 : qσ} {p : Prop} [Decidable p] (h1 : Se σ σ1) (h2 : Se σ σ2) : Se σ (if p then σ1 else σ2) := by
  by_cases h : p
  · rw [if_pos h]; exact h1
  · rw [if_neg h]; exact h2
theorem WF.se {σ σ' : qσ} {s cc fc zc : Nat} (h : WF σ s cc fc zc) (hp : Se σ σ') : WF σ' s cc fc zc := by
  obtain ⟨hs, h1, h2, h3, h4, h5⟩ := h
  have hl := hs.le
  refine ⟨hs, ⟨?_, h1.2⟩, ⟨?_, h2.2⟩, ⟨?_, h3.2⟩, fun i hi => ?_, fun i hi => ?_⟩
  · rw [hp s (by omega) (by omega)]; exact h1.1
  · rw [hp s (by omega) (by omega)]; exact h2.1
  · rw [hp 2 (by omega) (by omega)]; exact h3.1
  · rw [hp _ (by rcases hs with rfl | rfl <;> omega) (by rcases hs with rfl | rfl <;> omega)]; exact h4 i hi
  · rw [hp _ (by rcases hs with rfl | rfl <;> omega) (by rcases hs with rfl | rfl <;> omega)]; exact h5 i hi
def sprB (σ : qσ) (c d : Nat) (by' : Bool) : Bool :=
  if bI (isCellF (neighF (nI c) d)) = 0 then false else if σ 111 (neighF (nI c) d).toNatClampNeg = 0 then false else
    if bI by' = 0 then (if σ 112 (nI c).toNatClampNeg + 1 < σ 112 (neighF (nI c) d).toNatClampNeg then true else false)
    else if σ 112 (nI c).toNatClampNeg + costF σ (nI d) < σ 112 (neighF (nI c) d).toNatClampNeg then true else false
def sprS (σ : qσ) (c d : Nat) (by' : Bool) : qσ :=
  if bI (isCellF (neighF (nI c) d)) = 0 then σ else if σ 111 (neighF (nI c) d).toNatClampNeg = 0 then σ else
    if bI by' = 0 then (if σ 112 (nI c).toNatClampNeg + 1 < σ 112 (neighF (nI c) d).toNatClampNeg then sset σ 112 (neighF (nI c) d).toNatClampNeg (σ 112 (nI c).toNatClampNeg + 1) else σ)
    else if σ 112 (nI c).toNatClampNeg + costF σ (nI d) < σ 112 (neighF (nI c) d).toNatClampNeg then sset σ 112 (neighF (nI c) d).toNatClampNeg (σ 112 (nI c).toNatClampNeg + costF σ (nI d)) else σ
theorem sprS_se {σ : qσ} {c d : Nat} {by' : Bool} : Se σ (sprS σ c d by') := Se.if Se.rf (Se.if Se.rf (Se.if (Se.if (Se.rf.set2 _ _) Se.rf) (Se.if (Se.rf.set2 _ _) Se.rf)))
section Sr
variable {z : qZ} {k : Nat} {X : qM} {n : Nat}
set_option maxHeartbeats 8000000 in
theorem sp_spread {σ : qσ} {c d : Nat} (by' : Bool) (hc : c < 25) (hd : d < 4) : SP z (k + 2) mX5_spread [.ref 110, .int (nI c), .int (nI d), .int (bI by')] σ (some (.int (bI (sprB σ c d by')))) (sprS σ c d by') := by
  refine SP_of 2 (by decide) (Nat.le_of_ble_eq_true rfl) fun X n hn => ?_
  have hci : vp_in (nI c) 25 := vp_in_nI hc (by omega)
  refine EV_iload_n dX5_spread_0 rfl ?_
  refine EV_iload_n dX5_spread_1 rfl ?_
  refine ES_callS dX5_spread_2 mkX5_64 mfX2_neighbour msX2_neighbour hn (sp_neighbour z (k + 1) (nI c) hd) rfl rfl (Nat.le_of_ble_eq_true rfl) ?_
  refine EV_istore dX5_spread_5 (Nat.le_of_ble_eq_true rfl) (Nat.le_of_ble_eq_true rfl) rfl ?_
  refine EV_iload dX5_spread_7 rfl ?_
  refine ES_callS dX5_spread_9 mkX5_52 mfX8_isCell msX8_isCell hn (sp_isCell z (k + 1) _) rfl rfl (Nat.le_of_ble_eq_true rfl) ?_
  refine EV_if_eq 25 dX5_spread_12 (by decide) (fun c12 => ?_) (fun c12 => ?_)
  · skip
    refine EV_iconst (v := 0) dX5_spread_25 (by decide) ?_
    exact ES_iret dX5_spread_26 rfl rfl (by simp only [sprB, if_pos c12]; try rfl) (by simp only [sprS, if_pos c12])
  · skip
    refine EV_aload_n dX5_spread_15 rfl ?_
    refine ES_getf dX5_spread_16 fkX5_9 hn o_search rfl ?_
    refine EV_iload dX5_spread_19 rfl ?_
    refine ES_zald dX5_spread_21 hn a_open (isCell_in c12) ?_
    refine EV_if_ne 27 dX5_spread_22 (by decide) (fun c22 => ?_) (fun c22 => ?_)
    · skip
      refine EV_aload_n dX5_spread_27 rfl ?_
      refine ES_getf dX5_spread_28 fkX5_15 hn o_search rfl ?_
      refine EV_iload_n dX5_spread_31 rfl ?_
      refine ES_iald dX5_spread_32 hn a_reached hci ?_
      refine EV_iload_n dX5_spread_33 rfl ?_
      refine EV_if_eq 48 dX5_spread_34 (by decide) (fun c34 => ?_) (fun c34 => ?_)
      · skip
        refine EV_iconst (v := 1) dX5_spread_48 (by decide) ?_
        refine EV_iadd dX5_spread_49 ?_
        refine EV_istore dX5_spread_50 (Nat.le_of_ble_eq_true rfl) (Nat.le_of_ble_eq_true rfl) rfl ?_
        refine EV_iload dX5_spread_52 rfl ?_
        refine EV_aload_n dX5_spread_54 rfl ?_
        refine ES_getf dX5_spread_55 fkX5_15 hn o_search rfl ?_
        refine EV_iload dX5_spread_58 rfl ?_
        refine ES_iald dX5_spread_60 hn a_reached (isCell_in c12) ?_
        refine EV_icmp_lt 66 dX5_spread_61 (by decide) (fun c61 => ?_) (fun c61 => ?_)
        · skip
          refine EV_aload_n dX5_spread_66 rfl ?_
          refine ES_getf dX5_spread_67 fkX5_15 hn o_search rfl ?_
          refine EV_iload dX5_spread_70 rfl ?_
          refine EV_iload dX5_spread_72 rfl ?_
          refine ES_iast dX5_spread_74 hn a_reached (isCell_in c12) ?_
          refine EV_iconst (v := 1) dX5_spread_75 (by decide) ?_
          exact ES_iret dX5_spread_76 rfl rfl (by simp only [sprB, if_neg c12, if_neg c22, if_pos c34, if_pos c61]; try rfl) (by simp only [sprS, if_neg c12, if_neg c22, if_pos c34, if_pos c61])
        · skip
          refine EV_iconst (v := 0) dX5_spread_64 (by decide) ?_
          exact ES_iret dX5_spread_65 rfl rfl (by simp only [sprB, if_neg c12, if_neg c22, if_pos c34, if_neg c61]; try rfl) (by simp only [sprS, if_neg c12, if_neg c22, if_pos c34, if_neg c61])
      · skip
        refine EV_aload_n dX5_spread_37 rfl ?_
        refine ES_getf dX5_spread_38 fkX5_19 hn o_search rfl ?_
        refine EV_iload_n dX5_spread_41 rfl ?_
        refine ES_callV dX5_spread_42 mkX5_68 mfX2_costOfMove mvX2_costOfMove hn o_ground rfl (sp_costOfMove z k _) rfl rfl (Nat.le_of_ble_eq_true rfl) ?_
        refine EV_goto 49 dX5_spread_45 (by decide) ?_
        refine EV_iadd dX5_spread_49 ?_
        refine EV_istore dX5_spread_50 (Nat.le_of_ble_eq_true rfl) (Nat.le_of_ble_eq_true rfl) rfl ?_
        refine EV_iload dX5_spread_52 rfl ?_
        refine EV_aload_n dX5_spread_54 rfl ?_
        refine ES_getf dX5_spread_55 fkX5_15 hn o_search rfl ?_
        refine EV_iload dX5_spread_58 rfl ?_
        refine ES_iald dX5_spread_60 hn a_reached (isCell_in c12) ?_
        refine EV_icmp_lt 66 dX5_spread_61 (by decide) (fun c61 => ?_) (fun c61 => ?_)
        · skip
          refine EV_aload_n dX5_spread_66 rfl ?_
          refine ES_getf dX5_spread_67 fkX5_15 hn o_search rfl ?_
          refine EV_iload dX5_spread_70 rfl ?_
          refine EV_iload dX5_spread_72 rfl ?_
          refine ES_iast dX5_spread_74 hn a_reached (isCell_in c12) ?_
          refine EV_iconst (v := 1) dX5_spread_75 (by decide) ?_
          exact ES_iret dX5_spread_76 rfl rfl (by simp only [sprB, if_neg c12, if_neg c22, if_neg c34, if_pos c61]; try rfl) (by simp only [sprS, if_neg c12, if_neg c22, if_neg c34, if_pos c61])
        · skip
          refine EV_iconst (v := 0) dX5_spread_64 (by decide) ?_
          exact ES_iret dX5_spread_65 rfl rfl (by simp only [sprB, if_neg c12, if_neg c22, if_neg c34, if_neg c61]; try rfl) (by simp only [sprS, if_neg c12, if_neg c22, if_neg c34, if_neg c61])
    · skip
      refine EV_iconst (v := 0) dX5_spread_25 (by decide) ?_
      exact ES_iret dX5_spread_26 rfl rfl (by simp only [sprB, if_neg c12, if_pos c22]; try rfl) (by simp only [sprS, if_neg c12, if_pos c22])
/-- a cell's four directions: has anything changed, and what there is then -/
def saIn (c : Nat) (by' : Bool) : Nat → Nat → Bool → qσ → Bool × qσ
  | 0, _, ch, σ => (ch, σ)
  | j + 1, d, ch, σ => if 1000000 ≤ σ 112 (nI c).toNatClampNeg then saIn c by' j (d + 1) ch σ
      else saIn c by' j (d + 1) (if bI (sprB σ c d by') = 0 then ch else true) (sprS σ c d by')
def saOut (by' : Bool) : Nat → Nat → Bool → qσ → Bool × qσ
  | 0, _, ch, σ => (ch, σ)
  | j + 1, c, ch, σ => saOut by' j (c + 1) (saIn c by' 4 0 ch σ).1 (saIn c by' 4 0 ch σ).2
theorem saIn_se {c : Nat} {by' : Bool} : ∀ (j d : Nat) (ch : Bool) (σ : qσ), Se σ (saIn c by' j d ch σ).2 := by
  intro j
  induction j with
  | zero => intro d ch σ; exact Se.rf
  | succ j ih =>
    intro d ch σ
    simp only [saIn]
    by_cases h : 1000000 ≤ σ 112 (nI c).toNatClampNeg
    · rw [if_pos h]; exact ih _ _ _
    · rw [if_neg h]; exact sprS_se.tr (ih _ _ _)
theorem saOut_se {by' : Bool} : ∀ (j c : Nat) (ch : Bool) (σ : qσ), Se σ (saOut by' j c ch σ).2 := by
  intro j
  induction j with
  | zero => intro c ch σ; exact Se.rf
  | succ j ih => intro c ch σ; exact (saIn_se 4 0 ch σ).tr (ih _ _ _)
set_option maxHeartbeats 8000000 in
theorem lp_saIn (hn : 112 ≤ n) {c : Nat} (hc : c < 25) (by' : Bool) {Q : qQ} : ∀ (j d : Nat) (ch : Bool) (σ : qσ), d + j = 4 →
    EV z (k + 3) mX5_spreadAll 49 [.ref 110, .int (bI by'), .int (bI (saIn c by' j d ch σ).1), .int (nI c), .int (nI 4)] [] (mm (saIn c by' j d ch σ).2 X) n 0 0 Q → EV z (k + 3) mX5_spreadAll 13 [.ref 110, .int (bI by'), .int (bI ch), .int (nI c), .int (nI d)] [] (mm σ X) n 0 0 Q := by
  have hci : vp_in (nI c) 25 := vp_in_nI hc (by omega)
  intro j
  induction j with
  | zero =>
    intro d ch σ hd kk
    refine EV_iload dX5_spreadAll_13 rfl ?_
    refine EV_iconst (v := 4) dX5_spreadAll_15 (by decide) ?_
    refine EV_icmp_ge 49 dX5_spreadAll_16 (by decide) (fun c16 => ?_) (fun c16 => ?_)
    · skip
      rw [show d = 4 by omega]; exact kk
    · skip
      exact absurd (nI_le (a := 4) (b := d) (by omega) (by omega)) c16
  | succ j ih =>
    intro d ch σ hd kk
    refine EV_iload dX5_spreadAll_13 rfl ?_
    refine EV_iconst (v := 4) dX5_spreadAll_15 (by decide) ?_
    refine EV_icmp_ge 49 dX5_spreadAll_16 (by decide) (fun c16 => ?_) (fun c16 => ?_)
    · skip
      exact absurd c16 (nI_ge (a := d) (b := 4) (by omega) (by omega))
    · skip
      refine EV_aload_n dX5_spreadAll_19 rfl ?_
      refine ES_getf dX5_spreadAll_20 fkX5_15 hn o_search rfl ?_
      refine EV_iload_n dX5_spreadAll_23 rfl ?_
      refine ES_iald dX5_spreadAll_24 hn a_reached hci ?_
      refine EV_ldc dX5_spreadAll_25 kkX5_42 ?_
      refine EV_icmp_ge 43 dX5_spreadAll_27 (by decide) (fun c27 => ?_) (fun c27 => ?_)
      · skip
        refine EV_iinc dX5_spreadAll_43 rfl (Nat.le_of_ble_eq_true rfl) rfl ?_
        refine EV_goto 13 dX5_spreadAll_46 (by decide) ?_
        rw [show nI d + Int32.ofInt 1 = nI (d + 1) from (nI_succ d).symm]
        simp only [saIn, if_neg c16, if_pos c27] at kk
        exact ih (d + 1) _ _ (by omega) kk
      · skip
        refine EV_aload_n dX5_spreadAll_30 rfl ?_
        refine EV_iload_n dX5_spreadAll_31 rfl ?_
        refine EV_iload dX5_spreadAll_32 rfl ?_
        refine EV_iload_n dX5_spreadAll_34 rfl ?_
        refine ES_callV dX5_spreadAll_35 mkX5_60 mfX5_spread mvX5_spread hn o_search rfl (sp_spread by' hc (show d < 4 by omega)) rfl rfl (Nat.le_of_ble_eq_true rfl) ?_
        refine EV_if_eq 43 dX5_spreadAll_38 (by decide) (fun c38 => ?_) (fun c38 => ?_)
        · skip
          refine EV_iinc dX5_spreadAll_43 rfl (Nat.le_of_ble_eq_true rfl) rfl ?_
          refine EV_goto 13 dX5_spreadAll_46 (by decide) ?_
          rw [show nI d + Int32.ofInt 1 = nI (d + 1) from (nI_succ d).symm]
          simp only [saIn, if_neg c16, if_neg c27, if_pos c38] at kk
          exact ih (d + 1) _ _ (by omega) kk
        · skip
          refine EV_iconst (v := 1) dX5_spreadAll_41 (by decide) ?_
          refine EV_istore_n dX5_spreadAll_42 (Nat.le_of_ble_eq_true rfl) (Nat.le_of_ble_eq_true rfl) rfl ?_
          refine EV_iinc dX5_spreadAll_43 rfl (Nat.le_of_ble_eq_true rfl) rfl ?_
          refine EV_goto 13 dX5_spreadAll_46 (by decide) ?_
          rw [show nI d + Int32.ofInt 1 = nI (d + 1) from (nI_succ d).symm]
          simp only [saIn, if_neg c16, if_neg c27, if_neg c38] at kk
          exact ih (d + 1) _ _ (by omega) kk
set_option maxHeartbeats 8000000 in
theorem lp_saOut (hn : 112 ≤ n) (by' : Bool) : ∀ (j c : Nat) (ch : Bool) (σ : qσ) (w4 : Value), w4.category = 1 → c + j = 25 →
    EV z (k + 3) mX5_spreadAll 4 [.ref 110, .int (bI by'), .int (bI ch), .int (nI c), w4] [] (mm σ X) n 0 0 (qRes (some (.int (bI (saOut by' j c ch σ).1))) (mm (saOut by' j c ch σ).2 X) n) := by
  intro j
  induction j with
  | zero =>
    intro c ch σ w4 h4 hc
    refine EV_iload_n dX5_spreadAll_4 rfl ?_
    refine EV_bipush (v := 25) dX5_spreadAll_5 (by decide) ?_
    refine EV_icmp_ge 55 dX5_spreadAll_7 (by decide) (fun c7 => ?_) (fun c7 => ?_)
    · skip
      refine EV_iload_n dX5_spreadAll_55 rfl ?_
      exact ES_iret dX5_spreadAll_56 rfl (bI_nar _) rfl rfl
    · skip
      exact absurd (nI_le (a := 25) (b := c) (by omega) (by omega)) c7
  | succ j ih =>
    intro c ch σ w4 h4 hc
    refine EV_iload_n dX5_spreadAll_4 rfl ?_
    refine EV_bipush (v := 25) dX5_spreadAll_5 (by decide) ?_
    refine EV_icmp_ge 55 dX5_spreadAll_7 (by decide) (fun c7 => ?_) (fun c7 => ?_)
    · skip
      exact absurd c7 (nI_ge (a := c) (b := 25) (by omega) (by omega))
    · skip
      refine EV_iconst (v := 0) dX5_spreadAll_10 (by decide) ?_
      refine EV_istore dX5_spreadAll_11 (Nat.le_of_ble_eq_true rfl) (Nat.le_of_ble_eq_true rfl) rfl ?_
      rw [saOut]
      refine lp_saIn hn (show c < 25 by omega) by' 4 0 ch σ rfl ?_
      refine EV_iinc dX5_spreadAll_49 rfl (Nat.le_of_ble_eq_true rfl) rfl ?_
      refine EV_goto 4 dX5_spreadAll_52 (by decide) ?_
      rw [show nI c + Int32.ofInt 1 = nI (c + 1) from (nI_succ c).symm]
      exact ih (c + 1) _ _ _ rfl (by omega)
theorem sp_spreadAll (σ : qσ) (by' : Bool) : SP z (k + 3) mX5_spreadAll [.ref 110, .int (bI by')] σ (some (.int (bI (saOut by' 25 0 false σ).1))) (saOut by' 25 0 false σ).2 := by
  refine SP_of 3 (by decide) (Nat.le_of_ble_eq_true rfl) fun X n hn => ?_
  refine EV_iconst (v := 0) dX5_spreadAll_0 (by decide) ?_
  refine EV_istore_n dX5_spreadAll_1 (Nat.le_of_ble_eq_true rfl) (Nat.le_of_ble_eq_true rfl) rfl ?_
  refine EV_iconst (v := 0) dX5_spreadAll_2 (by decide) ?_
  refine EV_istore_n dX5_spreadAll_3 (Nat.le_of_ble_eq_true rfl) (Nat.le_of_ble_eq_true rfl) rfl ?_
  exact lp_saOut hn by' 25 0 false σ _ rfl rfl
def openL (rc zc : Nat) (now : Int32) : Nat → Nat → qσ → qσ
  | 0, _, σ => σ
  | j + 1, i, σ => openL rc zc now j (i + 1) (sset σ 111 (nI i).toNatClampNeg (if σ 4 (nI i).toNatClampNeg = 0 then (if bI (isShutF σ zc (nI i) (σ rc 0) now) = 0 then 1 else 0) else 0))
def roundL (by' : Bool) : Nat → Bool → qσ → qσ
  | 0, _, σ => σ
  | j + 1, ch, σ => if bI ch = 0 then σ else roundL by' j (saOut by' 25 0 false σ).1 (saOut by' 25 0 false σ).2
def leastS (σ : qσ) (rc zc : Nat) (now : Int32) (by' : Bool) : qσ :=
  let σ1 := openL rc zc now 25 0 σ
  let σ2 := srow σ1 112 (fillF 25 1000000 (σ1 112))
  roundL by' 25 true (if bI (isCellF (σ2 rc 8)) = 0 then σ2 else sset σ2 112 (σ2 rc 8).toNatClampNeg 0)
def leastF (σ : qσ) (rc zc : Nat) (tg now : Int32) (by' : Bool) : Int32 := if 1000000 ≤ leastS σ rc zc now by' 112 tg.toNatClampNeg then -1 else leastS σ rc zc now by' 112 tg.toNatClampNeg
theorem openL_se {rc zc : Nat} {now : Int32} : ∀ (j i : Nat) (σ : qσ), Se σ (openL rc zc now j i σ) := by
  intro j
  induction j with
  | zero => intro i σ; exact Se.rf
  | succ j ih => intro i σ; exact (Se.rf.set1 _ _).tr (ih _ _)
theorem roundL_se {by' : Bool} : ∀ (j : Nat) (ch : Bool) (σ : qσ), Se σ (roundL by' j ch σ) := by
  intro j
  induction j with
  | zero => intro ch σ; exact Se.rf
  | succ j ih =>
    intro ch σ
    simp only [roundL]
    exact Se.if Se.rf ((saOut_se _ _ _ _).tr (ih _ _))
theorem leastS_se {σ : qσ} {rc zc : Nat} {now : Int32} {by' : Bool} : Se σ (leastS σ rc zc now by') := by
  have h1 : Se σ _ := openL_se (rc := rc) (zc := zc) (now := now) 25 0 σ
  have h2 : Se σ _ := h1.row (fillF 25 1000000 (openL rc zc now 25 0 σ 112))
  exact (h2.tr (Se.if Se.rf (Se.rf.set2 _ _))).tr (roundL_se _ _ _)
set_option maxHeartbeats 8000000 in
theorem lp_open (hn : 112 ≤ n) {rc cc fc zc : Nat} (hC : isO 0 rc) (tg now : Int32) (by' : Bool) {Q : qQ} : ∀ (j i : Nat) (σ : qσ) (w6 : Value), WF σ 14 cc fc zc → i + j = 25 →
    EV z (k + 4) mX5_least 58 [.ref 110, .ref rc, .int tg, .int now, .int (bI by'), .int (nI 25), w6] [] (mm (openL rc zc now j i σ) X) n 0 0 Q → EV z (k + 4) mX5_least 3 [.ref 110, .ref rc, .int tg, .int now, .int (bI by'), .int (nI i), w6] [] (mm σ X) n 0 0 Q := by
  intro j
  induction j with
  | zero =>
    intro i σ w6 hW hi kk
    refine EV_iload dX5_least_3 rfl ?_
    refine EV_bipush (v := 25) dX5_least_5 (by decide) ?_
    refine EV_icmp_ge 58 dX5_least_7 (by decide) (fun c7 => ?_) (fun c7 => ?_)
    · skip
      rw [show i = 25 by omega]; exact kk
    · skip
      exact absurd (nI_le (a := 25) (b := i) (by omega) (by omega)) c7
  | succ j ih =>
    intro i σ w6 hW hi kk
    have hin : vp_in (nI i) 25 := vp_in_nI (by omega) (by omega)
    refine EV_iload dX5_least_3 rfl ?_
    refine EV_bipush (v := 25) dX5_least_5 (by decide) ?_
    refine EV_icmp_ge 58 dX5_least_7 (by decide) (fun c7 => ?_) (fun c7 => ?_)
    · skip
      exact absurd c7 (nI_ge (a := i) (b := 25) (by omega) (by omega))
    · skip
      refine EV_aload_n dX5_least_10 rfl ?_
      refine ES_getf dX5_least_11 fkX5_9 hn o_search rfl ?_
      refine EV_iload dX5_least_14 rfl ?_
      refine EV_aload_n dX5_least_16 rfl ?_
      refine ES_getf dX5_least_17 fkX5_19 hn o_search rfl ?_
      refine ES_getf dX5_least_20 fkX5_27 hn o_ground rfl ?_
      refine EV_iload dX5_least_23 rfl ?_
      refine ES_zald dX5_least_25 hn a_towers hin ?_
      refine EV_if_ne 50 dX5_least_26 (by decide) (fun c26 => ?_) (fun c26 => ?_)
      · skip
        refine EV_iconst (v := 0) dX5_least_50 (by decide) ?_
        refine ES_zast dX5_least_51 hn a_open hin rfl ?_
        refine EV_iinc dX5_least_52 rfl (Nat.le_of_ble_eq_true rfl) rfl ?_
        refine EV_goto 3 dX5_least_55 (by decide) ?_
        rw [show nI i + Int32.ofInt 1 = nI (i + 1) from (nI_succ i).symm]
        simp only [openL, if_neg c7, if_neg c26] at kk
        exact ih (i + 1) _ _ (hW.se (Se.rf.set1 _ _)) (by omega) kk
      · skip
        refine EV_aload_n dX5_least_29 rfl ?_
        refine ES_getf dX5_least_30 fkX5_19 hn o_search rfl ?_
        refine EV_iload dX5_least_33 rfl ?_
        refine EV_aload_n dX5_least_35 rfl ?_
        refine ES_getf dX5_least_36 fkX5_32 hn (by assumption) rfl ?_
        refine EV_iload_n dX5_least_39 rfl ?_
        refine ES_callV dX5_least_40 mkX5_38 mfX2_isShut mvX2_isShut hn o_ground rfl (sp_isShut z (k + 2) hW.2.2.2.1.1 hW.2.2.2.1.2 _ _ _) rfl rfl (Nat.le_of_ble_eq_true rfl) ?_
        refine EV_if_ne 50 dX5_least_43 (by decide) (fun c43 => ?_) (fun c43 => ?_)
        · skip
          refine EV_iconst (v := 0) dX5_least_50 (by decide) ?_
          refine ES_zast dX5_least_51 hn a_open hin rfl ?_
          refine EV_iinc dX5_least_52 rfl (Nat.le_of_ble_eq_true rfl) rfl ?_
          refine EV_goto 3 dX5_least_55 (by decide) ?_
          rw [show nI i + Int32.ofInt 1 = nI (i + 1) from (nI_succ i).symm]
          simp only [openL, if_neg c7, if_pos c26, if_neg c43] at kk
          exact ih (i + 1) _ _ (hW.se (Se.rf.set1 _ _)) (by omega) kk
        · skip
          refine EV_iconst (v := 1) dX5_least_46 (by decide) ?_
          refine EV_goto 51 dX5_least_47 (by decide) ?_
          refine ES_zast dX5_least_51 hn a_open hin rfl ?_
          refine EV_iinc dX5_least_52 rfl (Nat.le_of_ble_eq_true rfl) rfl ?_
          refine EV_goto 3 dX5_least_55 (by decide) ?_
          rw [show nI i + Int32.ofInt 1 = nI (i + 1) from (nI_succ i).symm]
          simp only [openL, if_neg c7, if_pos c26, if_pos c43] at kk
          exact ih (i + 1) _ _ (hW.se (Se.rf.set1 _ _)) (by omega) kk
set_option maxHeartbeats 8000000 in
theorem lp_round (hn : 112 ≤ n) {rc : Nat} {tg now : Int32} (htg : vp_in tg 25) (by' : Bool) : ∀ (j i : Nat) (ch : Bool) (σ : qσ), i + j = 25 →
    EV z (k + 4) mX5_least 93 [.ref 110, .ref rc, .int tg, .int now, .int (bI by'), .int (bI ch), .int (nI i)] [] (mm σ X) n 0 0 (qRes (some (.int (if 1000000 ≤ roundL by' j ch σ 112 tg.toNatClampNeg then -1 else roundL by' j ch σ 112 tg.toNatClampNeg))) (mm (roundL by' j ch σ) X) n) := by
  intro j
  induction j with
  | zero =>
    intro i ch σ hi
    refine EV_iload dX5_least_93 rfl ?_
    refine EV_bipush (v := 25) dX5_least_95 (by decide) ?_
    refine EV_icmp_ge 119 dX5_least_97 (by decide) (fun c97 => ?_) (fun c97 => ?_)
    · skip
      refine EV_aload_n dX5_least_119 rfl ?_
      refine ES_getf dX5_least_120 fkX5_15 hn o_search rfl ?_
      refine EV_iload_n dX5_least_123 rfl ?_
      refine ES_iald dX5_least_124 hn a_reached htg ?_
      refine EV_ldc dX5_least_125 kkX5_42 ?_
      refine EV_icmp_ge 139 dX5_least_127 (by decide) (fun c127 => ?_) (fun c127 => ?_)
      · skip
        refine EV_iconst (v := (-1)) dX5_least_139 (by decide) ?_
        exact ES_iret dX5_least_140 rfl rfl (by show some (Value.int _) = some (Value.int (if 1000000 ≤ σ 112 tg.toNatClampNeg then (-1 : Int32) else σ 112 tg.toNatClampNeg)); simp only [if_pos c97, if_pos c127]) rfl
      · skip
        refine EV_aload_n dX5_least_130 rfl ?_
        refine ES_getf dX5_least_131 fkX5_15 hn o_search rfl ?_
        refine EV_iload_n dX5_least_134 rfl ?_
        refine ES_iald dX5_least_135 hn a_reached htg ?_
        refine EV_goto 140 dX5_least_136 (by decide) ?_
        exact ES_iret dX5_least_140 rfl rfl (by show some (Value.int _) = some (Value.int (if 1000000 ≤ σ 112 tg.toNatClampNeg then (-1 : Int32) else σ 112 tg.toNatClampNeg)); simp only [if_pos c97, if_neg c127]) rfl
    · skip
      exact absurd (nI_le (a := 25) (b := i) (by omega) (by omega)) c97
  | succ j ih =>
    intro i ch σ hi
    refine EV_iload dX5_least_93 rfl ?_
    refine EV_bipush (v := 25) dX5_least_95 (by decide) ?_
    refine EV_icmp_ge 119 dX5_least_97 (by decide) (fun c97 => ?_) (fun c97 => ?_)
    · skip
      exact absurd c97 (nI_ge (a := i) (b := 25) (by omega) (by omega))
    · skip
      refine EV_iload dX5_least_100 rfl ?_
      refine EV_if_eq 119 dX5_least_102 (by decide) (fun c102 => ?_) (fun c102 => ?_)
      · skip
        refine EV_aload_n dX5_least_119 rfl ?_
        refine ES_getf dX5_least_120 fkX5_15 hn o_search rfl ?_
        refine EV_iload_n dX5_least_123 rfl ?_
        refine ES_iald dX5_least_124 hn a_reached htg ?_
        refine EV_ldc dX5_least_125 kkX5_42 ?_
        refine EV_icmp_ge 139 dX5_least_127 (by decide) (fun c127 => ?_) (fun c127 => ?_)
        · skip
          refine EV_iconst (v := (-1)) dX5_least_139 (by decide) ?_
          exact ES_iret dX5_least_140 rfl rfl (by simp only [roundL, if_neg c97, if_pos c102, if_pos c127]; try rfl) (by simp only [roundL, if_neg c97, if_pos c102, if_pos c127])
        · skip
          refine EV_aload_n dX5_least_130 rfl ?_
          refine ES_getf dX5_least_131 fkX5_15 hn o_search rfl ?_
          refine EV_iload_n dX5_least_134 rfl ?_
          refine ES_iald dX5_least_135 hn a_reached htg ?_
          refine EV_goto 140 dX5_least_136 (by decide) ?_
          exact ES_iret dX5_least_140 rfl rfl (by simp only [roundL, if_neg c97, if_pos c102, if_neg c127]; try rfl) (by simp only [roundL, if_neg c97, if_pos c102, if_neg c127])
      · skip
        refine EV_aload_n dX5_least_105 rfl ?_
        refine EV_iload dX5_least_106 rfl ?_
        refine ES_callV dX5_least_108 mkX5_56 mfX5_spreadAll mvX5_spreadAll hn o_search rfl (sp_spreadAll σ by') rfl rfl (Nat.le_of_ble_eq_true rfl) ?_
        refine EV_istore dX5_least_111 (Nat.le_of_ble_eq_true rfl) (Nat.le_of_ble_eq_true rfl) rfl ?_
        refine EV_iinc dX5_least_113 rfl (Nat.le_of_ble_eq_true rfl) rfl ?_
        refine EV_goto 93 dX5_least_116 (by decide) ?_
        rw [show nI i + Int32.ofInt 1 = nI (i + 1) from (nI_succ i).symm]
        simp only [roundL, if_neg c97, if_neg c102]
        exact ih (i + 1) _ _ (by omega)
set_option maxHeartbeats 8000000 in
theorem least67 (hn : 112 ≤ n) {σ : qσ} {rc : Nat} (hC : isO 0 rc) {tg : Int32} (htg : vp_in tg 25) (now : Int32) (by' : Bool) (w5 : Int32) (w6 : Value) :
    EV z (k + 4) mX5_least 67 [.ref 110, .ref rc, .int tg, .int now, .int (bI by'), .int w5, w6] [] (mm σ X) n 0 0 (qRes (some (.int (if 1000000 ≤ roundL by' 25 true (if bI (isCellF (σ rc 8)) = 0 then σ else sset σ 112 (σ rc 8).toNatClampNeg 0) 112 tg.toNatClampNeg then -1 else roundL by' 25 true (if bI (isCellF (σ rc 8)) = 0 then σ else sset σ 112 (σ rc 8).toNatClampNeg 0) 112 tg.toNatClampNeg))) (mm (roundL by' 25 true (if bI (isCellF (σ rc 8)) = 0 then σ else sset σ 112 (σ rc 8).toNatClampNeg 0)) X) n) := by
  refine EV_aload_n dX5_least_67 rfl ?_
  refine ES_getf dX5_least_68 fkX5_49 hn (by assumption) rfl ?_
  refine ES_callS dX5_least_71 mkX5_52 mfX8_isCell msX8_isCell hn (sp_isCell z (k + 3) _) rfl rfl (Nat.le_of_ble_eq_true rfl) ?_
  refine EV_if_eq 87 dX5_least_74 (by decide) (fun c74 => ?_) (fun c74 => ?_)
  · skip
    refine EV_iconst (v := 1) dX5_least_87 (by decide) ?_
    refine EV_istore dX5_least_88 (Nat.le_of_ble_eq_true rfl) (Nat.le_of_ble_eq_true rfl) rfl ?_
    refine EV_iconst (v := 0) dX5_least_90 (by decide) ?_
    refine EV_istore dX5_least_91 (Nat.le_of_ble_eq_true rfl) (Nat.le_of_ble_eq_true rfl) rfl ?_
    simp only [if_pos c74]
    exact lp_round hn htg by' 25 0 true _ rfl
  · skip
    refine EV_aload_n dX5_least_77 rfl ?_
    refine ES_getf dX5_least_78 fkX5_15 hn o_search rfl ?_
    refine EV_aload_n dX5_least_81 rfl ?_
    refine ES_getf dX5_least_82 fkX5_49 hn (by assumption) rfl ?_
    refine EV_iconst (v := 0) dX5_least_85 (by decide) ?_
    refine ES_iast dX5_least_86 hn a_reached (isCell_in c74) ?_
    refine EV_iconst (v := 1) dX5_least_87 (by decide) ?_
    refine EV_istore dX5_least_88 (Nat.le_of_ble_eq_true rfl) (Nat.le_of_ble_eq_true rfl) rfl ?_
    refine EV_iconst (v := 0) dX5_least_90 (by decide) ?_
    refine EV_istore dX5_least_91 (Nat.le_of_ble_eq_true rfl) (Nat.le_of_ble_eq_true rfl) rfl ?_
    simp only [if_neg c74]
    exact lp_round hn htg by' 25 0 true _ rfl
set_option maxHeartbeats 8000000 in
theorem sp_least {σ : qσ} {rc cc fc zc : Nat} (hW : WF σ 14 cc fc zc) (hC : isO 0 rc) {tg : Int32} (htg : vp_in tg 25) (now : Int32) (by' : Bool) : SP z (k + 4) mX5_least [.ref 110, .ref rc, .int tg, .int now, .int (bI by')] σ (some (.int (leastF σ rc zc tg now by'))) (leastS σ rc zc now by') := by
  refine SP_of 2 (by decide) (Nat.le_of_ble_eq_true rfl) fun X n hn => ?_
  refine EV_iconst (v := 0) dX5_least_0 (by decide) ?_
  refine EV_istore dX5_least_1 (Nat.le_of_ble_eq_true rfl) (Nat.le_of_ble_eq_true rfl) rfl ?_
  refine lp_open hn hC tg now by' 25 0 σ _ hW rfl ?_
  refine EV_aload_n dX5_least_58 rfl ?_
  refine ES_getf dX5_least_59 fkX5_15 hn o_search rfl ?_
  refine EV_ldc dX5_least_62 kkX5_42 ?_
  refine ES_callS dX5_least_64 mkX5_43 mfJ7_fill msJ7_fill hn (sp_fill z (k + 3) 1000000 a_reached (by omega)) rfl rfl (Nat.le_of_ble_eq_true rfl) ?_
  exact least67 hn hC htg now by' _ _
end Sr
end
section
/-! ===== counts; a sky copied into the trial ===== -/
def finL (σ : qσ) (s : Nat) (st : Int32) : Nat → Nat → Int32 → Int32
  | 0, _, a => a
  | j + 1, i, a => if σ (s + 10 + 3 * i) 2 = st then finL σ s st j (i + 1) (a + 1) else finL σ s st j (i + 1) a
def flyL (σ : qσ) (s : Nat) (c : Int32) : Nat → Nat → Int32 → Int32
  | 0, _, a => a
  | j + 1, i, a => if σ (s + 4 + i) 7 = 1 then (if σ (s + 4 + i) 8 = c then flyL σ s c j (i + 1) (a + 1) else flyL σ s c j (i + 1) a) else flyL σ s c j (i + 1) a
def breL (σ : qσ) (s : Nat) : Nat → Nat → Int32 → Int32
  | 0, _, a => a
  | j + 1, i, a => breL σ s j (i + 1) (a + σ (s + 4 + i) 10)
section Cn
variable {z : qZ} {k : Nat} {X : qM} {n : Nat}
set_option maxHeartbeats 4000000 in
theorem lp_fin (hn : 112 ≤ n) {σ : qσ} {s cc fc zc : Nat} (hW : WF σ s cc fc zc) (st : Int32) : ∀ (j i : Nat) (a : Int32), i + j = fc → EV z k mX6_flightsIn 4 [.ref s, .int st, .int a, .int (nI i)] [] (mm σ X) n 0 0 (qRes (some (.int (finL σ s st j i a))) (mm σ X) n) := by
  have hs := hW.1
  have hO := o_sky hs
  have hc := hW.2.2.1
  intro j
  induction j with
  | zero =>
    intro i a hi
    refine EV_iload_n dX6_flightsIn_4 rfl ?_
    refine EV_aload_n dX6_flightsIn_5 rfl ?_
    refine ES_getf dX6_flightsIn_6 fkX6_41 hn (by assumption) rfl ?_
    refine EV_icmp_ge 34 dX6_flightsIn_9 (by decide) (fun c9 => ?_) (fun c9 => ?_)
    · skip
      refine EV_iload_n dX6_flightsIn_34 rfl ?_
      exact ES_iret dX6_flightsIn_35 rfl rfl rfl rfl
    · skip
      exact absurd (by rw [hc.1]; exact nI_le (by omega) (by omega)) c9
  | succ j ih =>
    intro i a hi
    have hFO := (fl_of hs (show i < 12 by omega)).1
    refine EV_iload_n dX6_flightsIn_4 rfl ?_
    refine EV_aload_n dX6_flightsIn_5 rfl ?_
    refine ES_getf dX6_flightsIn_6 fkX6_41 hn (by assumption) rfl ?_
    refine EV_icmp_ge 34 dX6_flightsIn_9 (by decide) (fun c9 => ?_) (fun c9 => ?_)
    · skip
      exact absurd c9 (by rw [hc.1]; exact nI_ge (by omega) (by omega))
    · skip
      refine EV_aload_n dX6_flightsIn_12 rfl ?_
      refine ES_getf dX6_flightsIn_13 fkX6_19 hn (by assumption) rfl ?_
      refine EV_iload_n dX6_flightsIn_16 rfl ?_
      refine ES_aaldF hs dX6_flightsIn_17 hn (by omega) ?_
      refine ES_getf dX6_flightsIn_18 fkX6_86 hn (by assumption) rfl ?_
      refine EV_iload_n dX6_flightsIn_21 rfl ?_
      refine EV_icmp_ne 28 dX6_flightsIn_22 (by decide) (fun c22 => ?_) (fun c22 => ?_)
      · skip
        refine EV_iinc dX6_flightsIn_28 rfl (Nat.le_of_ble_eq_true rfl) rfl ?_
        refine EV_goto 4 dX6_flightsIn_31 (by decide) ?_
        rw [show nI i + Int32.ofInt 1 = nI (i + 1) from (nI_succ i).symm]
        simp only [finL, if_neg c9, if_neg c22]
        exact ih (i + 1) _ (by omega)
      · skip
        refine EV_iinc dX6_flightsIn_25 rfl (Nat.le_of_ble_eq_true rfl) rfl ?_
        refine EV_iinc dX6_flightsIn_28 rfl (Nat.le_of_ble_eq_true rfl) rfl ?_
        refine EV_goto 4 dX6_flightsIn_31 (by decide) ?_
        rw [show nI i + Int32.ofInt 1 = nI (i + 1) from (nI_succ i).symm]
        simp only [finL, if_neg c9, if_pos c22]
        exact ih (i + 1) _ (by omega)
theorem sp_flightsIn {σ : qσ} {s cc fc zc : Nat} (hW : WF σ s cc fc zc) (st : Int32) : SP z k mX6_flightsIn [.ref s, .int st] σ (some (.int (finL σ s st fc 0 0))) σ := by
  refine SP_of 2 (by decide) (Nat.le_of_ble_eq_true rfl) fun X n hn => ?_
  refine EV_iconst (v := 0) dX6_flightsIn_0 (by decide) ?_
  refine EV_istore_n dX6_flightsIn_1 (Nat.le_of_ble_eq_true rfl) (Nat.le_of_ble_eq_true rfl) rfl ?_
  refine EV_iconst (v := 0) dX6_flightsIn_2 (by decide) ?_
  refine EV_istore_n dX6_flightsIn_3 (Nat.le_of_ble_eq_true rfl) (Nat.le_of_ble_eq_true rfl) rfl ?_
  exact lp_fin hn hW st fc 0 0 (by omega)
set_option maxHeartbeats 4000000 in
theorem lp_fly (hn : 112 ≤ n) {σ : qσ} {s cc fc zc : Nat} (hW : WF σ s cc fc zc) (c : Int32) : ∀ (j i : Nat) (a : Int32), i + j = cc → EV z k mX6_flyingIn 4 [.ref s, .int c, .int a, .int (nI i)] [] (mm σ X) n 0 0 (qRes (some (.int (flyL σ s c j i a))) (mm σ X) n) := by
  have hs := hW.1
  have hO := o_sky hs
  have hc := hW.2.1
  intro j
  induction j with
  | zero =>
    intro i a hi
    refine EV_iload_n dX6_flyingIn_4 rfl ?_
    refine EV_aload_n dX6_flyingIn_5 rfl ?_
    refine ES_getf dX6_flyingIn_6 fkX6_33 hn (by assumption) rfl ?_
    refine EV_icmp_ge 47 dX6_flyingIn_9 (by decide) (fun c9 => ?_) (fun c9 => ?_)
    · skip
      refine EV_iload_n dX6_flyingIn_47 rfl ?_
      exact ES_iret dX6_flyingIn_48 rfl rfl rfl rfl
    · skip
      exact absurd (by rw [hc.1]; exact nI_le (by omega) (by omega)) c9
  | succ j ih =>
    intro i a hi
    have hC := o_craft hs (show i < 6 by omega)
    refine EV_iload_n dX6_flyingIn_4 rfl ?_
    refine EV_aload_n dX6_flyingIn_5 rfl ?_
    refine ES_getf dX6_flyingIn_6 fkX6_33 hn (by assumption) rfl ?_
    refine EV_icmp_ge 47 dX6_flyingIn_9 (by decide) (fun c9 => ?_) (fun c9 => ?_)
    · skip
      exact absurd c9 (by rw [hc.1]; exact nI_ge (by omega) (by omega))
    · skip
      refine EV_aload_n dX6_flyingIn_12 rfl ?_
      refine ES_getf dX6_flyingIn_13 fkX6_11 hn (by assumption) rfl ?_
      refine EV_iload_n dX6_flyingIn_16 rfl ?_
      refine ES_aaldC hs dX6_flyingIn_17 hn (by omega) ?_
      refine ES_getf dX6_flyingIn_18 fkX6_99 hn (by assumption) rfl ?_
      refine EV_iconst (v := 1) dX6_flyingIn_21 (by decide) ?_
      refine EV_icmp_ne 41 dX6_flyingIn_22 (by decide) (fun c22 => ?_) (fun c22 => ?_)
      · skip
        refine EV_iinc dX6_flyingIn_41 rfl (Nat.le_of_ble_eq_true rfl) rfl ?_
        refine EV_goto 4 dX6_flyingIn_44 (by decide) ?_
        rw [show nI i + Int32.ofInt 1 = nI (i + 1) from (nI_succ i).symm]
        simp only [flyL, if_neg c9, if_neg c22]
        exact ih (i + 1) _ (by omega)
      · skip
        refine EV_aload_n dX6_flyingIn_25 rfl ?_
        refine ES_getf dX6_flyingIn_26 fkX6_11 hn (by assumption) rfl ?_
        refine EV_iload_n dX6_flyingIn_29 rfl ?_
        refine ES_aaldC hs dX6_flyingIn_30 hn (by omega) ?_
        refine ES_getf dX6_flyingIn_31 fkX6_100 hn (by assumption) rfl ?_
        refine EV_iload_n dX6_flyingIn_34 rfl ?_
        refine EV_icmp_ne 41 dX6_flyingIn_35 (by decide) (fun c35 => ?_) (fun c35 => ?_)
        · skip
          refine EV_iinc dX6_flyingIn_41 rfl (Nat.le_of_ble_eq_true rfl) rfl ?_
          refine EV_goto 4 dX6_flyingIn_44 (by decide) ?_
          rw [show nI i + Int32.ofInt 1 = nI (i + 1) from (nI_succ i).symm]
          simp only [flyL, if_neg c9, if_pos c22, if_neg c35]
          exact ih (i + 1) _ (by omega)
        · skip
          refine EV_iinc dX6_flyingIn_38 rfl (Nat.le_of_ble_eq_true rfl) rfl ?_
          refine EV_iinc dX6_flyingIn_41 rfl (Nat.le_of_ble_eq_true rfl) rfl ?_
          refine EV_goto 4 dX6_flyingIn_44 (by decide) ?_
          rw [show nI i + Int32.ofInt 1 = nI (i + 1) from (nI_succ i).symm]
          simp only [flyL, if_neg c9, if_pos c22, if_pos c35]
          exact ih (i + 1) _ (by omega)
theorem sp_flyingIn {σ : qσ} {s cc fc zc : Nat} (hW : WF σ s cc fc zc) (c : Int32) : SP z k mX6_flyingIn [.ref s, .int c] σ (some (.int (flyL σ s c cc 0 0))) σ := by
  refine SP_of 2 (by decide) (Nat.le_of_ble_eq_true rfl) fun X n hn => ?_
  refine EV_iconst (v := 0) dX6_flyingIn_0 (by decide) ?_
  refine EV_istore_n dX6_flyingIn_1 (Nat.le_of_ble_eq_true rfl) (Nat.le_of_ble_eq_true rfl) rfl ?_
  refine EV_iconst (v := 0) dX6_flyingIn_2 (by decide) ?_
  refine EV_istore_n dX6_flyingIn_3 (Nat.le_of_ble_eq_true rfl) (Nat.le_of_ble_eq_true rfl) rfl ?_
  exact lp_fly hn hW c cc 0 0 (by omega)
set_option maxHeartbeats 4000000 in
theorem lp_bre (hn : 112 ≤ n) {σ : qσ} {s cc fc zc : Nat} (hW : WF σ s cc fc zc) : ∀ (j i : Nat) (a : Int32), i + j = cc → EV z k mX6_allBreaches 4 [.ref s, .int a, .int (nI i)] [] (mm σ X) n 0 0 (qRes (some (.int (breL σ s j i a))) (mm σ X) n) := by
  have hs := hW.1
  have hO := o_sky hs
  have hc := hW.2.1
  intro j
  induction j with
  | zero =>
    intro i a hi
    refine EV_iload_n dX6_allBreaches_4 rfl ?_
    refine EV_aload_n dX6_allBreaches_5 rfl ?_
    refine ES_getf dX6_allBreaches_6 fkX6_33 hn (by assumption) rfl ?_
    refine EV_icmp_ge 30 dX6_allBreaches_9 (by decide) (fun c9 => ?_) (fun c9 => ?_)
    · skip
      refine EV_iload_n dX6_allBreaches_30 rfl ?_
      exact ES_iret dX6_allBreaches_31 rfl rfl rfl rfl
    · skip
      exact absurd (by rw [hc.1]; exact nI_le (by omega) (by omega)) c9
  | succ j ih =>
    intro i a hi
    have hC := o_craft hs (show i < 6 by omega)
    refine EV_iload_n dX6_allBreaches_4 rfl ?_
    refine EV_aload_n dX6_allBreaches_5 rfl ?_
    refine ES_getf dX6_allBreaches_6 fkX6_33 hn (by assumption) rfl ?_
    refine EV_icmp_ge 30 dX6_allBreaches_9 (by decide) (fun c9 => ?_) (fun c9 => ?_)
    · skip
      exact absurd c9 (by rw [hc.1]; exact nI_ge (by omega) (by omega))
    · skip
      refine EV_iload_n dX6_allBreaches_12 rfl ?_
      refine EV_aload_n dX6_allBreaches_13 rfl ?_
      refine ES_getf dX6_allBreaches_14 fkX6_11 hn (by assumption) rfl ?_
      refine EV_iload_n dX6_allBreaches_17 rfl ?_
      refine ES_aaldC hs dX6_allBreaches_18 hn (by omega) ?_
      refine ES_getf dX6_allBreaches_19 fkX6_173 hn (by assumption) rfl ?_
      refine EV_iadd dX6_allBreaches_22 ?_
      refine EV_istore_n dX6_allBreaches_23 (Nat.le_of_ble_eq_true rfl) (Nat.le_of_ble_eq_true rfl) rfl ?_
      refine EV_iinc dX6_allBreaches_24 rfl (Nat.le_of_ble_eq_true rfl) rfl ?_
      refine EV_goto 4 dX6_allBreaches_27 (by decide) ?_
      rw [show nI i + Int32.ofInt 1 = nI (i + 1) from (nI_succ i).symm, breL]
      exact ih (i + 1) _ (by omega)
theorem sp_allBreaches {σ : qσ} {s cc fc zc : Nat} (hW : WF σ s cc fc zc) : SP z k mX6_allBreaches [.ref s] σ (some (.int (breL σ s cc 0 0))) σ := by
  refine SP_of 2 (by decide) (Nat.le_of_ble_eq_true rfl) fun X n hn => ?_
  refine EV_iconst (v := 0) dX6_allBreaches_0 (by decide) ?_
  refine EV_istore_n dX6_allBreaches_1 (Nat.le_of_ble_eq_true rfl) (Nat.le_of_ble_eq_true rfl) rfl ?_
  refine EV_iconst (v := 0) dX6_allBreaches_2 (by decide) ?_
  refine EV_istore_n dX6_allBreaches_3 (Nat.le_of_ble_eq_true rfl) (Nat.le_of_ble_eq_true rfl) rfl ?_
  exact lp_bre hn hW cc 0 0 (by omega)
end Cn
/-! copies as rows -/
def cpRow (n : Nat) (f g : Nat → Int32) : Nat → Int32 := fun j => if j < n then f j else g j
theorem cpy_row (f g : Nat → Int32) (n : Nat) : va_cpy f g 0 0 n = cpRow n f g := by
  funext j
  simp [va_cpy, cpRow]
theorem lt12 {j : Nat} (h : j < 12) : j = 0 ∨ j = 1 ∨ j = 2 ∨ j = 3 ∨ j = 4 ∨ j = 5 ∨ j = 6 ∨ j = 7 ∨ j = 8 ∨ j = 9 ∨ j = 10 ∨ j = 11 := by omega
set_option maxHeartbeats 4000000 in
theorem cpCraft_row {σ : qσ} {r o : Nat} (h : o ≠ r) : cpCraftF σ r o = srow σ r (cpRow 12 (σ o) (σ r)) := by
  funext k j
  unfold cpCraftF
  by_cases hk : k = r
  · subst hk
    have ho : ∀ (τ : qσ) (i : Nat) (v : Int32), sset τ k i v o = τ o := fun τ i v => sset_ne τ i v h
    simp only [ho, srow_self, cpRow]
    by_cases hj : j < 12
    · rw [if_pos hj]
      rcases lt12 hj with rfl | rfl | rfl | rfl | rfl | rfl | rfl | rfl | rfl | rfl | rfl | rfl <;> simp [sset_at]
    · rw [if_neg hj]
      have h0 : ∀ t, t < 12 → ¬ j = t := fun t ht e => hj (by omega)
      simp only [sset_at, true_and, h0 0 (by omega), h0 1 (by omega), h0 2 (by omega), h0 3 (by omega), h0 4 (by omega), h0 5 (by omega), h0 6 (by omega), h0 7 (by omega), h0 8 (by omega), h0 9 (by omega), h0 10 (by omega), h0 11 (by omega), if_false]
  · simp [sset_at, srow, hk]
theorem cpRoute_row {σ : qσ} {r o : Nat} (h : o ≠ r + 1) (h2 : o + 1 ≠ r + 1) : cpRouteF σ r o = sset (srow σ (r + 1) (cpRow 10 (σ (o + 1)) (σ (r + 1)))) r 1 (σ o 1) := by
  unfold cpRouteF
  rw [cpy_row, srow_ne _ _ h]
theorem cpFlight_row {σ : qσ} {r o : Nat} (h : o ≠ r) (h1 : o + 1 ≠ r) (h2 : o + 1 + 1 ≠ r) (h3 : o + 1 ≠ r + 1 + 1) (hne : o + 1 + 1 ≠ r + 1 + 1) (h5 : o + 1 ≠ r + 1) (h6 : o ≠ r + 1) : cpFlightF σ r o = sset (srow (srow σ r (cpRow 3 (σ o) (σ r))) (r + 1 + 1) (cpRow 10 (σ (o + 1 + 1)) (σ (r + 1 + 1)))) (r + 1) 1 (σ (o + 1) 1) := by
  have e : sset (sset (sset σ r 0 (σ o 0)) r 1 (sset σ r 0 (σ o 0) o 1)) r 2 (sset (sset σ r 0 (σ o 0)) r 1 (sset σ r 0 (σ o 0) o 1) o 2) = srow σ r (cpRow 3 (σ o) (σ r)) := by
    have ho : ∀ (τ : qσ) (i : Nat) (v : Int32), sset τ r i v o = τ o := fun τ i v => sset_ne τ i v h
    funext k j
    by_cases hk : k = r
    · subst hk
      simp only [ho, srow_self, cpRow, sset_at, true_and]
      rcases (show j = 0 ∨ j = 1 ∨ j = 2 ∨ 3 ≤ j by omega) with rfl | rfl | rfl | h3 <;> try simp
      · have a0 : ¬ j = 0 := by omega
        have a1 : ¬ j = 1 := by omega
        have a2 : ¬ j = 2 := by omega
        have a3 : ¬ j < 3 := by omega
        simp [a0, a1, a2, a3]
    · simp [sset_at, srow, hk]
  unfold cpFlightF
  dsimp only
  rw [e, cpRoute_row h3 hne, srow_ne _ _ h2, srow_ne _ _ h1, srow_ne _ _ (show r + 1 + 1 ≠ r by omega)]
def cpCL : Nat → Nat → qσ → qσ
  | 0, _, σ => σ
  | j + 1, i, σ => cpCL j (i + 1) (cpCraftF σ (60 + 4 + i) (14 + 4 + i))
def cpFL : Nat → Nat → qσ → qσ
  | 0, _, σ => σ
  | j + 1, i, σ => cpFL j (i + 1) (cpFlightF σ (60 + 10 + 3 * i) (14 + 10 + 3 * i))
def cpA (σ : qσ) (cc : Nat) : qσ := cpCL cc 0 (sset σ 60 2 (σ 14 2))
def cpB (σ : qσ) (cc fc : Nat) : qσ := cpFL fc 0 (sset (cpA σ cc) 60 4 (cpA σ cc 14 4))
def cpC (σ : qσ) (cc fc : Nat) : qσ := srow (cpB σ cc fc) (60 + 3) (va_cpy (cpB σ cc fc (14 + 3)) (cpB σ cc fc (60 + 3)) 0 0 25)
def cpSkyF (σ : qσ) (cc fc : Nat) : qσ :=
  let σ1 := sset (cpC σ cc fc) 60 6 (cpC σ cc fc 14 6)
  let σ2 := sset σ1 60 7 (σ1 14 7)
  sset σ2 60 8 (σ2 14 8)
/-- only the trial's cells have changed -/
def Tr (σ σ' : qσ) : Prop := ∀ k, (k < 60 ∨ 106 ≤ k) → σ' k = σ k
theorem Tr.rf {σ : qσ} : Tr σ σ := fun _ _ => rfl
theorem Tr.tr {σ σ1 σ2 : qσ} (h : Tr σ σ1) (g : Tr σ1 σ2) : Tr σ σ2 := fun k hk => (g k hk).trans (h k hk)
theorem Tr.set {σ σ1 : qσ} (h : Tr σ σ1) {r : Nat} (hr : 60 ≤ r ∧ r < 106) (j : Nat) (v : Int32) : Tr σ (sset σ1 r j v) := fun k hk => (sset_ne _ _ _ (by omega)).trans (h k hk)
theorem Tr.row {σ σ1 : qσ} (h : Tr σ σ1) {r : Nat} (hr : 60 ≤ r ∧ r < 106) (g : Nat → Int32) : Tr σ (srow σ1 r g) := fun k hk => (srow_ne _ _ (by omega)).trans (h k hk)
theorem cpC_tr {σ : qσ} {i : Nat} (hi : i < 6) : Tr σ (cpCraftF σ (60 + 4 + i) (14 + 4 + i)) := by
  rw [cpCraft_row (by omega)]
  exact Tr.rf.row (by omega) _
theorem cpF_row {σ : qσ} {i : Nat} (hi : i < 12) : cpFlightF σ (60 + 10 + 3 * i) (14 + 10 + 3 * i) = sset (srow (srow σ (60 + 10 + 3 * i) (cpRow 3 (σ (14 + 10 + 3 * i)) (σ (60 + 10 + 3 * i)))) (60 + 10 + 3 * i + 1 + 1) (cpRow 10 (σ (14 + 10 + 3 * i + 1 + 1)) (σ (60 + 10 + 3 * i + 1 + 1)))) (60 + 10 + 3 * i + 1) 1 (σ (14 + 10 + 3 * i + 1) 1) :=
  cpFlight_row (by omega) (by omega) (by omega) (by omega) (by omega) (by omega) (by omega)
theorem cpF_tr {σ : qσ} {i : Nat} (hi : i < 12) : Tr σ (cpFlightF σ (60 + 10 + 3 * i) (14 + 10 + 3 * i)) := by
  rw [cpF_row hi]
  exact ((Tr.rf.row (by omega) _).row (by omega) _).set (by omega) _ _
/-- links are truth values, routes have ten cells at most: of the trial too -/
def WT (σ : qσ) (s : Nat) : Prop := (∀ i, i < 6 → ∃ b, σ (s + 4 + i) 6 = bI b) ∧ (∀ i, i < 12 → ∃ c, c ≤ 10 ∧ σ (s + 10 + 3 * i + 1) 1 = nI c)
theorem WF.t {σ : qσ} {s cc fc zc : Nat} (h : WF σ s cc fc zc) : WT σ s := ⟨h.2.2.2.2.1, h.2.2.2.2.2⟩
theorem WT.cpC {σ : qσ} {i0 : Nat} (h14 : WT σ 14) (h60 : WT σ 60) (hi0 : i0 < 6) : WT (cpCraftF σ (60 + 4 + i0) (14 + 4 + i0)) 14 ∧ WT (cpCraftF σ (60 + 4 + i0) (14 + 4 + i0)) 60 := by
  have ht := cpC_tr (σ := σ) hi0
  refine ⟨⟨fun i hi => ?_, fun i hi => ?_⟩, ⟨fun i hi => ?_, fun i hi => ?_⟩⟩
  · rw [ht _ (by omega)]; exact h14.1 i hi
  · rw [ht _ (by omega)]; exact h14.2 i hi
  · rw [cpCraft_row (by omega)]
    by_cases h : i = i0
    · subst h
      rw [srow_self]
      exact h14.1 i hi
    · rw [srow_ne _ _ (by omega)]; exact h60.1 i hi
  · rw [cpCraft_row (by omega), srow_ne _ _ (by omega)]; exact h60.2 i hi
theorem WT.cpF {σ : qσ} {i0 : Nat} (h14 : WT σ 14) (h60 : WT σ 60) (hi0 : i0 < 12) : WT (cpFlightF σ (60 + 10 + 3 * i0) (14 + 10 + 3 * i0)) 14 ∧ WT (cpFlightF σ (60 + 10 + 3 * i0) (14 + 10 + 3 * i0)) 60 := by
  have ht := cpF_tr (σ := σ) hi0
  refine ⟨⟨fun i hi => ?_, fun i hi => ?_⟩, ⟨fun i hi => ?_, fun i hi => ?_⟩⟩
  · rw [ht _ (by omega)]; exact h14.1 i hi
  · rw [ht _ (by omega)]; exact h14.2 i hi
  · rw [cpF_row hi0, sset_ne _ _ _ (by omega), srow_ne _ _ (by omega), srow_ne _ _ (by omega)]; exact h60.1 i hi
  · rw [cpF_row hi0]
    by_cases h : i = i0
    · subst h
      rw [sset_self]
      obtain ⟨c, h1, h2⟩ := h14.2 i hi
      exact ⟨c, h1, by simp [upd, h2]⟩
    · rw [sset_ne _ _ _ (by omega), srow_ne _ _ (by omega), srow_ne _ _ (by omega)]; exact h60.2 i hi
theorem s60 : isSky 60 := Or.inr rfl
section Cp
variable {z : qZ} {k : Nat} {X : qM} {n : Nat}
set_option maxHeartbeats 8000000 in
theorem lp_cpC (hn : 112 ≤ n) {cc : Nat} (h6 : cc ≤ 6) {Q : qQ} : ∀ (j i : Nat) (σ : qσ), σ 60 2 = nI cc → WT σ 14 → WT σ 60 → i + j = cc →
    EV z (k + 3) mX6_copyFrom 39 [.ref 60, .ref 14, .int (nI cc)] [] (mm (cpCL j i σ) X) n 0 0 Q → EV z (k + 3) mX6_copyFrom 10 [.ref 60, .ref 14, .int (nI i)] [] (mm σ X) n 0 0 Q := by
  have hO := o_sky s60
  have hO2 := o_sky s14
  intro j
  induction j with
  | zero =>
    intro i σ hc h14 h60 hi kk
    refine EV_iload_n dX6_copyFrom_10 rfl ?_
    refine EV_aload_n dX6_copyFrom_11 rfl ?_
    refine ES_getf dX6_copyFrom_12 fkX6_33 hn (by assumption) rfl ?_
    refine EV_icmp_ge 39 dX6_copyFrom_15 (by decide) (fun c15 => ?_) (fun c15 => ?_)
    · skip
      rw [show i = cc by omega]; exact kk
    · skip
      exact absurd (by rw [hc]; exact nI_le (by omega) (by omega)) c15
  | succ j ih =>
    intro i σ hc h14 h60 hi kk
    have hC := o_craft s60 (show i < 6 by omega)
    have hC2 := o_craft s14 (show i < 6 by omega)
    obtain ⟨b, hb⟩ := h14.1 i (by omega)
    have hw := WT.cpC h14 h60 (show i < 6 by omega)
    refine EV_iload_n dX6_copyFrom_10 rfl ?_
    refine EV_aload_n dX6_copyFrom_11 rfl ?_
    refine ES_getf dX6_copyFrom_12 fkX6_33 hn (by assumption) rfl ?_
    refine EV_icmp_ge 39 dX6_copyFrom_15 (by decide) (fun c15 => ?_) (fun c15 => ?_)
    · skip
      exact absurd c15 (by rw [hc]; exact nI_ge (by omega) (by omega))
    · skip
      refine EV_aload_n dX6_copyFrom_18 rfl ?_
      refine ES_getf dX6_copyFrom_19 fkX6_11 hn hO rfl ?_
      refine EV_iload_n dX6_copyFrom_22 rfl ?_
      refine ES_aaldC s60 dX6_copyFrom_23 hn (by omega) ?_
      refine EV_aload_n dX6_copyFrom_24 rfl ?_
      refine ES_getf dX6_copyFrom_25 fkX6_11 hn hO2 rfl ?_
      refine EV_iload_n dX6_copyFrom_28 rfl ?_
      refine ES_aaldC s14 dX6_copyFrom_29 hn (by omega) ?_
      refine ES_callV dX6_copyFrom_30 mkX6_37 mfX0_copyFrom mvX0_copyFrom hn hC rfl (sp_cpCraft z (k + 2) hC hC2 (by omega) hb) rfl rfl (Nat.le_of_ble_eq_true rfl) ?_
      refine EV_iinc dX6_copyFrom_33 rfl (Nat.le_of_ble_eq_true rfl) rfl ?_
      refine EV_goto 10 dX6_copyFrom_36 (by decide) ?_
      rw [show nI i + Int32.ofInt 1 = nI (i + 1) from (nI_succ i).symm]
      refine ih (i + 1) _ ?_ hw.1 hw.2 (by omega) kk
      rw [cpCraft_row (by omega), srow_ne _ _ (by omega)]; exact hc
set_option maxHeartbeats 8000000 in
theorem lp_cpF (hn : 112 ≤ n) {fc : Nat} (h12 : fc ≤ 12) {Q : qQ} : ∀ (j i : Nat) (σ : qσ), σ 60 4 = nI fc → WT σ 14 → WT σ 60 → i + j = fc →
    EV z (k + 3) mX6_copyFrom 78 [.ref 60, .ref 14, .int (nI fc)] [] (mm (cpFL j i σ) X) n 0 0 Q → EV z (k + 3) mX6_copyFrom 49 [.ref 60, .ref 14, .int (nI i)] [] (mm σ X) n 0 0 Q := by
  have hO := o_sky s60
  have hO2 := o_sky s14
  intro j
  induction j with
  | zero =>
    intro i σ hc h14 h60 hi kk
    refine EV_iload_n dX6_copyFrom_49 rfl ?_
    refine EV_aload_n dX6_copyFrom_50 rfl ?_
    refine ES_getf dX6_copyFrom_51 fkX6_41 hn (by assumption) rfl ?_
    refine EV_icmp_ge 78 dX6_copyFrom_54 (by decide) (fun c54 => ?_) (fun c54 => ?_)
    · skip
      rw [show i = fc by omega]; exact kk
    · skip
      exact absurd (by rw [hc]; exact nI_le (by omega) (by omega)) c54
  | succ j ih =>
    intro i σ hc h14 h60 hi kk
    have hF := fl_of s60 (show i < 12 by omega)
    have hF2 := fl_of s14 (show i < 12 by omega)
    have hw := WT.cpF h14 h60 (show i < 12 by omega)
    refine EV_iload_n dX6_copyFrom_49 rfl ?_
    refine EV_aload_n dX6_copyFrom_50 rfl ?_
    refine ES_getf dX6_copyFrom_51 fkX6_41 hn (by assumption) rfl ?_
    refine EV_icmp_ge 78 dX6_copyFrom_54 (by decide) (fun c54 => ?_) (fun c54 => ?_)
    · skip
      exact absurd c54 (by rw [hc]; exact nI_ge (by omega) (by omega))
    · skip
      refine EV_aload_n dX6_copyFrom_57 rfl ?_
      refine ES_getf dX6_copyFrom_58 fkX6_19 hn hO rfl ?_
      refine EV_iload_n dX6_copyFrom_61 rfl ?_
      refine ES_aaldF s60 dX6_copyFrom_62 hn (by omega) ?_
      refine EV_aload_n dX6_copyFrom_63 rfl ?_
      refine ES_getf dX6_copyFrom_64 fkX6_19 hn hO2 rfl ?_
      refine EV_iload_n dX6_copyFrom_67 rfl ?_
      refine ES_aaldF s14 dX6_copyFrom_68 hn (by omega) ?_
      refine ES_callV dX6_copyFrom_69 mkX6_44 mfX1_copyFrom mvX1_copyFrom hn hF.1 rfl (sp_cpFlight z k hF hF2) rfl rfl (Nat.le_of_ble_eq_true rfl) ?_
      refine EV_iinc dX6_copyFrom_72 rfl (Nat.le_of_ble_eq_true rfl) rfl ?_
      refine EV_goto 49 dX6_copyFrom_75 (by decide) ?_
      rw [show nI i + Int32.ofInt 1 = nI (i + 1) from (nI_succ i).symm]
      refine ih (i + 1) _ ?_ hw.1 hw.2 (by omega) kk
      rw [cpF_row (by omega), sset_ne _ _ _ (by omega), srow_ne _ _ (by omega), srow_ne _ _ (by omega)]; exact hc
theorem cpCL_ok {cc : Nat} : ∀ (j i : Nat) (σ : qσ), WT σ 14 → WT σ 60 → i + j ≤ 6 → WT (cpCL j i σ) 14 ∧ WT (cpCL j i σ) 60 ∧ Tr σ (cpCL j i σ) ∧ cpCL j i σ 60 = σ 60 := by
  intro j
  induction j with
  | zero => intro i σ h1 h2 _; exact ⟨h1, h2, Tr.rf, rfl⟩
  | succ j ih =>
    intro i σ h1 h2 hi
    have hw := WT.cpC h1 h2 (show i < 6 by omega)
    obtain ⟨a, b, c, d⟩ := ih (i + 1) _ hw.1 hw.2 (by omega)
    refine ⟨a, b, (cpC_tr (by omega)).tr c, d.trans ?_⟩
    rw [cpCraft_row (by omega), srow_ne _ _ (by omega)]
theorem cpFL_ok : ∀ (j i : Nat) (σ : qσ), WT σ 14 → WT σ 60 → i + j ≤ 12 → WT (cpFL j i σ) 14 ∧ WT (cpFL j i σ) 60 ∧ Tr σ (cpFL j i σ) ∧ cpFL j i σ 60 = σ 60 := by
  intro j
  induction j with
  | zero => intro i σ h1 h2 _; exact ⟨h1, h2, Tr.rf, rfl⟩
  | succ j ih =>
    intro i σ h1 h2 hi
    have hw := WT.cpF h1 h2 (show i < 12 by omega)
    obtain ⟨a, b, c, d⟩ := ih (i + 1) _ hw.1 hw.2 (by omega)
    refine ⟨a, b, (cpF_tr (by omega)).tr c, d.trans ?_⟩
    rw [cpF_row (by omega), sset_ne _ _ _ (by omega), srow_ne _ _ (by omega), srow_ne _ _ (by omega)]
theorem WT.set60 {σ : qσ} {s j : Nat} {v : Int32} (h : WT σ s) (hs : isSky s) : WT (sset σ 60 j v) s := by
  refine ⟨fun i hi => ?_, fun i hi => ?_⟩
  · rw [sset_ne _ _ _ (by rcases hs with rfl | rfl <;> omega)]; exact h.1 i hi
  · rw [sset_ne _ _ _ (by rcases hs with rfl | rfl <;> omega)]; exact h.2 i hi
theorem cpA_ok {σ : qσ} {cc fc zc : Nat} (hW : WF σ 14 cc fc zc) (h60 : WT σ 60) : WT (cpA σ cc) 14 ∧ WT (cpA σ cc) 60 ∧ Tr σ (cpA σ cc) ∧ cpA σ cc 60 = upd (σ 60) 2 (σ 14 2) := by
  obtain ⟨a, b, c, d⟩ := cpCL_ok (cc := cc) cc 0 (sset σ 60 2 (σ 14 2)) (hW.t.set60 s14) (h60.set60 s60) (by have := hW.2.1.2; omega)
  exact ⟨a, b, (Tr.rf.set (by omega) _ _).tr c, d.trans (sset_self _ _ _ _)⟩
theorem cpB_ok {σ : qσ} {cc fc zc : Nat} (hW : WF σ 14 cc fc zc) (h60 : WT σ 60) : WT (cpB σ cc fc) 14 ∧ WT (cpB σ cc fc) 60 ∧ Tr σ (cpB σ cc fc) ∧ cpB σ cc fc 60 = upd (upd (σ 60) 2 (σ 14 2)) 4 (σ 14 4) := by
  obtain ⟨a, b, c, d⟩ := cpA_ok hW h60
  obtain ⟨a2, b2, c2, d2⟩ := cpFL_ok fc 0 (sset (cpA σ cc) 60 4 (cpA σ cc 14 4)) (a.set60 s14) (b.set60 s60) (by have := hW.2.2.1.2; omega)
  refine ⟨a2, b2, (c.set (by omega) _ _).tr c2, d2.trans ?_⟩
  rw [sset_self, d, c 14 (by omega)]
theorem cpSky_ok {σ : qσ} {cc fc zc : Nat} (hW : WF σ 14 cc fc zc) (h60 : WT σ 60) : WF (cpSkyF σ cc fc) 60 cc fc zc ∧ Tr σ (cpSkyF σ cc fc) := by
  obtain ⟨a, b, c, d⟩ := cpB_ok hW h60
  have t1 : Tr σ (cpSkyF σ cc fc) := (((c.row (by omega) _).set (by omega) _ _).set (by omega) _ _).set (by omega) _ _
  have e60 : ∀ j, j < 6 → cpSkyF σ cc fc 60 j = cpB σ cc fc 60 j := by
    intro j hj
    have n6 : ¬ j = 6 := by omega
    have n7 : ¬ j = 7 := by omega
    have n8 : ¬ j = 8 := by omega
    simp only [cpSkyF, sset_at, true_and, n6, n7, n8, if_false, cpC]
    rw [srow_ne _ _ (by omega)]
  have ek : ∀ k j, 63 < k → cpSkyF σ cc fc k j = cpB σ cc fc k j := by
    intro k j hk
    have n60 : ¬ k = 60 := by omega
    simp only [cpSkyF, sset_at, n60, false_and, if_false, cpC]
    rw [srow_ne _ _ (by omega)]
  refine ⟨⟨s60, ⟨?_, hW.2.1.2⟩, ⟨?_, hW.2.2.1.2⟩, ⟨?_, hW.2.2.2.1.2⟩, fun i hi => ?_, fun i hi => ?_⟩, t1⟩
  · rw [e60 2 (by omega), d]; simp [upd]; exact hW.2.1.1
  · rw [e60 4 (by omega), d]; simp [upd]; exact hW.2.2.1.1
  · rw [t1 2 (by omega)]; exact hW.2.2.2.1.1
  · rw [ek _ _ (by omega)]; exact b.1 i hi
  · rw [ek _ _ (by omega)]; exact b.2 i hi
set_option maxHeartbeats 8000000 in
theorem cp78 (hn : 112 ≤ n) {σ : qσ} {cc fc : Nat} : EV z (k + 3) mX6_copyFrom 78 [.ref 60, .ref 14, .int (nI fc)] [] (mm (cpB σ cc fc) X) n 0 0 (qRes none (mm (cpSkyF σ cc fc) X) n) := by
  have hO := o_sky s60
  have hO2 := o_sky s14
  refine EV_aload_n dX6_copyFrom_78 rfl ?_
  refine ES_getf dX6_copyFrom_79 fkX6_23 hn hO2 rfl ?_
  refine EV_iconst (v := 0) dX6_copyFrom_82 (by decide) ?_
  refine EV_aload_n dX6_copyFrom_83 rfl ?_
  refine ES_getf dX6_copyFrom_84 fkX6_23 hn hO rfl ?_
  refine EV_iconst (v := 0) dX6_copyFrom_87 (by decide) ?_
  refine EV_bipush (v := 25) dX6_copyFrom_88 (by decide) ?_
  refine ES_acopy dX6_copyFrom_90 lkX6_47 hn (a_heard s14) (a_heard s60) (by decide) (Nat.le_of_ble_eq_true rfl) ?_
  refine EV_aload_n dX6_copyFrom_93 rfl ?_
  refine EV_aload_n dX6_copyFrom_94 rfl ?_
  refine ES_getf dX6_copyFrom_95 fkX6_53 hn hO2 rfl ?_
  refine ES_put dX6_copyFrom_98 fkX6_53 hn hO (Nat.le_of_ble_eq_true rfl) (fun _ _ => rfl) rfl rfl ?_
  refine EV_aload_n dX6_copyFrom_101 rfl ?_
  refine EV_aload_n dX6_copyFrom_102 rfl ?_
  refine ES_getf dX6_copyFrom_103 fkX6_56 hn hO2 rfl ?_
  refine ES_put dX6_copyFrom_106 fkX6_56 hn hO (Nat.le_of_ble_eq_true rfl) (fun _ _ => rfl) rfl rfl ?_
  refine EV_aload_n dX6_copyFrom_109 rfl ?_
  refine EV_aload_n dX6_copyFrom_110 rfl ?_
  refine ES_getf dX6_copyFrom_111 fkX6_59 hn hO2 rfl ?_
  refine ES_put dX6_copyFrom_114 fkX6_59 hn hO (Nat.le_of_ble_eq_true rfl) (fun _ _ => rfl) rfl rfl ?_
  exact ES_vret dX6_copyFrom_117 rfl rfl
set_option maxHeartbeats 8000000 in
theorem sp_cpSky {σ : qσ} {cc fc zc : Nat} (hW : WF σ 14 cc fc zc) (h60 : WT σ 60) : SP z (k + 3) mX6_copyFrom [.ref 60, .ref 14] σ none (cpSkyF σ cc fc) := by
  refine SP_of 1 (by decide) (Nat.le_of_ble_eq_true rfl) fun X n hn => ?_
  have hO := o_sky s60
  have hO2 := o_sky s14
  obtain ⟨a, b, c, d⟩ := cpA_ok hW h60
  have hA4 : cpA σ cc 14 4 = nI fc := by rw [c 14 (by omega)]; exact hW.2.2.1.1
  refine EV_aload_n dX6_copyFrom_0 rfl ?_
  refine EV_aload_n dX6_copyFrom_1 rfl ?_
  refine ES_getf dX6_copyFrom_2 fkX6_33 hn hO2 rfl ?_
  refine ES_put dX6_copyFrom_5 fkX6_33 hn hO (Nat.le_of_ble_eq_true rfl) (fun _ _ => rfl) rfl rfl ?_
  refine EV_iconst (v := 0) dX6_copyFrom_8 (by decide) ?_
  refine EV_istore_n dX6_copyFrom_9 (Nat.le_of_ble_eq_true rfl) (Nat.le_of_ble_eq_true rfl) rfl ?_
  refine lp_cpC hn hW.2.1.2 cc 0 _ (by rw [sset_self]; simp [upd]; exact hW.2.1.1) (hW.t.set60 s14) (h60.set60 s60) (by omega) ?_
  show EV z (k + 3) mX6_copyFrom 39 _ _ (mm (cpA σ cc) X) n 0 0 _
  refine EV_aload_n dX6_copyFrom_39 rfl ?_
  refine EV_aload_n dX6_copyFrom_40 rfl ?_
  refine ES_getf dX6_copyFrom_41 fkX6_41 hn hO2 rfl ?_
  refine ES_put dX6_copyFrom_44 fkX6_41 hn hO (Nat.le_of_ble_eq_true rfl) (fun _ _ => rfl) rfl rfl ?_
  refine EV_iconst (v := 0) dX6_copyFrom_47 (by decide) ?_
  refine EV_istore_n dX6_copyFrom_48 (Nat.le_of_ble_eq_true rfl) (Nat.le_of_ble_eq_true rfl) rfl ?_
  refine lp_cpF hn hW.2.2.1.2 fc 0 _ (by rw [sset_self]; simp [upd]; exact hA4) (a.set60 s14) (b.set60 s60) (by omega) ?_
  show EV z (k + 3) mX6_copyFrom 78 _ _ (mm (cpB σ cc fc) X) n 0 0 _
  exact cp78 hn
end Cp
end
section
/-! ===== the air: what is told and asked ===== -/
/-- cells whose content no answer shows: the trial, what is planned, the search's rows -/
def hid (k : Nat) : Prop := (60 ≤ k ∧ k < 106) ∨ k = 109 ∨ k = 111 ∨ k = 112
/-- nothing that an answer shows has changed -/
def Vis (σ σ' : qσ) : Prop := ∀ k, ¬ hid k → σ' k = σ k
theorem Vis.rf {σ : qσ} : Vis σ σ := fun _ _ => rfl
theorem Vis.tr {σ σ1 σ2 : qσ} (h : Vis σ σ1) (g : Vis σ1 σ2) : Vis σ σ2 := fun k hk => (g k hk).trans (h k hk)
theorem Vis.sy {σ σ1 : qσ} (h : Vis σ σ1) : Vis σ1 σ := fun k hk => (h k hk).symm
theorem Pl.v {σ σ' : qσ} (h : Pl σ σ') : Vis σ σ' := fun k hk => h k (fun e => hk (Or.inr (Or.inl e)))
theorem Se.v {σ σ' : qσ} (h : Se σ σ') : Vis σ σ' := fun k hk => h k (fun e => hk (Or.inr (Or.inr (Or.inl e)))) (fun e => hk (Or.inr (Or.inr (Or.inr e))))
theorem Tr.v {σ σ' : qσ} (h : Tr σ σ') : Vis σ σ' := fun k hk => h k (by
  have h1 : ¬ (60 ≤ k ∧ k < 106) := fun e => hk (Or.inl e)
  omega)
/-- the air as it must be, with its numbers: pads, craft, flights, zones, now, the draft's cells -/
def OK (σ : qσ) (pc cc fc zc nw dc : Nat) : Prop := WF σ 14 cc fc zc ∧ WT σ 60 ∧ (σ 2 4 = nI pc ∧ pc ≤ 5) ∧ (σ 14 8 = nI nw ∧ nw ≤ 5000) ∧ (σ 106 1 = nI dc ∧ dc ≤ 10)
theorem OK.rt {σ : qσ} {pc cc fc zc nw dc : Nat} (h : OK σ pc cc fc zc nw dc) : okRt σ 106 := ⟨⟨o_draft, a_draft⟩, by omega, dc, h.2.2.2.2.2, h.2.2.2.2.1⟩
theorem OK.cd {σ : qσ} {pc cc fc zc nw dc : Nat} (h : OK σ pc cc fc zc nw dc) : cntF σ 106 = dc := cntF_of h.2.2.2.2.1 h.2.2.2.2.2
theorem WF.vis {σ σ' : qσ} {cc fc zc : Nat} (h : WF σ 14 cc fc zc) (hp : Vis σ σ') : WF σ' 14 cc fc zc := by
  obtain ⟨hs, h1, h2, h3, h4, h5⟩ := h
  have e : ∀ k, k < 60 → σ' k = σ k := fun k hk => hp k (by unfold hid; omega)
  refine ⟨hs, ⟨by rw [e 14 (by omega)]; exact h1.1, h1.2⟩, ⟨by rw [e 14 (by omega)]; exact h2.1, h2.2⟩, ⟨by rw [e 2 (by omega)]; exact h3.1, h3.2⟩, fun i hi => ?_, fun i hi => ?_⟩
  · rw [e _ (by omega)]; exact h4 i hi
  · rw [e _ (by omega)]; exact h5 i hi
theorem OK.vis {σ σ' : qσ} {pc cc fc zc nw dc : Nat} (h : OK σ pc cc fc zc nw dc) (hp : Vis σ σ') (ht : WT σ' 60) : OK σ' pc cc fc zc nw dc := by
  obtain ⟨h0, h1, h2, h3, h4⟩ := h
  refine ⟨h0.vis hp, ht, ?_, ?_, ?_⟩
  · rw [hp 2 (by unfold hid; omega)]; exact h2
  · rw [hp 14 (by unfold hid; omega)]; exact h3
  · rw [hp 106 (by unfold hid; omega)]; exact h4
theorem WT.pl {σ σ' : qσ} (h : WT σ 60) (hp : Pl σ σ') : WT σ' 60 := ⟨fun i hi => by rw [hp _ (by omega)]; exact h.1 i hi, fun i hi => by rw [hp _ (by omega)]; exact h.2 i hi⟩
theorem WT.se {σ σ' : qσ} (h : WT σ 60) (hp : Se σ σ') : WT σ' 60 := ⟨fun i hi => by rw [hp _ (by omega) (by omega)]; exact h.1 i hi, fun i hi => by rw [hp _ (by omega) (by omega)]; exact h.2 i hi⟩
theorem OK.pl {σ σ' : qσ} {pc cc fc zc nw dc : Nat} (h : OK σ pc cc fc zc nw dc) (hp : Pl σ σ') : OK σ' pc cc fc zc nw dc := h.vis hp.v (h.2.1.pl hp)
theorem OK.se {σ σ' : qσ} {pc cc fc zc nw dc : Nat} (h : OK σ pc cc fc zc nw dc) (hp : Se σ σ') : OK σ' pc cc fc zc nw dc := h.vis hp.v (h.2.1.se hp)
theorem bI_ne0 {b : Bool} (h : b = true) : ¬ bI b = 0 := by subst h; decide
theorem isCell_of {c : Int32} (h : vp_in c 25) : isCellF c = true := by
  obtain ⟨j, hj, rfl⟩ := vp_in_of h (by omega)
  unfold isCellF
  rw [if_neg (nI_pos (by omega)), if_neg (show ¬ (25 : Int32) ≤ nI j from nI_ge (a := j) (b := 25) hj (by omega))]
theorem isCraft_of {σ : qσ} {cc i : Nat} (hc : σ 14 2 = nI cc) (h6 : cc ≤ 6) (hi : i < cc) : isCraftF σ 14 (nI i) = true := by
  unfold isCraftF
  rw [if_neg (nI_pos (by omega)), hc, if_neg (nI_ge hi (by omega))]
section Ck
variable {z : qZ} {k : Nat} {σ : qσ}
theorem sp_ckIndex {x : Int32} (hx : ¬ x = 0) : SP z k mX8_checkIndex [.int x] σ none σ := by
  refine SP_of 0 (by decide) (Nat.le_of_ble_eq_true rfl) fun X n hn => ?_
  refine EV_iload_n dX8_checkIndex_0 rfl ?_
  refine EV_if_ne 15 dX8_checkIndex_1 (by decide) (fun c1 => ?_) (fun c1 => ?_)
  · skip
    exact ES_vret dX8_checkIndex_15 rfl rfl
  · skip
    exact absurd c1 hx
theorem sp_ckArg {x : Int32} (hx : ¬ x = 0) : SP z k mX8_checkArgument [.int x] σ none σ := by
  refine SP_of 0 (by decide) (Nat.le_of_ble_eq_true rfl) fun X n hn => ?_
  refine EV_iload_n dX8_checkArgument_0 rfl ?_
  refine EV_if_ne 15 dX8_checkArgument_1 (by decide) (fun c1 => ?_) (fun c1 => ?_)
  · skip
    exact ES_vret dX8_checkArgument_15 rfl rfl
  · skip
    exact absurd c1 hx
theorem sp_ckState {x : Int32} (hx : ¬ x = 0) : SP z k mX8_checkState [.int x] σ none σ := by
  refine SP_of 0 (by decide) (Nat.le_of_ble_eq_true rfl) fun X n hn => ?_
  refine EV_iload_n dX8_checkState_0 rfl ?_
  refine EV_if_ne 15 dX8_checkState_1 (by decide) (fun c1 => ?_) (fun c1 => ?_)
  · skip
    exact ES_vret dX8_checkState_15 rfl rfl
  · skip
    exact absurd c1 hx
theorem sp_ckCell {c : Int32} (hc : vp_in c 25) : SP z (k + 1) mX8_checkCell [.int c] σ none σ := by
  refine SP_of 0 (by decide) (Nat.le_of_ble_eq_true rfl) fun X n hn => ?_
  refine EV_iload_n dX8_checkCell_0 rfl ?_
  refine ES_callS dX8_checkCell_1 mkX8_305 mfX8_isCell msX8_isCell hn (sp_isCell z k c) rfl rfl (Nat.le_of_ble_eq_true rfl) ?_
  refine ES_callS dX8_checkCell_4 mkX8_94 mfX8_checkIndex msX8_checkIndex hn (sp_ckIndex (bI_ne0 (isCell_of hc))) rfl rfl (Nat.le_of_ble_eq_true rfl) ?_
  exact ES_vret dX8_checkCell_7 rfl rfl
theorem sp_ckCraft {cc fc zc i : Nat} (hW : WF σ 14 cc fc zc) (hi : i < cc) : SP z (k + 1) mX8_checkCraft [.ref 1, .int (nI i)] σ none σ := by
  refine SP_of 0 (by decide) (Nat.le_of_ble_eq_true rfl) fun X n hn => ?_
  have hO := o_sky s14
  refine EV_aload_n dX8_checkCraft_0 rfl ?_
  refine ES_getf dX8_checkCraft_1 fkX8_21 hn o_air rfl ?_
  refine EV_iload_n dX8_checkCraft_4 rfl ?_
  refine ES_callV dX8_checkCraft_5 mkX8_309 mfX6_isCraft mvX6_isCraft hn (by assumption) rfl (sp_isCraft z k s14 _) rfl rfl (Nat.le_of_ble_eq_true rfl) ?_
  refine ES_callS dX8_checkCraft_8 mkX8_94 mfX8_checkIndex msX8_checkIndex hn (sp_ckIndex (bI_ne0 (isCraft_of hW.2.1.1 hW.2.1.2 hi))) rfl rfl (Nat.le_of_ble_eq_true rfl) ?_
  exact ES_vret dX8_checkCraft_11 rfl rfl
theorem sp_ckFlight {cc fc zc i : Nat} (hW : WF σ 14 cc fc zc) (hi : i < fc) : SP z (k + 1) mX8_checkFlight [.ref 1, .int (nI i)] σ none σ := by
  refine SP_of 0 (by decide) (Nat.le_of_ble_eq_true rfl) fun X n hn => ?_
  have hO := o_sky s14
  have hc := hW.2.2.1
  refine EV_iload_n dX8_checkFlight_0 rfl ?_
  refine EV_if_lt 19 dX8_checkFlight_1 (by decide) (fun c1 => ?_) (fun c1 => ?_)
  · skip
    exact absurd c1 (nI_pos (by omega))
  · skip
    refine EV_iload_n dX8_checkFlight_4 rfl ?_
    refine EV_aload_n dX8_checkFlight_5 rfl ?_
    refine ES_getf dX8_checkFlight_6 fkX8_21 hn o_air rfl ?_
    refine ES_getf dX8_checkFlight_9 fkX8_153 hn (by assumption) rfl ?_
    refine EV_icmp_ge 19 dX8_checkFlight_12 (by decide) (fun c12 => ?_) (fun c12 => ?_)
    · skip
      exact absurd c12 (by rw [hc.1]; exact nI_ge hi (by omega))
    · skip
      refine EV_iconst (v := 1) dX8_checkFlight_15 (by decide) ?_
      refine EV_goto 20 dX8_checkFlight_16 (by decide) ?_
      refine ES_callS dX8_checkFlight_20 mkX8_94 mfX8_checkIndex msX8_checkIndex hn (sp_ckIndex (by decide)) rfl rfl (Nat.le_of_ble_eq_true rfl) ?_
      exact ES_vret dX8_checkFlight_23 rfl rfl
theorem sp_ckStart {nw st : Nat} (hnw : σ 14 8 = nI nw) (h5 : nw ≤ 5000) (h1 : nw < st) (h2 : st ≤ nw + 2000) : SP z (k + 1) mX8_checkStart [.ref 1, .int (nI st)] σ none σ := by
  refine SP_of 0 (by decide) (Nat.le_of_ble_eq_true rfl) fun X n hn => ?_
  have hO := o_sky s14
  refine EV_iload_n dX8_checkStart_0 rfl ?_
  refine EV_aload_n dX8_checkStart_1 rfl ?_
  refine ES_getf dX8_checkStart_2 fkX8_21 hn o_air rfl ?_
  refine ES_getf dX8_checkStart_5 fkX8_186 hn (by assumption) rfl ?_
  refine EV_icmp_le 30 dX8_checkStart_8 (by decide) (fun c8 => ?_) (fun c8 => ?_)
  · skip
    exact absurd c8 (by rw [hnw]; exact nI_ge h1 (by omega))
  · skip
    refine EV_iload_n dX8_checkStart_11 rfl ?_
    refine EV_aload_n dX8_checkStart_12 rfl ?_
    refine ES_getf dX8_checkStart_13 fkX8_21 hn o_air rfl ?_
    refine ES_getf dX8_checkStart_16 fkX8_186 hn (by assumption) rfl ?_
    refine EV_sipush (v := 2000) dX8_checkStart_19 (by decide) ?_
    refine EV_iadd dX8_checkStart_22 ?_
    refine EV_icmp_gt 30 dX8_checkStart_23 (by decide) (fun c23 => ?_) (fun c23 => ?_)
    · skip
      exact absurd c23 (by rw [hnw, show (2000 : Int32) = nI 2000 from rfl, nI_add]; exact nI_nlt h2 (by omega))
    · skip
      refine EV_iconst (v := 1) dX8_checkStart_26 (by decide) ?_
      refine EV_goto 31 dX8_checkStart_27 (by decide) ?_
      refine ES_callS dX8_checkStart_31 mkX8_55 mfX8_checkArgument msX8_checkArgument hn (sp_ckArg (by decide)) rfl rfl (Nat.le_of_ble_eq_true rfl) ?_
      exact ES_vret dX8_checkStart_34 rfl rfl
theorem sp_ckMinutes {m : Nat} (h1 : 1 ≤ m) (h2 : m ≤ 100) : SP z (k + 1) mX8_checkMinutes [.int (nI m)] σ none σ := by
  refine SP_of 0 (by decide) (Nat.le_of_ble_eq_true rfl) fun X n hn => ?_
  refine EV_iload_n dX8_checkMinutes_0 rfl ?_
  refine EV_iconst (v := 1) dX8_checkMinutes_1 (by decide) ?_
  refine EV_icmp_lt 15 dX8_checkMinutes_2 (by decide) (fun c2 => ?_) (fun c2 => ?_)
  · skip
    exact absurd c2 (nI_nlt (a := m) (b := 1) h1 (by omega))
  · skip
    refine EV_iload_n dX8_checkMinutes_5 rfl ?_
    refine EV_bipush (v := 100) dX8_checkMinutes_6 (by decide) ?_
    refine EV_icmp_gt 15 dX8_checkMinutes_8 (by decide) (fun c8 => ?_) (fun c8 => ?_)
    · skip
      exact absurd c8 (nI_nlt (a := 100) (b := m) h2 (by omega))
    · skip
      refine EV_iconst (v := 1) dX8_checkMinutes_11 (by decide) ?_
      refine EV_goto 16 dX8_checkMinutes_12 (by decide) ?_
      refine ES_callS dX8_checkMinutes_16 mkX8_55 mfX8_checkArgument msX8_checkArgument hn (sp_ckArg (by decide)) rfl rfl (Nat.le_of_ble_eq_true rfl) ?_
      exact ES_vret dX8_checkMinutes_19 rfl rfl
end Ck
section Ar
variable {z : qZ} {k : Nat} {σ : qσ} {pc cc fc zc nw dc : Nat}
theorem sp_houses {c h : Nat} (hc : c < 25) (hh : h ≤ 9) : SP z (k + 2) mX8_houses [.ref 1, .int (nI c), .int (nI h)] σ (some (.int (σ 3 (nI c).toNatClampNeg))) (sset σ 3 (nI c).toNatClampNeg (nI h)) := by
  refine SP_of 1 (by decide) (Nat.le_of_ble_eq_true rfl) fun X n hn => ?_
  have hin : vp_in (nI c) 25 := vp_in_nI hc (by omega)
  refine EV_iload_n dX8_houses_0 rfl ?_
  refine ES_callS dX8_houses_1 mkX8_51 mfX8_checkCell msX8_checkCell hn (sp_ckCell hin) rfl rfl (Nat.le_of_ble_eq_true rfl) ?_
  refine EV_iload_n dX8_houses_4 rfl ?_
  refine EV_if_lt 18 dX8_houses_5 (by decide) (fun c5 => ?_) (fun c5 => ?_)
  · skip
    exact absurd c5 (nI_pos (by omega))
  · skip
    refine EV_iload_n dX8_houses_8 rfl ?_
    refine EV_bipush (v := 9) dX8_houses_9 (by decide) ?_
    refine EV_icmp_gt 18 dX8_houses_11 (by decide) (fun c11 => ?_) (fun c11 => ?_)
    · skip
      exact absurd c11 (nI_nlt (a := 9) (b := h) hh (by omega))
    · skip
      refine EV_iconst (v := 1) dX8_houses_14 (by decide) ?_
      refine EV_goto 19 dX8_houses_15 (by decide) ?_
      refine ES_callS dX8_houses_19 mkX8_55 mfX8_checkArgument msX8_checkArgument hn (sp_ckArg (by decide)) rfl rfl (Nat.le_of_ble_eq_true rfl) ?_
      refine EV_aload_n dX8_houses_22 rfl ?_
      refine ES_getf dX8_houses_23 fkX8_10 hn o_air rfl ?_
      refine ES_getf dX8_houses_26 fkX8_59 hn o_ground rfl ?_
      refine EV_iload_n dX8_houses_29 rfl ?_
      refine ES_iald dX8_houses_30 hn a_houses hin ?_
      refine EV_istore_n dX8_houses_31 (Nat.le_of_ble_eq_true rfl) (Nat.le_of_ble_eq_true rfl) rfl ?_
      refine EV_aload_n dX8_houses_32 rfl ?_
      refine ES_getf dX8_houses_33 fkX8_10 hn o_air rfl ?_
      refine ES_getf dX8_houses_36 fkX8_59 hn o_ground rfl ?_
      refine EV_iload_n dX8_houses_39 rfl ?_
      refine EV_iload_n dX8_houses_40 rfl ?_
      refine ES_iast dX8_houses_41 hn a_houses hin ?_
      refine EV_iload_n dX8_houses_42 rfl ?_
      exact ES_iret dX8_houses_43 rfl rfl rfl rfl
theorem sp_tower {c : Nat} {b b0 : Bool} (hc : c < 25) (hp : σ 5 (nI c).toNatClampNeg = -1) (h0 : σ 4 (nI c).toNatClampNeg = bI b0) : SP z (k + 2) mX8_tower [.ref 1, .int (nI c), .int (bI b)] σ (some (.int (σ 4 (nI c).toNatClampNeg))) (sset σ 4 (nI c).toNatClampNeg (bI b)) := by
  refine SP_of 1 (by decide) (Nat.le_of_ble_eq_true rfl) fun X n hn => ?_
  have hin : vp_in (nI c) 25 := vp_in_nI hc (by omega)
  refine EV_iload_n dX8_tower_0 rfl ?_
  refine ES_callS dX8_tower_1 mkX8_51 mfX8_checkCell msX8_checkCell hn (sp_ckCell hin) rfl rfl (Nat.le_of_ble_eq_true rfl) ?_
  refine EV_aload_n dX8_tower_4 rfl ?_
  refine ES_getf dX8_tower_5 fkX8_10 hn o_air rfl ?_
  refine ES_getf dX8_tower_8 fkX8_63 hn o_ground rfl ?_
  refine EV_iload_n dX8_tower_11 rfl ?_
  refine ES_iald dX8_tower_12 hn a_padAt hin ?_
  refine EV_iconst (v := (-1)) dX8_tower_13 (by decide) ?_
  refine EV_icmp_ne 21 dX8_tower_14 (by decide) (fun c14 => ?_) (fun c14 => ?_)
  · skip
    exact absurd hp c14
  · skip
    refine EV_iconst (v := 1) dX8_tower_17 (by decide) ?_
    refine EV_goto 22 dX8_tower_18 (by decide) ?_
    refine ES_callS dX8_tower_22 mkX8_66 mfX8_checkState msX8_checkState hn (sp_ckState (by decide)) rfl rfl (Nat.le_of_ble_eq_true rfl) ?_
    refine EV_aload_n dX8_tower_25 rfl ?_
    refine ES_getf dX8_tower_26 fkX8_10 hn o_air rfl ?_
    refine ES_getf dX8_tower_29 fkX8_69 hn o_ground rfl ?_
    refine EV_iload_n dX8_tower_32 rfl ?_
    refine ES_zald dX8_tower_33 hn a_towers hin ?_
    refine EV_istore_n dX8_tower_34 (Nat.le_of_ble_eq_true rfl) (Nat.le_of_ble_eq_true rfl) rfl ?_
    refine EV_aload_n dX8_tower_35 rfl ?_
    refine ES_getf dX8_tower_36 fkX8_10 hn o_air rfl ?_
    refine ES_getf dX8_tower_39 fkX8_69 hn o_ground rfl ?_
    refine EV_iload_n dX8_tower_42 rfl ?_
    refine EV_iload_n dX8_tower_43 rfl ?_
    refine ES_zast dX8_tower_44 hn a_towers hin (bI_vp _) ?_
    refine EV_iload_n dX8_tower_45 rfl ?_
    exact ES_iret dX8_tower_46 rfl (nar_b h0) rfl rfl
def addPadF (σ : qσ) (c pc : Nat) : qσ := sset (sset (sset σ 6 (nI pc).toNatClampNeg (nI c)) 5 (nI c).toNatClampNeg (nI pc)) 2 4 (nI pc + 1)
theorem sp_addPad {c pc : Nat} (hc : c < 25) (hp : σ 2 4 = nI pc) (h5 : pc < 5) : SP z k mX2_addPad [.ref 2, .int (nI c)] σ (some (.int (nI pc))) (addPadF σ c pc) := by
  refine SP_of 0 (by decide) (Nat.le_of_ble_eq_true rfl) fun X n hn => ?_
  have hin : vp_in (nI c) 25 := vp_in_nI hc (by omega)
  refine EV_aload_n dX2_addPad_0 rfl ?_
  refine ES_getf dX2_addPad_1 fkX2_22 hn o_ground rfl ?_
  refine EV_aload_n dX2_addPad_4 rfl ?_
  refine ES_getf (v := .int (nI pc)) dX2_addPad_5 fkX2_38 hn o_ground (by show some (Value.int (σ 2 4)) = _; rw [hp]) ?_
  refine EV_iload_n dX2_addPad_8 rfl ?_
  refine ES_iast dX2_addPad_9 hn a_padCells (vp_in_nI h5 (by omega)) ?_
  refine EV_aload_n dX2_addPad_10 rfl ?_
  refine ES_getf dX2_addPad_11 fkX2_19 hn o_ground rfl ?_
  refine EV_iload_n dX2_addPad_14 rfl ?_
  refine EV_aload_n dX2_addPad_15 rfl ?_
  refine ES_getf (v := .int (nI pc)) dX2_addPad_16 fkX2_38 hn o_ground (by show some (Value.int (sset σ 6 _ _ 2 4)) = _; rw [sset_ne _ _ _ (by omega), hp]) ?_
  refine ES_iast dX2_addPad_19 hn a_padAt hin ?_
  refine EV_aload_n dX2_addPad_20 rfl ?_
  refine EV_dup dX2_addPad_21 rfl ?_
  refine ES_getf (v := .int (nI pc)) dX2_addPad_22 fkX2_38 hn o_ground (by show some (Value.int (sset (sset σ 6 _ _) 5 _ _ 2 4)) = _; rw [sset_ne _ _ _ (by omega), sset_ne _ _ _ (by omega), hp]) ?_
  refine EV_dup_x1 dX2_addPad_25 rfl rfl ?_
  refine EV_iconst (v := 1) dX2_addPad_26 (by decide) ?_
  refine EV_iadd dX2_addPad_27 ?_
  refine ES_put dX2_addPad_28 fkX2_38 hn o_ground (Nat.le_of_ble_eq_true rfl) (fun _ _ => rfl) rfl rfl ?_
  exact ES_iret dX2_addPad_31 rfl rfl rfl rfl
theorem sp_pad {c : Nat} (hc : c < 25) (ht : σ 4 (nI c).toNatClampNeg = 0) (ha : σ 5 (nI c).toNatClampNeg = -1) (hp : σ 2 4 = nI pc) (h5 : pc < 5) : SP z (k + 2) mX8_pad [.ref 1, .int (nI c)] σ (some (.int (nI pc))) (addPadF σ c pc) := by
  refine SP_of 0 (by decide) (Nat.le_of_ble_eq_true rfl) fun X n hn => ?_
  have hin : vp_in (nI c) 25 := vp_in_nI hc (by omega)
  refine EV_iload_n dX8_pad_0 rfl ?_
  refine ES_callS dX8_pad_1 mkX8_51 mfX8_checkCell msX8_checkCell hn (sp_ckCell hin) rfl rfl (Nat.le_of_ble_eq_true rfl) ?_
  refine EV_aload_n dX8_pad_4 rfl ?_
  refine ES_getf dX8_pad_5 fkX8_10 hn o_air rfl ?_
  refine ES_getf dX8_pad_8 fkX8_69 hn o_ground rfl ?_
  refine EV_iload_n dX8_pad_11 rfl ?_
  refine ES_zald dX8_pad_12 hn a_towers hin ?_
  refine EV_if_ne 33 dX8_pad_13 (by decide) (fun c13 => ?_) (fun c13 => ?_)
  · skip
    exact absurd ht c13
  · skip
    refine EV_aload_n dX8_pad_16 rfl ?_
    refine ES_getf dX8_pad_17 fkX8_10 hn o_air rfl ?_
    refine ES_getf dX8_pad_20 fkX8_63 hn o_ground rfl ?_
    refine EV_iload_n dX8_pad_23 rfl ?_
    refine ES_iald dX8_pad_24 hn a_padAt hin ?_
    refine EV_iconst (v := (-1)) dX8_pad_25 (by decide) ?_
    refine EV_icmp_ne 33 dX8_pad_26 (by decide) (fun c26 => ?_) (fun c26 => ?_)
    · skip
      exact absurd ha c26
    · skip
      refine EV_iconst (v := 1) dX8_pad_29 (by decide) ?_
      refine EV_goto 34 dX8_pad_30 (by decide) ?_
      refine ES_callS dX8_pad_34 mkX8_55 mfX8_checkArgument msX8_checkArgument hn (sp_ckArg (by decide)) rfl rfl (Nat.le_of_ble_eq_true rfl) ?_
      refine EV_aload_n dX8_pad_37 rfl ?_
      refine ES_getf dX8_pad_38 fkX8_10 hn o_air rfl ?_
      refine ES_getf dX8_pad_41 fkX8_73 hn o_ground rfl ?_
      refine EV_iconst (v := 5) dX8_pad_44 (by decide) ?_
      refine EV_icmp_ge 52 dX8_pad_45 (by decide) (fun c45 => ?_) (fun c45 => ?_)
      · skip
        exact absurd c45 (by rw [hp]; exact nI_ge (a := pc) (b := 5) h5 (by omega))
      · skip
        refine EV_iconst (v := 1) dX8_pad_48 (by decide) ?_
        refine EV_goto 53 dX8_pad_49 (by decide) ?_
        refine ES_callS dX8_pad_53 mkX8_66 mfX8_checkState msX8_checkState hn (sp_ckState (by decide)) rfl rfl (Nat.le_of_ble_eq_true rfl) ?_
        refine EV_aload_n dX8_pad_56 rfl ?_
        refine ES_getf dX8_pad_57 fkX8_10 hn o_air rfl ?_
        refine EV_iload_n dX8_pad_60 rfl ?_
        refine ES_callV dX8_pad_61 mkX8_77 mfX2_addPad mvX2_addPad hn o_ground rfl (sp_addPad hc hp h5) rfl rfl (Nat.le_of_ble_eq_true rfl) ?_
        exact ES_iret dX8_pad_64 rfl rfl rfl rfl
def addZoneF (σ : qσ) (zc : Nat) (c f t l : Int32) : qσ :=
  sset (sset (sset (sset (sset σ (8 + zc) 0 c) (8 + zc) 1 f) (8 + zc) 2 t) (8 + zc) 3 l) 2 6 (nI zc + 1)
set_option maxHeartbeats 4000000 in
theorem sp_addZone (hz : σ 2 6 = nI zc) (h6 : zc < 6) (c f t l : Int32) : SP z k mX2_addZone [.ref 2, .int c, .int f, .int t, .int l] σ (some (.int (nI zc))) (addZoneF σ zc c f t l) := by
  refine SP_of 1 (by decide) (Nat.le_of_ble_eq_true rfl) fun X n hn => ?_
  have hZ := o_zone h6
  refine EV_aload_n dX2_addZone_0 rfl ?_
  refine ES_getf dX2_addZone_1 fkX2_27 hn o_ground rfl ?_
  refine EV_aload_n dX2_addZone_4 rfl ?_
  refine ES_getf (v := .int (nI zc)) dX2_addZone_5 fkX2_42 hn o_ground (by show some (Value.int (σ 2 6)) = _; rw [hz]) ?_
  refine ES_aaldZ dX2_addZone_8 hn h6 ?_
  refine EV_astore dX2_addZone_9 (Nat.le_of_ble_eq_true rfl) (Nat.le_of_ble_eq_true rfl) rfl ?_
  refine EV_aload dX2_addZone_11 rfl ?_
  refine EV_iload_n dX2_addZone_13 rfl ?_
  refine ES_put dX2_addZone_14 fkX2_45 hn (by assumption) (Nat.le_of_ble_eq_true rfl) (fun _ _ => rfl) rfl rfl ?_
  refine EV_aload dX2_addZone_17 rfl ?_
  refine EV_iload_n dX2_addZone_19 rfl ?_
  refine ES_put dX2_addZone_20 fkX2_48 hn (by assumption) (Nat.le_of_ble_eq_true rfl) (fun _ _ => rfl) rfl rfl ?_
  refine EV_aload dX2_addZone_23 rfl ?_
  refine EV_iload_n dX2_addZone_25 rfl ?_
  refine ES_put dX2_addZone_26 fkX2_51 hn (by assumption) (Nat.le_of_ble_eq_true rfl) (fun _ _ => rfl) rfl rfl ?_
  refine EV_aload dX2_addZone_29 rfl ?_
  refine EV_iload dX2_addZone_31 rfl ?_
  refine ES_put dX2_addZone_33 fkX2_54 hn (by assumption) (Nat.le_of_ble_eq_true rfl) (fun _ _ => rfl) rfl rfl ?_
  refine EV_aload_n dX2_addZone_36 rfl ?_
  refine EV_dup dX2_addZone_37 rfl ?_
  refine ES_getf (v := .int (nI zc)) dX2_addZone_38 fkX2_42 hn o_ground (by show some (Value.int (sset (sset (sset (sset σ (8 + zc) _ _) (8 + zc) _ _) (8 + zc) _ _) (8 + zc) _ _ 2 6)) = _; rw [sset_ne _ _ _ (by omega), sset_ne _ _ _ (by omega), sset_ne _ _ _ (by omega), sset_ne _ _ _ (by omega), hz]) ?_
  refine EV_dup_x1 dX2_addZone_41 rfl rfl ?_
  refine EV_iconst (v := 1) dX2_addZone_42 (by decide) ?_
  refine EV_iadd dX2_addZone_43 ?_
  refine ES_put dX2_addZone_44 fkX2_42 hn o_ground (Nat.le_of_ble_eq_true rfl) (fun _ _ => rfl) rfl rfl ?_
  exact ES_iret dX2_addZone_47 rfl rfl rfl rfl
set_option maxHeartbeats 4000000 in
theorem sp_zone {c f t l : Nat} (hc : c < 25) (hf : f < 24) (ht : t < 24) (hl : 1 ≤ l ∧ l ≤ 4) (hz : σ 2 6 = nI zc) (h6 : zc < 6) : SP z (k + 2) mX8_zone [.ref 1, .int (nI c), .int (nI f), .int (nI t), .int (nI l)] σ (some (.int (nI zc))) (addZoneF σ zc (nI c) (nI f) (nI t) (nI l)) := by
  refine SP_of 0 (by decide) (Nat.le_of_ble_eq_true rfl) fun X n hn => ?_
  refine EV_iload_n dX8_zone_0 rfl ?_
  refine ES_callS dX8_zone_1 mkX8_51 mfX8_checkCell msX8_checkCell hn (sp_ckCell (vp_in_nI hc (by omega))) rfl rfl (Nat.le_of_ble_eq_true rfl) ?_
  refine EV_iload_n dX8_zone_4 rfl ?_
  refine EV_if_lt 28 dX8_zone_5 (by decide) (fun c5 => ?_) (fun c5 => ?_)
  · skip
    exact absurd c5 (nI_pos (by omega))
  · skip
    refine EV_iload_n dX8_zone_8 rfl ?_
    refine EV_bipush (v := 24) dX8_zone_9 (by decide) ?_
    refine EV_icmp_ge 28 dX8_zone_11 (by decide) (fun c11 => ?_) (fun c11 => ?_)
    · skip
      exact absurd c11 (nI_ge (a := f) (b := 24) hf (by omega))
    · skip
      refine EV_iload_n dX8_zone_14 rfl ?_
      refine EV_if_lt 28 dX8_zone_15 (by decide) (fun c15 => ?_) (fun c15 => ?_)
      · skip
        exact absurd c15 (nI_pos (by omega))
      · skip
        refine EV_iload_n dX8_zone_18 rfl ?_
        refine EV_bipush (v := 24) dX8_zone_19 (by decide) ?_
        refine EV_icmp_ge 28 dX8_zone_21 (by decide) (fun c21 => ?_) (fun c21 => ?_)
        · skip
          exact absurd c21 (nI_ge (a := t) (b := 24) ht (by omega))
        · skip
          refine EV_iconst (v := 1) dX8_zone_24 (by decide) ?_
          refine EV_goto 29 dX8_zone_25 (by decide) ?_
          refine ES_callS dX8_zone_29 mkX8_55 mfX8_checkArgument msX8_checkArgument hn (sp_ckArg (by decide)) rfl rfl (Nat.le_of_ble_eq_true rfl) ?_
          refine EV_iload dX8_zone_32 rfl ?_
          refine EV_iconst (v := 1) dX8_zone_34 (by decide) ?_
          refine EV_icmp_lt 48 dX8_zone_35 (by decide) (fun c35 => ?_) (fun c35 => ?_)
          · skip
            exact absurd c35 (nI_nlt (a := l) (b := 1) hl.1 (by omega))
          · skip
            refine EV_iload dX8_zone_38 rfl ?_
            refine EV_iconst (v := 4) dX8_zone_40 (by decide) ?_
            refine EV_icmp_gt 48 dX8_zone_41 (by decide) (fun c41 => ?_) (fun c41 => ?_)
            · skip
              exact absurd c41 (nI_nlt (a := 4) (b := l) hl.2 (by omega))
            · skip
              refine EV_iconst (v := 1) dX8_zone_44 (by decide) ?_
              refine EV_goto 49 dX8_zone_45 (by decide) ?_
              refine ES_callS dX8_zone_49 mkX8_55 mfX8_checkArgument msX8_checkArgument hn (sp_ckArg (by decide)) rfl rfl (Nat.le_of_ble_eq_true rfl) ?_
              refine EV_aload_n dX8_zone_52 rfl ?_
              refine ES_getf dX8_zone_53 fkX8_10 hn o_air rfl ?_
              refine ES_getf dX8_zone_56 fkX8_81 hn o_ground rfl ?_
              refine EV_bipush (v := 6) dX8_zone_59 (by decide) ?_
              refine EV_icmp_ge 68 dX8_zone_61 (by decide) (fun c61 => ?_) (fun c61 => ?_)
              · skip
                exact absurd c61 (by rw [hz]; exact nI_ge (a := zc) (b := 6) h6 (by omega))
              · skip
                refine EV_iconst (v := 1) dX8_zone_64 (by decide) ?_
                refine EV_goto 69 dX8_zone_65 (by decide) ?_
                refine ES_callS dX8_zone_69 mkX8_66 mfX8_checkState msX8_checkState hn (sp_ckState (by decide)) rfl rfl (Nat.le_of_ble_eq_true rfl) ?_
                refine EV_aload_n dX8_zone_72 rfl ?_
                refine ES_getf dX8_zone_73 fkX8_10 hn o_air rfl ?_
                refine EV_iload_n dX8_zone_76 rfl ?_
                refine EV_iload_n dX8_zone_77 rfl ?_
                refine EV_iload_n dX8_zone_78 rfl ?_
                refine EV_iload dX8_zone_79 rfl ?_
                refine ES_callV dX8_zone_81 mkX8_84 mfX2_addZone mvX2_addZone hn o_ground rfl (sp_addZone hz h6 _ _ _ _) rfl rfl (Nat.le_of_ble_eq_true rfl) ?_
                exact ES_iret dX8_zone_84 rfl rfl rfl rfl
theorem sp_wind {d f : Nat} (hd : d < 4) (hf : f ≤ 3) : SP z (k + 1) mX8_wind [.ref 1, .int (nI d), .int (nI f)] σ (some (.int (σ 2 8))) (sset (sset σ 2 7 (nI d)) 2 8 (nI f)) := by
  refine SP_of 1 (by decide) (Nat.le_of_ble_eq_true rfl) fun X n hn => ?_
  refine EV_iload_n dX8_wind_0 rfl ?_
  refine EV_if_lt 22 dX8_wind_1 (by decide) (fun c1 => ?_) (fun c1 => ?_)
  · skip
    exact absurd c1 (nI_pos (by omega))
  · skip
    refine EV_iload_n dX8_wind_4 rfl ?_
    refine EV_iconst (v := 4) dX8_wind_5 (by decide) ?_
    refine EV_icmp_ge 22 dX8_wind_6 (by decide) (fun c6 => ?_) (fun c6 => ?_)
    · skip
      exact absurd c6 (nI_ge (a := d) (b := 4) hd (by omega))
    · skip
      refine EV_iload_n dX8_wind_9 rfl ?_
      refine EV_if_lt 22 dX8_wind_10 (by decide) (fun c10 => ?_) (fun c10 => ?_)
      · skip
        exact absurd c10 (nI_pos (by omega))
      · skip
        refine EV_iload_n dX8_wind_13 rfl ?_
        refine EV_iconst (v := 3) dX8_wind_14 (by decide) ?_
        refine EV_icmp_gt 22 dX8_wind_15 (by decide) (fun c15 => ?_) (fun c15 => ?_)
        · skip
          exact absurd c15 (nI_nlt (a := 3) (b := f) hf (by omega))
        · skip
          refine EV_iconst (v := 1) dX8_wind_18 (by decide) ?_
          refine EV_goto 23 dX8_wind_19 (by decide) ?_
          refine ES_callS dX8_wind_23 mkX8_55 mfX8_checkArgument msX8_checkArgument hn (sp_ckArg (by decide)) rfl rfl (Nat.le_of_ble_eq_true rfl) ?_
          refine EV_aload_n dX8_wind_26 rfl ?_
          refine ES_getf dX8_wind_27 fkX8_10 hn o_air rfl ?_
          refine ES_getf dX8_wind_30 fkX8_88 hn o_ground rfl ?_
          refine EV_istore_n dX8_wind_33 (Nat.le_of_ble_eq_true rfl) (Nat.le_of_ble_eq_true rfl) rfl ?_
          refine EV_aload_n dX8_wind_34 rfl ?_
          refine ES_getf dX8_wind_35 fkX8_10 hn o_air rfl ?_
          refine EV_iload_n dX8_wind_38 rfl ?_
          refine ES_put dX8_wind_39 fkX8_91 hn o_ground (Nat.le_of_ble_eq_true rfl) (fun _ _ => rfl) rfl rfl ?_
          refine EV_aload_n dX8_wind_42 rfl ?_
          refine ES_getf dX8_wind_43 fkX8_10 hn o_air rfl ?_
          refine EV_iload_n dX8_wind_46 rfl ?_
          refine ES_put dX8_wind_47 fkX8_88 hn o_ground (Nat.le_of_ble_eq_true rfl) (fun _ _ => rfl) rfl rfl ?_
          refine EV_iload_n dX8_wind_50 rfl ?_
          exact ES_iret dX8_wind_51 rfl rfl rfl rfl
theorem sp_link {i : Nat} {b : Bool} (hW : WF σ 14 cc fc zc) (hi : i < cc) : SP z (k + 2) mX8_link [.ref 1, .int (nI i), .int (bI b)] σ (some (.int (σ (14 + 4 + i) 6))) (sset σ (14 + 4 + i) 6 (bI b)) := by
  refine SP_of 1 (by decide) (Nat.le_of_ble_eq_true rfl) fun X n hn => ?_
  have hO := o_sky s14
  have h6 := hW.2.1.2
  have hC := o_craft s14 (show i < 6 by omega)
  obtain ⟨b0, hb0⟩ := hW.2.2.2.2.1 i (by omega)
  refine EV_aload_n dX8_link_0 rfl ?_
  refine EV_iload_n dX8_link_1 rfl ?_
  refine ES_callV dX8_link_2 mkX8_130 mfX8_checkCraft mvX8_checkCraft hn o_air rfl (sp_ckCraft hW hi) rfl rfl (Nat.le_of_ble_eq_true rfl) ?_
  refine EV_aload_n dX8_link_5 rfl ?_
  refine ES_getf dX8_link_6 fkX8_21 hn o_air rfl ?_
  refine ES_getf dX8_link_9 fkX8_100 hn (by assumption) rfl ?_
  refine EV_iload_n dX8_link_12 rfl ?_
  refine ES_aaldC s14 dX8_link_13 hn (by omega) ?_
  refine ES_getf dX8_link_14 fkX8_133 hn (by assumption) rfl ?_
  refine EV_istore_n dX8_link_17 (Nat.le_of_ble_eq_true rfl) (Nat.le_of_ble_eq_true rfl) rfl ?_
  refine EV_aload_n dX8_link_18 rfl ?_
  refine ES_getf dX8_link_19 fkX8_21 hn o_air rfl ?_
  refine ES_getf dX8_link_22 fkX8_100 hn (by assumption) rfl ?_
  refine EV_iload_n dX8_link_25 rfl ?_
  refine ES_aaldC s14 dX8_link_26 hn (by omega) ?_
  refine EV_iload_n dX8_link_27 rfl ?_
  refine ES_put dX8_link_28 fkX8_133 hn (by assumption) (Nat.le_of_ble_eq_true rfl) (fun _ _ => rfl) (bI_nar _) (bI_fit _) ?_
  refine EV_iload_n dX8_link_31 rfl ?_
  exact ES_iret dX8_link_32 rfl (nar_b hb0) rfl rfl
def fetchF (σ : qσ) (r : Nat) : qσ := sset (sset σ r 7 0) r 8 (sset σ r 7 0 r 2)
theorem sp_fetch {i : Nat} (hW : WF σ 14 cc fc zc) (hi : i < cc) (hd : σ (14 + 4 + i) 7 = 2) : SP z (k + 2) mX8_fetch [.ref 1, .int (nI i)] σ (some (.int (σ (14 + 4 + i) 8))) (fetchF σ (14 + 4 + i)) := by
  refine SP_of 2 (by decide) (Nat.le_of_ble_eq_true rfl) fun X n hn => ?_
  have hO := o_sky s14
  have h6 := hW.2.1.2
  have hC := o_craft s14 (show i < 6 by omega)
  refine EV_aload_n dX8_fetch_0 rfl ?_
  refine EV_iload_n dX8_fetch_1 rfl ?_
  refine ES_callV dX8_fetch_2 mkX8_130 mfX8_checkCraft mvX8_checkCraft hn o_air rfl (sp_ckCraft hW hi) rfl rfl (Nat.le_of_ble_eq_true rfl) ?_
  refine EV_aload_n dX8_fetch_5 rfl ?_
  refine ES_getf dX8_fetch_6 fkX8_21 hn o_air rfl ?_
  refine ES_getf dX8_fetch_9 fkX8_100 hn (by assumption) rfl ?_
  refine EV_iload_n dX8_fetch_12 rfl ?_
  refine ES_aaldC s14 dX8_fetch_13 hn (by omega) ?_
  refine EV_astore_n dX8_fetch_14 (Nat.le_of_ble_eq_true rfl) (Nat.le_of_ble_eq_true rfl) rfl ?_
  refine EV_aload_n dX8_fetch_15 rfl ?_
  refine ES_getf dX8_fetch_16 fkX8_137 hn (by assumption) rfl ?_
  refine EV_iconst (v := 2) dX8_fetch_19 (by decide) ?_
  refine EV_icmp_ne 27 dX8_fetch_20 (by decide) (fun c20 => ?_) (fun c20 => ?_)
  · skip
    exact absurd hd c20
  · skip
    refine EV_iconst (v := 1) dX8_fetch_23 (by decide) ?_
    refine EV_goto 28 dX8_fetch_24 (by decide) ?_
    refine ES_callS dX8_fetch_28 mkX8_66 mfX8_checkState msX8_checkState hn (sp_ckState (by decide)) rfl rfl (Nat.le_of_ble_eq_true rfl) ?_
    refine EV_aload_n dX8_fetch_31 rfl ?_
    refine ES_getf dX8_fetch_32 fkX8_127 hn (by assumption) rfl ?_
    refine EV_istore_n dX8_fetch_35 (Nat.le_of_ble_eq_true rfl) (Nat.le_of_ble_eq_true rfl) rfl ?_
    refine EV_aload_n dX8_fetch_36 rfl ?_
    refine EV_iconst (v := 0) dX8_fetch_37 (by decide) ?_
    refine ES_put dX8_fetch_38 fkX8_137 hn (by assumption) (Nat.le_of_ble_eq_true rfl) (fun _ _ => rfl) rfl rfl ?_
    refine EV_aload_n dX8_fetch_41 rfl ?_
    refine EV_aload_n dX8_fetch_42 rfl ?_
    refine ES_getf dX8_fetch_43 fkX8_115 hn (by assumption) rfl ?_
    refine ES_put dX8_fetch_46 fkX8_127 hn (by assumption) (Nat.le_of_ble_eq_true rfl) (fun _ _ => rfl) rfl rfl ?_
    refine EV_iload_n dX8_fetch_49 rfl ?_
    exact ES_iret dX8_fetch_50 rfl rfl rfl rfl
def draftF (σ : qσ) (c dc : Nat) : qσ := sset (sset σ 107 (nI dc).toNatClampNeg (nI c)) 106 1 (nI dc + 1)
theorem sp_draft {c : Nat} (hc : c < 25) (hd : σ 106 1 = nI dc) (h10 : dc < 10) : SP z (k + 2) mX8_draft [.ref 1, .int (nI c)] σ (some (.int (nI dc + 1))) (draftF σ c dc) := by
  refine SP_of 0 (by decide) (Nat.le_of_ble_eq_true rfl) fun X n hn => ?_
  have hR := o_draft
  refine EV_iload_n dX8_draft_0 rfl ?_
  refine ES_callS dX8_draft_1 mkX8_51 mfX8_checkCell msX8_checkCell hn (sp_ckCell (vp_in_nI hc (by omega))) rfl rfl (Nat.le_of_ble_eq_true rfl) ?_
  refine EV_aload_n dX8_draft_4 rfl ?_
  refine ES_getf dX8_draft_5 fkX8_31 hn o_air rfl ?_
  refine ES_getf dX8_draft_8 fkX8_140 hn (by assumption) rfl ?_
  refine EV_bipush (v := 10) dX8_draft_11 (by decide) ?_
  refine EV_icmp_ge 20 dX8_draft_13 (by decide) (fun c13 => ?_) (fun c13 => ?_)
  · skip
    exact absurd c13 (by rw [hd]; exact nI_ge (a := dc) (b := 10) h10 (by omega))
  · skip
    refine EV_iconst (v := 1) dX8_draft_16 (by decide) ?_
    refine EV_goto 21 dX8_draft_17 (by decide) ?_
    refine ES_callS dX8_draft_21 mkX8_66 mfX8_checkState msX8_checkState hn (sp_ckState (by decide)) rfl rfl (Nat.le_of_ble_eq_true rfl) ?_
    refine EV_aload_n dX8_draft_24 rfl ?_
    refine ES_getf dX8_draft_25 fkX8_31 hn o_air rfl ?_
    refine ES_getf dX8_draft_28 fkX8_143 hn (by assumption) rfl ?_
    refine EV_aload_n dX8_draft_31 rfl ?_
    refine ES_getf dX8_draft_32 fkX8_31 hn o_air rfl ?_
    refine ES_getf (v := .int (nI dc)) dX8_draft_35 fkX8_140 hn (by assumption) (by show some (Value.int (σ 106 1)) = _; rw [hd]) ?_
    refine EV_iload_n dX8_draft_38 rfl ?_
    refine ES_iast dX8_draft_39 hn a_draft (vp_in_nI h10 (by omega)) ?_
    refine EV_aload_n dX8_draft_40 rfl ?_
    refine ES_getf dX8_draft_41 fkX8_31 hn o_air rfl ?_
    refine EV_dup dX8_draft_44 rfl ?_
    refine ES_getf (v := .int (nI dc)) dX8_draft_45 fkX8_140 hn (by assumption) (by show some (Value.int (sset σ 107 _ _ 106 1)) = _; rw [sset_ne _ _ _ (by omega), hd]) ?_
    refine EV_iconst (v := 1) dX8_draft_48 (by decide) ?_
    refine EV_iadd dX8_draft_49 ?_
    refine ES_put dX8_draft_50 fkX8_140 hn (by assumption) (Nat.le_of_ble_eq_true rfl) (fun _ _ => rfl) rfl rfl ?_
    refine EV_aload_n dX8_draft_53 rfl ?_
    refine ES_getf dX8_draft_54 fkX8_31 hn o_air rfl ?_
    refine ES_getf (v := .int (nI dc + 1)) dX8_draft_57 fkX8_140 hn (by assumption) (by show some (Value.int (sset _ 106 1 (nI dc + 1) 106 1)) = _; rw [sset_self]; rfl) ?_
    exact ES_iret dX8_draft_60 rfl rfl rfl rfl
theorem sp_clear : SP z k mX8_clear [.ref 1] σ (some (.int (σ 106 1))) (sset σ 106 1 0) := by
  refine SP_of 1 (by decide) (Nat.le_of_ble_eq_true rfl) fun X n hn => ?_
  have hR := o_draft
  refine EV_aload_n dX8_clear_0 rfl ?_
  refine ES_getf dX8_clear_1 fkX8_31 hn o_air rfl ?_
  refine ES_getf dX8_clear_4 fkX8_140 hn (by assumption) rfl ?_
  refine EV_istore_n dX8_clear_7 (Nat.le_of_ble_eq_true rfl) (Nat.le_of_ble_eq_true rfl) rfl ?_
  refine EV_aload_n dX8_clear_8 rfl ?_
  refine ES_getf dX8_clear_9 fkX8_31 hn o_air rfl ?_
  refine EV_iconst (v := 0) dX8_clear_12 (by decide) ?_
  refine ES_put dX8_clear_13 fkX8_140 hn (by assumption) (Nat.le_of_ble_eq_true rfl) (fun _ _ => rfl) rfl rfl ?_
  refine EV_iload_n dX8_clear_16 rfl ?_
  exact ES_iret dX8_clear_17 rfl rfl rfl rfl
theorem sp_withdraw {i : Nat} (hW : WF σ 14 cc fc zc) (hi : i < fc) (h0 : σ (14 + 10 + 3 * i) 2 = 0) : SP z (k + 2) mX8_withdraw [.ref 1, .int (nI i)] σ (some (.int (σ (14 + 10 + 3 * i) 1))) (sset σ (14 + 10 + 3 * i) 2 3) := by
  refine SP_of 1 (by decide) (Nat.le_of_ble_eq_true rfl) fun X n hn => ?_
  have hO := o_sky s14
  have h12 := hW.2.2.1.2
  have hFO := (fl_of s14 (show i < 12 by omega)).1
  refine EV_aload_n dX8_withdraw_0 rfl ?_
  refine EV_iload_n dX8_withdraw_1 rfl ?_
  refine ES_callV dX8_withdraw_2 mkX8_180 mfX8_checkFlight mvX8_checkFlight hn o_air rfl (sp_ckFlight hW hi) rfl rfl (Nat.le_of_ble_eq_true rfl) ?_
  refine EV_aload_n dX8_withdraw_5 rfl ?_
  refine ES_getf dX8_withdraw_6 fkX8_21 hn o_air rfl ?_
  refine ES_getf dX8_withdraw_9 fkX8_160 hn (by assumption) rfl ?_
  refine EV_iload_n dX8_withdraw_12 rfl ?_
  refine ES_aaldF s14 dX8_withdraw_13 hn (by omega) ?_
  refine EV_astore_n dX8_withdraw_14 (Nat.le_of_ble_eq_true rfl) (Nat.le_of_ble_eq_true rfl) rfl ?_
  refine EV_aload_n dX8_withdraw_15 rfl ?_
  refine ES_getf dX8_withdraw_16 fkX8_172 hn (by assumption) rfl ?_
  refine EV_if_ne 26 dX8_withdraw_19 (by decide) (fun c19 => ?_) (fun c19 => ?_)
  · skip
    exact absurd h0 c19
  · skip
    refine EV_iconst (v := 1) dX8_withdraw_22 (by decide) ?_
    refine EV_goto 27 dX8_withdraw_23 (by decide) ?_
    refine ES_callS dX8_withdraw_27 mkX8_66 mfX8_checkState msX8_checkState hn (sp_ckState (by decide)) rfl rfl (Nat.le_of_ble_eq_true rfl) ?_
    refine EV_aload_n dX8_withdraw_30 rfl ?_
    refine EV_iconst (v := 3) dX8_withdraw_31 (by decide) ?_
    refine ES_put dX8_withdraw_32 fkX8_172 hn (by assumption) (Nat.le_of_ble_eq_true rfl) (fun _ _ => rfl) rfl rfl ?_
    refine EV_aload_n dX8_withdraw_35 rfl ?_
    refine ES_getf (v := .int (σ (14 + 10 + 3 * i) 1)) dX8_withdraw_36 fkX8_169 hn (by assumption) (by show some (Value.int (sset σ _ 2 3 _ 1)) = _; rw [sset_at]; simp) ?_
    exact ES_iret dX8_withdraw_39 rfl rfl rfl rfl
set_option maxHeartbeats 4000000 in
theorem sp_pass {m : Nat} (h : OK σ pc cc fc zc nw dc) (h1 : 1 ≤ m) (h2 : m ≤ 100) (h3 : nw + m ≤ 5000) : SP z (k + 5) mX8_pass [.ref 1, .int (nI m)] σ (some (.int (finL (playF 14 cc fc zc m σ) 14 2 fc 0 0 - finL σ 14 2 fc 0 0))) (playF 14 cc fc zc m σ) := by
  refine SP_of 1 (by decide) (Nat.le_of_ble_eq_true rfl) fun X n hn => ?_
  have hO := o_sky s14
  have hW := h.1
  refine EV_iload_n dX8_pass_0 rfl ?_
  refine ES_callS dX8_pass_1 mkX8_183 mfX8_checkMinutes msX8_checkMinutes hn (sp_ckMinutes (k := k + 3) h1 h2) rfl rfl (Nat.le_of_ble_eq_true rfl) ?_
  refine EV_aload_n dX8_pass_4 rfl ?_
  refine ES_getf dX8_pass_5 fkX8_21 hn o_air rfl ?_
  refine ES_getf dX8_pass_8 fkX8_186 hn (by assumption) rfl ?_
  refine EV_iload_n dX8_pass_11 rfl ?_
  refine EV_iadd dX8_pass_12 ?_
  refine EV_sipush (v := 5000) dX8_pass_13 (by decide) ?_
  refine EV_icmp_gt 23 dX8_pass_16 (by decide) (fun c16 => ?_) (fun c16 => ?_)
  · skip
    exact absurd c16 (by rw [h.2.2.2.1.1, nI_add]; exact nI_nlt (a := 5000) (b := nw + m) h3 (by omega))
  · skip
    refine EV_iconst (v := 1) dX8_pass_19 (by decide) ?_
    refine EV_goto 24 dX8_pass_20 (by decide) ?_
    refine ES_callS dX8_pass_24 mkX8_66 mfX8_checkState msX8_checkState hn (sp_ckState (by decide)) rfl rfl (Nat.le_of_ble_eq_true rfl) ?_
    refine EV_aload_n dX8_pass_27 rfl ?_
    refine ES_getf dX8_pass_28 fkX8_21 hn o_air rfl ?_
    refine EV_iconst (v := 2) dX8_pass_31 (by decide) ?_
    refine ES_callV dX8_pass_32 mkX8_189 mfX6_flightsIn mvX6_flightsIn hn (by assumption) rfl (sp_flightsIn hW _) rfl rfl (Nat.le_of_ble_eq_true rfl) ?_
    refine EV_istore_n dX8_pass_35 (Nat.le_of_ble_eq_true rfl) (Nat.le_of_ble_eq_true rfl) rfl ?_
    refine EV_aload_n dX8_pass_36 rfl ?_
    refine ES_getf dX8_pass_37 fkX8_21 hn o_air rfl ?_
    refine EV_iload_n dX8_pass_40 rfl ?_
    refine ES_callV dX8_pass_41 mkX8_192 mfX6_play mvX6_play hn (by assumption) rfl (sp_play z k hW (by omega)) rfl rfl (Nat.le_of_ble_eq_true rfl) ?_
    refine EV_aload_n dX8_pass_44 rfl ?_
    refine ES_getf dX8_pass_45 fkX8_21 hn o_air rfl ?_
    refine EV_iconst (v := 2) dX8_pass_48 (by decide) ?_
    refine ES_callV dX8_pass_49 mkX8_189 mfX6_flightsIn mvX6_flightsIn hn (by assumption) rfl (sp_flightsIn (hW.only (play_only m σ hW)) _) rfl rfl (Nat.le_of_ble_eq_true rfl) ?_
    refine EV_iload_n dX8_pass_52 rfl ?_
    refine EV_isub dX8_pass_53 ?_
    exact ES_iret dX8_pass_54 rfl rfl rfl rfl
set_option maxHeartbeats 4000000 in
theorem sp_wouldNear {m : Nat} (h : OK σ pc cc fc zc nw dc) (h1 : 1 ≤ m) (h2 : m ≤ 100) : SP z (k + 5) mX8_wouldNear [.ref 1, .int (nI m)] σ (some (.int (playF 60 cc fc zc m (cpSkyF σ cc fc) 60 7 - playF 60 cc fc zc m (cpSkyF σ cc fc) 14 7))) (playF 60 cc fc zc m (cpSkyF σ cc fc)) := by
  refine SP_of 0 (by decide) (Nat.le_of_ble_eq_true rfl) fun X n hn => ?_
  have hO := o_sky s14
  have hO2 := o_sky s60
  obtain ⟨hc1, hc2⟩ := cpSky_ok h.1 h.2.1
  refine EV_iload_n dX8_wouldNear_0 rfl ?_
  refine ES_callS dX8_wouldNear_1 mkX8_183 mfX8_checkMinutes msX8_checkMinutes hn (sp_ckMinutes (k := k + 3) h1 h2) rfl rfl (Nat.le_of_ble_eq_true rfl) ?_
  refine EV_aload_n dX8_wouldNear_4 rfl ?_
  refine ES_getf dX8_wouldNear_5 fkX8_25 hn o_air rfl ?_
  refine EV_aload_n dX8_wouldNear_8 rfl ?_
  refine ES_getf dX8_wouldNear_9 fkX8_21 hn o_air rfl ?_
  refine ES_callV dX8_wouldNear_12 mkX8_252 mfX6_copyFrom mvX6_copyFrom hn hO2 rfl (sp_cpSky (k := k + 1) h.1 h.2.1) rfl rfl (Nat.le_of_ble_eq_true rfl) ?_
  refine EV_aload_n dX8_wouldNear_15 rfl ?_
  refine ES_getf dX8_wouldNear_16 fkX8_25 hn o_air rfl ?_
  refine EV_iload_n dX8_wouldNear_19 rfl ?_
  refine ES_callV dX8_wouldNear_20 mkX8_192 mfX6_play mvX6_play hn hO2 rfl (sp_play z k hc1 (by omega)) rfl rfl (Nat.le_of_ble_eq_true rfl) ?_
  refine EV_aload_n dX8_wouldNear_23 rfl ?_
  refine ES_getf dX8_wouldNear_24 fkX8_25 hn o_air rfl ?_
  refine ES_getf dX8_wouldNear_27 fkX8_233 hn hO2 rfl ?_
  refine EV_aload_n dX8_wouldNear_30 rfl ?_
  refine ES_getf dX8_wouldNear_31 fkX8_21 hn o_air rfl ?_
  refine ES_getf dX8_wouldNear_34 fkX8_233 hn hO rfl ?_
  refine EV_isub dX8_wouldNear_37 ?_
  exact ES_iret dX8_wouldNear_38 rfl rfl rfl rfl
def haveF (σ : qσ) (r : Nat) : Int32 := if σ r 7 = 2 then -1 else σ r 4
set_option maxHeartbeats 4000000 in
theorem sp_wouldHave {m i : Nat} (h : OK σ pc cc fc zc nw dc) (hi : i < cc) (h1 : 1 ≤ m) (h2 : m ≤ 100) : SP z (k + 5) mX8_wouldHave [.ref 1, .int (nI i), .int (nI m)] σ (some (.int (haveF (playF 60 cc fc zc m (cpSkyF σ cc fc)) (60 + 4 + i)))) (playF 60 cc fc zc m (cpSkyF σ cc fc)) := by
  refine SP_of 1 (by decide) (Nat.le_of_ble_eq_true rfl) fun X n hn => ?_
  have hO := o_sky s14
  have hO2 := o_sky s60
  have h6 := h.1.2.1.2
  have hC := o_craft s60 (show i < 6 by omega)
  obtain ⟨hc1, hc2⟩ := cpSky_ok h.1 h.2.1
  refine EV_aload_n dX8_wouldHave_0 rfl ?_
  refine EV_iload_n dX8_wouldHave_1 rfl ?_
  refine ES_callV dX8_wouldHave_2 mkX8_130 mfX8_checkCraft mvX8_checkCraft hn o_air rfl (sp_ckCraft (k := k + 3) h.1 hi) rfl rfl (Nat.le_of_ble_eq_true rfl) ?_
  refine EV_iload_n dX8_wouldHave_5 rfl ?_
  refine ES_callS dX8_wouldHave_6 mkX8_183 mfX8_checkMinutes msX8_checkMinutes hn (sp_ckMinutes (k := k + 3) h1 h2) rfl rfl (Nat.le_of_ble_eq_true rfl) ?_
  refine EV_aload_n dX8_wouldHave_9 rfl ?_
  refine ES_getf dX8_wouldHave_10 fkX8_25 hn o_air rfl ?_
  refine EV_aload_n dX8_wouldHave_13 rfl ?_
  refine ES_getf dX8_wouldHave_14 fkX8_21 hn o_air rfl ?_
  refine ES_callV dX8_wouldHave_17 mkX8_252 mfX6_copyFrom mvX6_copyFrom hn hO2 rfl (sp_cpSky (k := k + 1) h.1 h.2.1) rfl rfl (Nat.le_of_ble_eq_true rfl) ?_
  refine EV_aload_n dX8_wouldHave_20 rfl ?_
  refine ES_getf dX8_wouldHave_21 fkX8_25 hn o_air rfl ?_
  refine EV_iload_n dX8_wouldHave_24 rfl ?_
  refine ES_callV dX8_wouldHave_25 mkX8_192 mfX6_play mvX6_play hn hO2 rfl (sp_play z k hc1 (by omega)) rfl rfl (Nat.le_of_ble_eq_true rfl) ?_
  refine EV_aload_n dX8_wouldHave_28 rfl ?_
  refine ES_getf dX8_wouldHave_29 fkX8_25 hn o_air rfl ?_
  refine ES_getf dX8_wouldHave_32 fkX8_100 hn hO2 rfl ?_
  refine EV_iload_n dX8_wouldHave_35 rfl ?_
  refine ES_aaldC s60 dX8_wouldHave_36 hn (by omega) ?_
  refine EV_astore_n dX8_wouldHave_37 (Nat.le_of_ble_eq_true rfl) (Nat.le_of_ble_eq_true rfl) rfl ?_
  refine EV_aload_n dX8_wouldHave_38 rfl ?_
  refine ES_getf dX8_wouldHave_39 fkX8_137 hn (by assumption) rfl ?_
  refine EV_iconst (v := 2) dX8_wouldHave_42 (by decide) ?_
  refine EV_icmp_ne 50 dX8_wouldHave_43 (by decide) (fun c43 => ?_) (fun c43 => ?_)
  · skip
    refine EV_aload_n dX8_wouldHave_50 rfl ?_
    refine ES_getf dX8_wouldHave_51 fkX8_121 hn (by assumption) rfl ?_
    exact ES_iret dX8_wouldHave_54 rfl rfl (by simp only [haveF, if_neg c43]; try rfl) rfl
  · skip
    refine EV_iconst (v := (-1)) dX8_wouldHave_46 (by decide) ?_
    refine EV_goto 54 dX8_wouldHave_47 (by decide) ?_
    exact ES_iret dX8_wouldHave_54 rfl rfl (by simp only [haveF, if_pos c43]; try rfl) rfl
set_option maxHeartbeats 4000000 in
theorem sp_why {c st : Nat} (h : OK σ pc cc fc zc nw dc) (hc : c < cc) (h1 : nw < st) (h2 : st ≤ nw + 2000) (hw : isWayF σ 106 (cntF σ 106) = true) : SP z (k + 5) mX8_why [.ref 1, .int (nI c), .int (nI st)] σ (some (.int (reasonF σ c 106 st fc zc))) (reasonS σ c 106 st fc zc) := by
  refine SP_of 0 (by decide) (Nat.le_of_ble_eq_true rfl) fun X n hn => ?_
  have hR := h.rt
  have q1 := hR.cnt
  have h6 := h.1.2.1.2
  have h50 := h.2.2.2.1.2
  refine EV_aload_n dX8_why_0 rfl ?_
  refine EV_iload_n dX8_why_1 rfl ?_
  refine ES_callV dX8_why_2 mkX8_130 mfX8_checkCraft mvX8_checkCraft hn o_air rfl (sp_ckCraft (k := k + 3) h.1 hc) rfl rfl (Nat.le_of_ble_eq_true rfl) ?_
  refine EV_aload_n dX8_why_5 rfl ?_
  refine EV_iload_n dX8_why_6 rfl ?_
  refine ES_callV dX8_why_7 mkX8_146 mfX8_checkStart mvX8_checkStart hn o_air rfl (sp_ckStart (k := k + 3) h.2.2.2.1.1 h.2.2.2.1.2 h1 h2) rfl rfl (Nat.le_of_ble_eq_true rfl) ?_
  refine EV_aload_n dX8_why_10 rfl ?_
  refine ES_getf dX8_why_11 fkX8_10 hn o_air rfl ?_
  refine EV_aload_n dX8_why_14 rfl ?_
  refine ES_getf dX8_why_15 fkX8_31 hn o_air rfl ?_
  refine ES_callV dX8_why_18 mkX8_149 mfX2_isWayFromPadToPad mvX2_isWayFromPadToPad hn o_ground rfl (sp_isWay z (k + 2) hR.1 q1.1 (by omega)) rfl rfl (Nat.le_of_ble_eq_true rfl) ?_
  refine ES_callS dX8_why_21 mkX8_66 mfX8_checkState msX8_checkState hn (sp_ckState (bI_ne0 hw)) rfl rfl (Nat.le_of_ble_eq_true rfl) ?_
  refine EV_aload_n dX8_why_24 rfl ?_
  refine ES_getf dX8_why_25 fkX8_40 hn o_air rfl ?_
  refine EV_iload_n dX8_why_28 rfl ?_
  refine EV_aload_n dX8_why_29 rfl ?_
  refine ES_getf dX8_why_30 fkX8_31 hn o_air rfl ?_
  refine EV_iload_n dX8_why_33 rfl ?_
  refine ES_callV dX8_why_34 mkX8_156 mfX3_reasonAgainst mvX3_reasonAgainst hn o_judge rfl (sp_reason (k := k) h.1 hR (by omega) ⟨by omega, by omega⟩) rfl rfl (Nat.le_of_ble_eq_true rfl) ?_
  exact ES_iret dX8_why_37 rfl rfl rfl rfl
end Ar
end
section
/-! ===== the air, further ===== -/
section As
variable {z : qZ} {k : Nat} {σ : qσ} {pc cc fc zc nw dc : Nat}
def ofCellV (σ : qσ) (c w cc fc : Nat) : Int32 := match w with
  | 0 => σ 3 (nI c).toNatClampNeg
  | 1 => if σ 4 (nI c).toNatClampNeg = 0 then 0 else 1
  | 2 => σ 5 (nI c).toNatClampNeg
  | 3 => σ (14 + 3) (nI c).toNatClampNeg
  | 4 => planDayF σ (σ 14 8 / 1440) fc 109 (nI c).toNatClampNeg
  | _ => flyL σ 14 (nI c) cc 0 0
def ofCellS (σ : qσ) (w fc : Nat) : qσ := match w with
  | 4 => planDayF σ (σ 14 8 / 1440) fc
  | _ => σ
set_option maxHeartbeats 8000000 in
theorem sp_ofCell {c w : Nat} (hW : WF σ 14 cc fc zc) (hc : c < 25) (hw : w < 6) : SP z (k + 4) mX8_ofCell [.ref 1, .int (nI c), .int (nI w)] σ (some (.int (ofCellV σ c w cc fc))) (ofCellS σ w fc) := by
  refine SP_of 0 (by decide) (Nat.le_of_ble_eq_true rfl) fun X n hn => ?_
  have hO := o_sky s14
  have hin : vp_in (nI c) 25 := vp_in_nI hc (by omega)
  rcases (show w = 0 ∨ w = 1 ∨ w = 2 ∨ w = 3 ∨ w = 4 ∨ w = 5 by omega) with rfl | rfl | rfl | rfl | rfl | rfl
  · skip
    refine EV_iload_n dX8_ofCell_0 rfl ?_
    refine ES_callS dX8_ofCell_1 mkX8_51 mfX8_checkCell msX8_checkCell hn (sp_ckCell (k := k + 2) hin) rfl rfl (Nat.le_of_ble_eq_true rfl) ?_
    refine EV_iload_n dX8_ofCell_4 rfl ?_
    refine EV_tableIn 44 dX8_ofCell_5 (by decide) (by decide) rfl (by decide) ?_
    refine EV_aload_n dX8_ofCell_44 rfl ?_
    refine ES_getf dX8_ofCell_45 fkX8_10 hn o_air rfl ?_
    refine ES_getf dX8_ofCell_48 fkX8_59 hn o_ground rfl ?_
    refine EV_iload_n dX8_ofCell_51 rfl ?_
    refine ES_iald dX8_ofCell_52 hn a_houses hin ?_
    exact ES_iret dX8_ofCell_53 rfl rfl rfl rfl
  · skip
    refine EV_iload_n dX8_ofCell_0 rfl ?_
    refine ES_callS dX8_ofCell_1 mkX8_51 mfX8_checkCell msX8_checkCell hn (sp_ckCell (k := k + 2) hin) rfl rfl (Nat.le_of_ble_eq_true rfl) ?_
    refine EV_iload_n dX8_ofCell_4 rfl ?_
    refine EV_tableIn 54 dX8_ofCell_5 (by decide) (by decide) rfl (by decide) ?_
    refine EV_aload_n dX8_ofCell_54 rfl ?_
    refine ES_getf dX8_ofCell_55 fkX8_10 hn o_air rfl ?_
    refine ES_getf dX8_ofCell_58 fkX8_69 hn o_ground rfl ?_
    refine EV_iload_n dX8_ofCell_61 rfl ?_
    refine ES_zald dX8_ofCell_62 hn a_towers hin ?_
    refine EV_if_eq 70 dX8_ofCell_63 (by decide) (fun c63 => ?_) (fun c63 => ?_)
    · skip
      refine EV_iconst (v := 0) dX8_ofCell_70 (by decide) ?_
      exact ES_iret dX8_ofCell_71 rfl rfl (by simp only [ofCellV, if_pos c63]; try rfl) rfl
    · skip
      refine EV_iconst (v := 1) dX8_ofCell_66 (by decide) ?_
      refine EV_goto 71 dX8_ofCell_67 (by decide) ?_
      exact ES_iret dX8_ofCell_71 rfl rfl (by simp only [ofCellV, if_neg c63]; try rfl) rfl
  · skip
    refine EV_iload_n dX8_ofCell_0 rfl ?_
    refine ES_callS dX8_ofCell_1 mkX8_51 mfX8_checkCell msX8_checkCell hn (sp_ckCell (k := k + 2) hin) rfl rfl (Nat.le_of_ble_eq_true rfl) ?_
    refine EV_iload_n dX8_ofCell_4 rfl ?_
    refine EV_tableIn 72 dX8_ofCell_5 (by decide) (by decide) rfl (by decide) ?_
    refine EV_aload_n dX8_ofCell_72 rfl ?_
    refine ES_getf dX8_ofCell_73 fkX8_10 hn o_air rfl ?_
    refine ES_getf dX8_ofCell_76 fkX8_63 hn o_ground rfl ?_
    refine EV_iload_n dX8_ofCell_79 rfl ?_
    refine ES_iald dX8_ofCell_80 hn a_padAt hin ?_
    exact ES_iret dX8_ofCell_81 rfl rfl rfl rfl
  · skip
    refine EV_iload_n dX8_ofCell_0 rfl ?_
    refine ES_callS dX8_ofCell_1 mkX8_51 mfX8_checkCell msX8_checkCell hn (sp_ckCell (k := k + 2) hin) rfl rfl (Nat.le_of_ble_eq_true rfl) ?_
    refine EV_iload_n dX8_ofCell_4 rfl ?_
    refine EV_tableIn 82 dX8_ofCell_5 (by decide) (by decide) rfl (by decide) ?_
    refine EV_aload_n dX8_ofCell_82 rfl ?_
    refine ES_getf dX8_ofCell_83 fkX8_21 hn o_air rfl ?_
    refine ES_getf dX8_ofCell_86 fkX8_195 hn (by assumption) rfl ?_
    refine EV_iload_n dX8_ofCell_89 rfl ?_
    refine ES_iald dX8_ofCell_90 hn (a_heard s14) hin ?_
    exact ES_iret dX8_ofCell_91 rfl rfl rfl rfl
  · skip
    refine EV_iload_n dX8_ofCell_0 rfl ?_
    refine ES_callS dX8_ofCell_1 mkX8_51 mfX8_checkCell msX8_checkCell hn (sp_ckCell (k := k + 2) hin) rfl rfl (Nat.le_of_ble_eq_true rfl) ?_
    refine EV_iload_n dX8_ofCell_4 rfl ?_
    refine EV_tableIn 92 dX8_ofCell_5 (by decide) (by decide) rfl (by decide) ?_
    refine EV_aload_n dX8_ofCell_92 rfl ?_
    refine ES_getf dX8_ofCell_93 fkX8_40 hn o_air rfl ?_
    refine EV_iload_n dX8_ofCell_96 rfl ?_
    refine EV_aload_n dX8_ofCell_97 rfl ?_
    refine ES_getf dX8_ofCell_98 fkX8_21 hn o_air rfl ?_
    refine ES_getf dX8_ofCell_101 fkX8_186 hn (by assumption) rfl ?_
    refine EV_sipush (v := 1440) dX8_ofCell_104 (by decide) ?_
    refine EV_idiv dX8_ofCell_107 (by decide) ?_
    refine ES_callV dX8_ofCell_108 mkX8_198 mfX3_plannedNoise mvX3_plannedNoise hn o_judge rfl (sp_plannedNoise (k := k) _ hW hin) rfl rfl (Nat.le_of_ble_eq_true rfl) ?_
    exact ES_iret dX8_ofCell_111 rfl rfl rfl rfl
  · skip
    refine EV_iload_n dX8_ofCell_0 rfl ?_
    refine ES_callS dX8_ofCell_1 mkX8_51 mfX8_checkCell msX8_checkCell hn (sp_ckCell (k := k + 2) hin) rfl rfl (Nat.le_of_ble_eq_true rfl) ?_
    refine EV_iload_n dX8_ofCell_4 rfl ?_
    refine EV_tableIn 112 dX8_ofCell_5 (by decide) (by decide) rfl (by decide) ?_
    refine EV_aload_n dX8_ofCell_112 rfl ?_
    refine ES_getf dX8_ofCell_113 fkX8_21 hn o_air rfl ?_
    refine EV_iload_n dX8_ofCell_116 rfl ?_
    refine ES_callV dX8_ofCell_117 mkX8_202 mfX6_flyingIn mvX6_flyingIn hn (by assumption) rfl (sp_flyingIn (k := k + 3) hW _) rfl rfl (Nat.le_of_ble_eq_true rfl) ?_
    exact ES_iret dX8_ofCell_120 rfl rfl rfl rfl
def ofCraftV (f : Nat → Int32) (w : Nat) : Int32 := match w with
  | 0 => f 0
  | 1 => f 1
  | 2 => f 3
  | 3 => f 4
  | 4 => f 5
  | 5 => if f 6 = 0 then 0 else 1
  | 6 => f 7
  | 7 => f 8
  | 8 => f 9
  | _ => f 10
set_option maxHeartbeats 8000000 in
theorem sp_ofCraft {i w : Nat} (hW : WF σ 14 cc fc zc) (hi : i < cc) (hw : w < 10) : SP z (k + 2) mX8_ofCraft [.ref 1, .int (nI i), .int (nI w)] σ (some (.int (ofCraftV (σ (14 + 4 + i)) w))) σ := by
  refine SP_of 1 (by decide) (Nat.le_of_ble_eq_true rfl) fun X n hn => ?_
  have hO := o_sky s14
  have h6 := hW.2.1.2
  have hC := o_craft s14 (show i < 6 by omega)
  rcases (show w = 0 ∨ w = 1 ∨ w = 2 ∨ w = 3 ∨ w = 4 ∨ w = 5 ∨ w = 6 ∨ w = 7 ∨ w = 8 ∨ w = 9 by omega) with rfl | rfl | rfl | rfl | rfl | rfl | rfl | rfl | rfl | rfl
  · skip
    refine EV_aload_n dX8_ofCraft_0 rfl ?_
    refine EV_iload_n dX8_ofCraft_1 rfl ?_
    refine ES_callV dX8_ofCraft_2 mkX8_130 mfX8_checkCraft mvX8_checkCraft hn o_air rfl (sp_ckCraft hW hi) rfl rfl (Nat.le_of_ble_eq_true rfl) ?_
    refine EV_aload_n dX8_ofCraft_5 rfl ?_
    refine ES_getf dX8_ofCraft_6 fkX8_21 hn o_air rfl ?_
    refine ES_getf dX8_ofCraft_9 fkX8_100 hn (by assumption) rfl ?_
    refine EV_iload_n dX8_ofCraft_12 rfl ?_
    refine ES_aaldC s14 dX8_ofCraft_13 hn (by omega) ?_
    refine EV_astore_n dX8_ofCraft_14 (Nat.le_of_ble_eq_true rfl) (Nat.le_of_ble_eq_true rfl) rfl ?_
    refine EV_iload_n dX8_ofCraft_15 rfl ?_
    refine EV_tableIn 72 dX8_ofCraft_16 (by decide) (by decide) rfl (by decide) ?_
    refine EV_aload_n dX8_ofCraft_72 rfl ?_
    refine ES_getf dX8_ofCraft_73 fkX8_104 hn (by assumption) rfl ?_
    exact ES_iret dX8_ofCraft_76 rfl rfl rfl rfl
  · skip
    refine EV_aload_n dX8_ofCraft_0 rfl ?_
    refine EV_iload_n dX8_ofCraft_1 rfl ?_
    refine ES_callV dX8_ofCraft_2 mkX8_130 mfX8_checkCraft mvX8_checkCraft hn o_air rfl (sp_ckCraft hW hi) rfl rfl (Nat.le_of_ble_eq_true rfl) ?_
    refine EV_aload_n dX8_ofCraft_5 rfl ?_
    refine ES_getf dX8_ofCraft_6 fkX8_21 hn o_air rfl ?_
    refine ES_getf dX8_ofCraft_9 fkX8_100 hn (by assumption) rfl ?_
    refine EV_iload_n dX8_ofCraft_12 rfl ?_
    refine ES_aaldC s14 dX8_ofCraft_13 hn (by omega) ?_
    refine EV_astore_n dX8_ofCraft_14 (Nat.le_of_ble_eq_true rfl) (Nat.le_of_ble_eq_true rfl) rfl ?_
    refine EV_iload_n dX8_ofCraft_15 rfl ?_
    refine EV_tableIn 77 dX8_ofCraft_16 (by decide) (by decide) rfl (by decide) ?_
    refine EV_aload_n dX8_ofCraft_77 rfl ?_
    refine ES_getf dX8_ofCraft_78 fkX8_109 hn (by assumption) rfl ?_
    exact ES_iret dX8_ofCraft_81 rfl rfl rfl rfl
  · skip
    refine EV_aload_n dX8_ofCraft_0 rfl ?_
    refine EV_iload_n dX8_ofCraft_1 rfl ?_
    refine ES_callV dX8_ofCraft_2 mkX8_130 mfX8_checkCraft mvX8_checkCraft hn o_air rfl (sp_ckCraft hW hi) rfl rfl (Nat.le_of_ble_eq_true rfl) ?_
    refine EV_aload_n dX8_ofCraft_5 rfl ?_
    refine ES_getf dX8_ofCraft_6 fkX8_21 hn o_air rfl ?_
    refine ES_getf dX8_ofCraft_9 fkX8_100 hn (by assumption) rfl ?_
    refine EV_iload_n dX8_ofCraft_12 rfl ?_
    refine ES_aaldC s14 dX8_ofCraft_13 hn (by omega) ?_
    refine EV_astore_n dX8_ofCraft_14 (Nat.le_of_ble_eq_true rfl) (Nat.le_of_ble_eq_true rfl) rfl ?_
    refine EV_iload_n dX8_ofCraft_15 rfl ?_
    refine EV_tableIn 82 dX8_ofCraft_16 (by decide) (by decide) rfl (by decide) ?_
    refine EV_aload_n dX8_ofCraft_82 rfl ?_
    refine ES_getf dX8_ofCraft_83 fkX8_118 hn (by assumption) rfl ?_
    exact ES_iret dX8_ofCraft_86 rfl rfl rfl rfl
  · skip
    refine EV_aload_n dX8_ofCraft_0 rfl ?_
    refine EV_iload_n dX8_ofCraft_1 rfl ?_
    refine ES_callV dX8_ofCraft_2 mkX8_130 mfX8_checkCraft mvX8_checkCraft hn o_air rfl (sp_ckCraft hW hi) rfl rfl (Nat.le_of_ble_eq_true rfl) ?_
    refine EV_aload_n dX8_ofCraft_5 rfl ?_
    refine ES_getf dX8_ofCraft_6 fkX8_21 hn o_air rfl ?_
    refine ES_getf dX8_ofCraft_9 fkX8_100 hn (by assumption) rfl ?_
    refine EV_iload_n dX8_ofCraft_12 rfl ?_
    refine ES_aaldC s14 dX8_ofCraft_13 hn (by omega) ?_
    refine EV_astore_n dX8_ofCraft_14 (Nat.le_of_ble_eq_true rfl) (Nat.le_of_ble_eq_true rfl) rfl ?_
    refine EV_iload_n dX8_ofCraft_15 rfl ?_
    refine EV_tableIn 87 dX8_ofCraft_16 (by decide) (by decide) rfl (by decide) ?_
    refine EV_aload_n dX8_ofCraft_87 rfl ?_
    refine ES_getf dX8_ofCraft_88 fkX8_121 hn (by assumption) rfl ?_
    exact ES_iret dX8_ofCraft_91 rfl rfl rfl rfl
  · skip
    refine EV_aload_n dX8_ofCraft_0 rfl ?_
    refine EV_iload_n dX8_ofCraft_1 rfl ?_
    refine ES_callV dX8_ofCraft_2 mkX8_130 mfX8_checkCraft mvX8_checkCraft hn o_air rfl (sp_ckCraft hW hi) rfl rfl (Nat.le_of_ble_eq_true rfl) ?_
    refine EV_aload_n dX8_ofCraft_5 rfl ?_
    refine ES_getf dX8_ofCraft_6 fkX8_21 hn o_air rfl ?_
    refine ES_getf dX8_ofCraft_9 fkX8_100 hn (by assumption) rfl ?_
    refine EV_iload_n dX8_ofCraft_12 rfl ?_
    refine ES_aaldC s14 dX8_ofCraft_13 hn (by omega) ?_
    refine EV_astore_n dX8_ofCraft_14 (Nat.le_of_ble_eq_true rfl) (Nat.le_of_ble_eq_true rfl) rfl ?_
    refine EV_iload_n dX8_ofCraft_15 rfl ?_
    refine EV_tableIn 92 dX8_ofCraft_16 (by decide) (by decide) rfl (by decide) ?_
    refine EV_aload_n dX8_ofCraft_92 rfl ?_
    refine ES_getf dX8_ofCraft_93 fkX8_124 hn (by assumption) rfl ?_
    exact ES_iret dX8_ofCraft_96 rfl rfl rfl rfl
  · skip
    refine EV_aload_n dX8_ofCraft_0 rfl ?_
    refine EV_iload_n dX8_ofCraft_1 rfl ?_
    refine ES_callV dX8_ofCraft_2 mkX8_130 mfX8_checkCraft mvX8_checkCraft hn o_air rfl (sp_ckCraft hW hi) rfl rfl (Nat.le_of_ble_eq_true rfl) ?_
    refine EV_aload_n dX8_ofCraft_5 rfl ?_
    refine ES_getf dX8_ofCraft_6 fkX8_21 hn o_air rfl ?_
    refine ES_getf dX8_ofCraft_9 fkX8_100 hn (by assumption) rfl ?_
    refine EV_iload_n dX8_ofCraft_12 rfl ?_
    refine ES_aaldC s14 dX8_ofCraft_13 hn (by omega) ?_
    refine EV_astore_n dX8_ofCraft_14 (Nat.le_of_ble_eq_true rfl) (Nat.le_of_ble_eq_true rfl) rfl ?_
    refine EV_iload_n dX8_ofCraft_15 rfl ?_
    refine EV_tableIn 97 dX8_ofCraft_16 (by decide) (by decide) rfl (by decide) ?_
    refine EV_aload_n dX8_ofCraft_97 rfl ?_
    refine ES_getf dX8_ofCraft_98 fkX8_133 hn (by assumption) rfl ?_
    refine EV_if_eq 108 dX8_ofCraft_101 (by decide) (fun c101 => ?_) (fun c101 => ?_)
    · skip
      refine EV_iconst (v := 0) dX8_ofCraft_108 (by decide) ?_
      exact ES_iret dX8_ofCraft_109 rfl rfl (by simp only [ofCraftV, if_pos c101]; try rfl) rfl
    · skip
      refine EV_iconst (v := 1) dX8_ofCraft_104 (by decide) ?_
      refine EV_goto 109 dX8_ofCraft_105 (by decide) ?_
      exact ES_iret dX8_ofCraft_109 rfl rfl (by simp only [ofCraftV, if_neg c101]; try rfl) rfl
  · skip
    refine EV_aload_n dX8_ofCraft_0 rfl ?_
    refine EV_iload_n dX8_ofCraft_1 rfl ?_
    refine ES_callV dX8_ofCraft_2 mkX8_130 mfX8_checkCraft mvX8_checkCraft hn o_air rfl (sp_ckCraft hW hi) rfl rfl (Nat.le_of_ble_eq_true rfl) ?_
    refine EV_aload_n dX8_ofCraft_5 rfl ?_
    refine ES_getf dX8_ofCraft_6 fkX8_21 hn o_air rfl ?_
    refine ES_getf dX8_ofCraft_9 fkX8_100 hn (by assumption) rfl ?_
    refine EV_iload_n dX8_ofCraft_12 rfl ?_
    refine ES_aaldC s14 dX8_ofCraft_13 hn (by omega) ?_
    refine EV_astore_n dX8_ofCraft_14 (Nat.le_of_ble_eq_true rfl) (Nat.le_of_ble_eq_true rfl) rfl ?_
    refine EV_iload_n dX8_ofCraft_15 rfl ?_
    refine EV_tableIn 110 dX8_ofCraft_16 (by decide) (by decide) rfl (by decide) ?_
    refine EV_aload_n dX8_ofCraft_110 rfl ?_
    refine ES_getf dX8_ofCraft_111 fkX8_137 hn (by assumption) rfl ?_
    exact ES_iret dX8_ofCraft_114 rfl rfl rfl rfl
  · skip
    refine EV_aload_n dX8_ofCraft_0 rfl ?_
    refine EV_iload_n dX8_ofCraft_1 rfl ?_
    refine ES_callV dX8_ofCraft_2 mkX8_130 mfX8_checkCraft mvX8_checkCraft hn o_air rfl (sp_ckCraft hW hi) rfl rfl (Nat.le_of_ble_eq_true rfl) ?_
    refine EV_aload_n dX8_ofCraft_5 rfl ?_
    refine ES_getf dX8_ofCraft_6 fkX8_21 hn o_air rfl ?_
    refine ES_getf dX8_ofCraft_9 fkX8_100 hn (by assumption) rfl ?_
    refine EV_iload_n dX8_ofCraft_12 rfl ?_
    refine ES_aaldC s14 dX8_ofCraft_13 hn (by omega) ?_
    refine EV_astore_n dX8_ofCraft_14 (Nat.le_of_ble_eq_true rfl) (Nat.le_of_ble_eq_true rfl) rfl ?_
    refine EV_iload_n dX8_ofCraft_15 rfl ?_
    refine EV_tableIn 115 dX8_ofCraft_16 (by decide) (by decide) rfl (by decide) ?_
    refine EV_aload_n dX8_ofCraft_115 rfl ?_
    refine ES_getf dX8_ofCraft_116 fkX8_127 hn (by assumption) rfl ?_
    exact ES_iret dX8_ofCraft_119 rfl rfl rfl rfl
  · skip
    refine EV_aload_n dX8_ofCraft_0 rfl ?_
    refine EV_iload_n dX8_ofCraft_1 rfl ?_
    refine ES_callV dX8_ofCraft_2 mkX8_130 mfX8_checkCraft mvX8_checkCraft hn o_air rfl (sp_ckCraft hW hi) rfl rfl (Nat.le_of_ble_eq_true rfl) ?_
    refine EV_aload_n dX8_ofCraft_5 rfl ?_
    refine ES_getf dX8_ofCraft_6 fkX8_21 hn o_air rfl ?_
    refine ES_getf dX8_ofCraft_9 fkX8_100 hn (by assumption) rfl ?_
    refine EV_iload_n dX8_ofCraft_12 rfl ?_
    refine ES_aaldC s14 dX8_ofCraft_13 hn (by omega) ?_
    refine EV_astore_n dX8_ofCraft_14 (Nat.le_of_ble_eq_true rfl) (Nat.le_of_ble_eq_true rfl) rfl ?_
    refine EV_iload_n dX8_ofCraft_15 rfl ?_
    refine EV_tableIn 120 dX8_ofCraft_16 (by decide) (by decide) rfl (by decide) ?_
    refine EV_aload_n dX8_ofCraft_120 rfl ?_
    refine ES_getf dX8_ofCraft_121 fkX8_212 hn (by assumption) rfl ?_
    exact ES_iret dX8_ofCraft_124 rfl rfl rfl rfl
  · skip
    refine EV_aload_n dX8_ofCraft_0 rfl ?_
    refine EV_iload_n dX8_ofCraft_1 rfl ?_
    refine ES_callV dX8_ofCraft_2 mkX8_130 mfX8_checkCraft mvX8_checkCraft hn o_air rfl (sp_ckCraft hW hi) rfl rfl (Nat.le_of_ble_eq_true rfl) ?_
    refine EV_aload_n dX8_ofCraft_5 rfl ?_
    refine ES_getf dX8_ofCraft_6 fkX8_21 hn o_air rfl ?_
    refine ES_getf dX8_ofCraft_9 fkX8_100 hn (by assumption) rfl ?_
    refine EV_iload_n dX8_ofCraft_12 rfl ?_
    refine ES_aaldC s14 dX8_ofCraft_13 hn (by omega) ?_
    refine EV_astore_n dX8_ofCraft_14 (Nat.le_of_ble_eq_true rfl) (Nat.le_of_ble_eq_true rfl) rfl ?_
    refine EV_iload_n dX8_ofCraft_15 rfl ?_
    refine EV_tableIn 125 dX8_ofCraft_16 (by decide) (by decide) rfl (by decide) ?_
    refine EV_aload_n dX8_ofCraft_125 rfl ?_
    refine ES_getf dX8_ofCraft_126 fkX8_215 hn (by assumption) rfl ?_
    exact ES_iret dX8_ofCraft_129 rfl rfl rfl rfl
def ofFlightV (σ : qσ) (r w : Nat) : Int32 := match w with
  | 0 => σ r 2
  | 1 => σ r 0
  | 2 => σ r 1
  | 3 => endF σ (r + 1) (σ r 1)
  | _ => σ (r + 1) 1
set_option maxHeartbeats 8000000 in
theorem sp_ofFlight {i w : Nat} (hW : WF σ 14 cc fc zc) (hi : i < fc) (hw : w < 5) : SP z (k + 2) mX8_ofFlight [.ref 1, .int (nI i), .int (nI w)] σ (some (.int (ofFlightV σ (14 + 10 + 3 * i) w))) σ := by
  refine SP_of 1 (by decide) (Nat.le_of_ble_eq_true rfl) fun X n hn => ?_
  have hO := o_sky s14
  have h12 := hW.2.2.1.2
  have hF := fl_of s14 (show i < 12 by omega)
  have hFO := hF.1
  have hRO := hF.2.1
  rcases (show w = 0 ∨ w = 1 ∨ w = 2 ∨ w = 3 ∨ w = 4 by omega) with rfl | rfl | rfl | rfl | rfl
  · skip
    refine EV_aload_n dX8_ofFlight_0 rfl ?_
    refine EV_iload_n dX8_ofFlight_1 rfl ?_
    refine ES_callV dX8_ofFlight_2 mkX8_180 mfX8_checkFlight mvX8_checkFlight hn o_air rfl (sp_ckFlight hW hi) rfl rfl (Nat.le_of_ble_eq_true rfl) ?_
    refine EV_aload_n dX8_ofFlight_5 rfl ?_
    refine ES_getf dX8_ofFlight_6 fkX8_21 hn o_air rfl ?_
    refine ES_getf dX8_ofFlight_9 fkX8_160 hn (by assumption) rfl ?_
    refine EV_iload_n dX8_ofFlight_12 rfl ?_
    refine ES_aaldF s14 dX8_ofFlight_13 hn (by omega) ?_
    refine EV_astore_n dX8_ofFlight_14 (Nat.le_of_ble_eq_true rfl) (Nat.le_of_ble_eq_true rfl) rfl ?_
    refine EV_iload_n dX8_ofFlight_15 rfl ?_
    refine EV_tableIn 52 dX8_ofFlight_16 (by decide) (by decide) rfl (by decide) ?_
    refine EV_aload_n dX8_ofFlight_52 rfl ?_
    refine ES_getf dX8_ofFlight_53 fkX8_172 hn (by assumption) rfl ?_
    exact ES_iret dX8_ofFlight_56 rfl rfl rfl rfl
  · skip
    refine EV_aload_n dX8_ofFlight_0 rfl ?_
    refine EV_iload_n dX8_ofFlight_1 rfl ?_
    refine ES_callV dX8_ofFlight_2 mkX8_180 mfX8_checkFlight mvX8_checkFlight hn o_air rfl (sp_ckFlight hW hi) rfl rfl (Nat.le_of_ble_eq_true rfl) ?_
    refine EV_aload_n dX8_ofFlight_5 rfl ?_
    refine ES_getf dX8_ofFlight_6 fkX8_21 hn o_air rfl ?_
    refine ES_getf dX8_ofFlight_9 fkX8_160 hn (by assumption) rfl ?_
    refine EV_iload_n dX8_ofFlight_12 rfl ?_
    refine ES_aaldF s14 dX8_ofFlight_13 hn (by omega) ?_
    refine EV_astore_n dX8_ofFlight_14 (Nat.le_of_ble_eq_true rfl) (Nat.le_of_ble_eq_true rfl) rfl ?_
    refine EV_iload_n dX8_ofFlight_15 rfl ?_
    refine EV_tableIn 57 dX8_ofFlight_16 (by decide) (by decide) rfl (by decide) ?_
    refine EV_aload_n dX8_ofFlight_57 rfl ?_
    refine ES_getf dX8_ofFlight_58 fkX8_164 hn (by assumption) rfl ?_
    exact ES_iret dX8_ofFlight_61 rfl rfl rfl rfl
  · skip
    refine EV_aload_n dX8_ofFlight_0 rfl ?_
    refine EV_iload_n dX8_ofFlight_1 rfl ?_
    refine ES_callV dX8_ofFlight_2 mkX8_180 mfX8_checkFlight mvX8_checkFlight hn o_air rfl (sp_ckFlight hW hi) rfl rfl (Nat.le_of_ble_eq_true rfl) ?_
    refine EV_aload_n dX8_ofFlight_5 rfl ?_
    refine ES_getf dX8_ofFlight_6 fkX8_21 hn o_air rfl ?_
    refine ES_getf dX8_ofFlight_9 fkX8_160 hn (by assumption) rfl ?_
    refine EV_iload_n dX8_ofFlight_12 rfl ?_
    refine ES_aaldF s14 dX8_ofFlight_13 hn (by omega) ?_
    refine EV_astore_n dX8_ofFlight_14 (Nat.le_of_ble_eq_true rfl) (Nat.le_of_ble_eq_true rfl) rfl ?_
    refine EV_iload_n dX8_ofFlight_15 rfl ?_
    refine EV_tableIn 62 dX8_ofFlight_16 (by decide) (by decide) rfl (by decide) ?_
    refine EV_aload_n dX8_ofFlight_62 rfl ?_
    refine ES_getf dX8_ofFlight_63 fkX8_169 hn (by assumption) rfl ?_
    exact ES_iret dX8_ofFlight_66 rfl rfl rfl rfl
  · skip
    refine EV_aload_n dX8_ofFlight_0 rfl ?_
    refine EV_iload_n dX8_ofFlight_1 rfl ?_
    refine ES_callV dX8_ofFlight_2 mkX8_180 mfX8_checkFlight mvX8_checkFlight hn o_air rfl (sp_ckFlight hW hi) rfl rfl (Nat.le_of_ble_eq_true rfl) ?_
    refine EV_aload_n dX8_ofFlight_5 rfl ?_
    refine ES_getf dX8_ofFlight_6 fkX8_21 hn o_air rfl ?_
    refine ES_getf dX8_ofFlight_9 fkX8_160 hn (by assumption) rfl ?_
    refine EV_iload_n dX8_ofFlight_12 rfl ?_
    refine ES_aaldF s14 dX8_ofFlight_13 hn (by omega) ?_
    refine EV_astore_n dX8_ofFlight_14 (Nat.le_of_ble_eq_true rfl) (Nat.le_of_ble_eq_true rfl) rfl ?_
    refine EV_iload_n dX8_ofFlight_15 rfl ?_
    refine EV_tableIn 67 dX8_ofFlight_16 (by decide) (by decide) rfl (by decide) ?_
    refine EV_aload_n dX8_ofFlight_67 rfl ?_
    refine ES_getf dX8_ofFlight_68 fkX8_173 hn (by assumption) rfl ?_
    refine EV_aload_n dX8_ofFlight_71 rfl ?_
    refine ES_getf dX8_ofFlight_72 fkX8_169 hn (by assumption) rfl ?_
    refine ES_callV dX8_ofFlight_75 mkX8_220 mfX4_endFrom mvX4_endFrom hn hRO rfl (sp_endFrom z (k + 1) hRO _) rfl rfl (Nat.le_of_ble_eq_true rfl) ?_
    exact ES_iret dX8_ofFlight_78 rfl rfl rfl rfl
  · skip
    refine EV_aload_n dX8_ofFlight_0 rfl ?_
    refine EV_iload_n dX8_ofFlight_1 rfl ?_
    refine ES_callV dX8_ofFlight_2 mkX8_180 mfX8_checkFlight mvX8_checkFlight hn o_air rfl (sp_ckFlight hW hi) rfl rfl (Nat.le_of_ble_eq_true rfl) ?_
    refine EV_aload_n dX8_ofFlight_5 rfl ?_
    refine ES_getf dX8_ofFlight_6 fkX8_21 hn o_air rfl ?_
    refine ES_getf dX8_ofFlight_9 fkX8_160 hn (by assumption) rfl ?_
    refine EV_iload_n dX8_ofFlight_12 rfl ?_
    refine ES_aaldF s14 dX8_ofFlight_13 hn (by omega) ?_
    refine EV_astore_n dX8_ofFlight_14 (Nat.le_of_ble_eq_true rfl) (Nat.le_of_ble_eq_true rfl) rfl ?_
    refine EV_iload_n dX8_ofFlight_15 rfl ?_
    refine EV_tableIn 79 dX8_ofFlight_16 (by decide) (by decide) rfl (by decide) ?_
    refine EV_aload_n dX8_ofFlight_79 rfl ?_
    refine ES_getf dX8_ofFlight_80 fkX8_173 hn (by assumption) rfl ?_
    refine ES_getf dX8_ofFlight_83 fkX8_140 hn hRO rfl ?_
    exact ES_iret dX8_ofFlight_86 rfl rfl rfl rfl
def ocL (σ : qσ) (c m : Int32) : Nat → Nat → Int32
  | 0, _ => -1
  | j + 1, i => if bI (aheadF (σ (14 + 10 + 3 * i))) = 0 then ocL σ c m j (i + 1) else if bI (occL σ (14 + 10 + 3 * i) c m (cntF σ (14 + 10 + 3 * i + 1)) 0) = 0 then ocL σ c m j (i + 1) else nI i
set_option maxHeartbeats 4000000 in
theorem lp_occupies {X : qM} {n : Nat} (hn : 112 ≤ n) (hW : WF σ 14 cc fc zc) (c m : Int32) : ∀ (j i : Nat) (w4 : Value), w4.category = 1 → i + j = fc → EV z (k + 2) mX8_occupies 18 [.ref 1, .int c, .int m, .int (nI i), w4] [] (mm σ X) n 0 0 (qRes (some (.int (ocL σ c m j i))) (mm σ X) n) := by
  have hO := o_sky s14
  have hc := hW.2.2.1
  intro j
  induction j with
  | zero =>
    intro i w4 h4 hi
    refine EV_iload_n dX8_occupies_18 rfl ?_
    refine EV_aload_n dX8_occupies_19 rfl ?_
    refine ES_getf dX8_occupies_20 fkX8_21 hn o_air rfl ?_
    refine ES_getf dX8_occupies_23 fkX8_153 hn (by assumption) rfl ?_
    refine EV_icmp_ge 66 dX8_occupies_26 (by decide) (fun c26 => ?_) (fun c26 => ?_)
    · skip
      refine EV_iconst (v := (-1)) dX8_occupies_66 (by decide) ?_
      exact ES_iret dX8_occupies_67 rfl rfl rfl rfl
    · skip
      exact absurd (by rw [hc.1]; exact nI_le (by omega) (by omega)) c26
  | succ j ih =>
    intro i w4 h4 hi
    have hF := fl_of s14 (show i < 12 by omega)
    have hFO := hF.1
    have q2 := (hW.rt (show i < 12 by omega)).cnt
    refine EV_iload_n dX8_occupies_18 rfl ?_
    refine EV_aload_n dX8_occupies_19 rfl ?_
    refine ES_getf dX8_occupies_20 fkX8_21 hn o_air rfl ?_
    refine ES_getf dX8_occupies_23 fkX8_153 hn (by assumption) rfl ?_
    refine EV_icmp_ge 66 dX8_occupies_26 (by decide) (fun c26 => ?_) (fun c26 => ?_)
    · skip
      exact absurd c26 (by rw [hc.1]; exact nI_ge (by omega) (by omega))
    · skip
      refine EV_aload_n dX8_occupies_29 rfl ?_
      refine ES_getf dX8_occupies_30 fkX8_21 hn o_air rfl ?_
      refine ES_getf dX8_occupies_33 fkX8_160 hn (by assumption) rfl ?_
      refine EV_iload_n dX8_occupies_36 rfl ?_
      refine ES_aaldF s14 dX8_occupies_37 hn (by omega) ?_
      refine EV_astore dX8_occupies_38 (Nat.le_of_ble_eq_true rfl) (Nat.le_of_ble_eq_true rfl) rfl ?_
      refine EV_aload dX8_occupies_40 rfl ?_
      refine ES_callV dX8_occupies_42 mkX8_225 mfX1_isAhead mvX1_isAhead hn (by assumption) rfl (sp_isAhead z (k + 1) hFO) rfl rfl (Nat.le_of_ble_eq_true rfl) ?_
      refine EV_if_eq 60 dX8_occupies_45 (by decide) (fun c45 => ?_) (fun c45 => ?_)
      · skip
        refine EV_iinc dX8_occupies_60 rfl (Nat.le_of_ble_eq_true rfl) rfl ?_
        refine EV_goto 18 dX8_occupies_63 (by decide) ?_
        rw [show nI i + Int32.ofInt 1 = nI (i + 1) from (nI_succ i).symm]
        simp only [ocL, if_neg c26, if_pos c45]
        exact ih (i + 1) _ rfl (by omega)
      · skip
        refine EV_aload dX8_occupies_48 rfl ?_
        refine EV_iload_n dX8_occupies_50 rfl ?_
        refine EV_iload_n dX8_occupies_51 rfl ?_
        refine ES_callV dX8_occupies_52 mkX8_229 mfX1_occupiesIn mvX1_occupiesIn hn (by assumption) rfl (sp_occupiesIn z k hF q2.1 (by omega) _ _) rfl rfl (Nat.le_of_ble_eq_true rfl) ?_
        refine EV_if_eq 60 dX8_occupies_55 (by decide) (fun c55 => ?_) (fun c55 => ?_)
        · skip
          refine EV_iinc dX8_occupies_60 rfl (Nat.le_of_ble_eq_true rfl) rfl ?_
          refine EV_goto 18 dX8_occupies_63 (by decide) ?_
          rw [show nI i + Int32.ofInt 1 = nI (i + 1) from (nI_succ i).symm]
          simp only [ocL, if_neg c26, if_neg c45, if_pos c55]
          exact ih (i + 1) _ rfl (by omega)
        · skip
          refine EV_iload_n dX8_occupies_58 rfl ?_
          exact ES_iret dX8_occupies_59 rfl rfl (by simp only [ocL, if_neg c26, if_neg c45, if_neg c55]) rfl
theorem sp_occupies {c m : Nat} (hW : WF σ 14 cc fc zc) (hc : c < 25) (hm : m < 2 ^ 30) : SP z (k + 2) mX8_occupies [.ref 1, .int (nI c), .int (nI m)] σ (some (.int (ocL σ (nI c) (nI m) fc 0))) σ := by
  refine SP_of 2 (by decide) (Nat.le_of_ble_eq_true rfl) fun X n hn => ?_
  refine EV_iload_n dX8_occupies_0 rfl ?_
  refine ES_callS dX8_occupies_1 mkX8_51 mfX8_checkCell msX8_checkCell hn (sp_ckCell (vp_in_nI hc (by omega))) rfl rfl (Nat.le_of_ble_eq_true rfl) ?_
  refine EV_iload_n dX8_occupies_4 rfl ?_
  refine EV_if_lt 12 dX8_occupies_5 (by decide) (fun c5 => ?_) (fun c5 => ?_)
  · skip
    exact absurd c5 (nI_pos (by omega))
  · skip
    refine EV_iconst (v := 1) dX8_occupies_8 (by decide) ?_
    refine EV_goto 13 dX8_occupies_9 (by decide) ?_
    refine ES_callS dX8_occupies_13 mkX8_55 mfX8_checkArgument msX8_checkArgument hn (sp_ckArg (by decide)) rfl rfl (Nat.le_of_ble_eq_true rfl) ?_
    refine EV_iconst (v := 0) dX8_occupies_16 (by decide) ?_
    refine EV_istore_n dX8_occupies_17 (Nat.le_of_ble_eq_true rfl) (Nat.le_of_ble_eq_true rfl) rfl ?_
    exact lp_occupies hn hW _ _ fc 0 _ rfl (by omega)
def manyV (σ : qσ) (w cc fc : Nat) : Int32 := match w with
  | 0 => σ 14 8
  | 1 => σ 2 4
  | 2 => σ 2 6
  | 3 => σ 14 2
  | 4 => σ 14 4
  | 5 => σ 106 1
  | 13 => σ 14 7
  | 14 => breL σ 14 cc 0 0
  | 15 => σ 14 6
  | w => finL σ 14 (nI w - 6) fc 0 0
set_option maxHeartbeats 16000000 in
theorem sp_many {w : Nat} (hW : WF σ 14 cc fc zc) (hw : w < 16) : SP z (k + 1) mX8_many [.ref 1, .int (nI w)] σ (some (.int (manyV σ w cc fc))) σ := by
  refine SP_of 0 (by decide) (Nat.le_of_ble_eq_true rfl) fun X n hn => ?_
  have hO := o_sky s14
  have hR := o_draft
  rcases (show w = 0 ∨ w = 1 ∨ w = 2 ∨ w = 3 ∨ w = 4 ∨ w = 5 ∨ w = 6 ∨ w = 7 ∨ w = 8 ∨ w = 9 ∨ w = 10 ∨ w = 11 ∨ w = 12 ∨ w = 13 ∨ w = 14 ∨ w = 15 by omega) with rfl | rfl | rfl | rfl | rfl | rfl | rfl | rfl | rfl | rfl | rfl | rfl | rfl | rfl | rfl | rfl
  · skip
    refine EV_iload_n dX8_many_0 rfl ?_
    refine EV_tableIn 80 dX8_many_1 (by decide) (by decide) rfl (by decide) ?_
    refine EV_aload_n dX8_many_80 rfl ?_
    refine ES_getf dX8_many_81 fkX8_21 hn o_air rfl ?_
    refine ES_getf dX8_many_84 fkX8_186 hn (by assumption) rfl ?_
    exact ES_iret dX8_many_87 rfl rfl rfl rfl
  · skip
    refine EV_iload_n dX8_many_0 rfl ?_
    refine EV_tableIn 88 dX8_many_1 (by decide) (by decide) rfl (by decide) ?_
    refine EV_aload_n dX8_many_88 rfl ?_
    refine ES_getf dX8_many_89 fkX8_10 hn o_air rfl ?_
    refine ES_getf dX8_many_92 fkX8_73 hn o_ground rfl ?_
    exact ES_iret dX8_many_95 rfl rfl rfl rfl
  · skip
    refine EV_iload_n dX8_many_0 rfl ?_
    refine EV_tableIn 96 dX8_many_1 (by decide) (by decide) rfl (by decide) ?_
    refine EV_aload_n dX8_many_96 rfl ?_
    refine ES_getf dX8_many_97 fkX8_10 hn o_air rfl ?_
    refine ES_getf dX8_many_100 fkX8_81 hn o_ground rfl ?_
    exact ES_iret dX8_many_103 rfl rfl rfl rfl
  · skip
    refine EV_iload_n dX8_many_0 rfl ?_
    refine EV_tableIn 104 dX8_many_1 (by decide) (by decide) rfl (by decide) ?_
    refine EV_aload_n dX8_many_104 rfl ?_
    refine ES_getf dX8_many_105 fkX8_21 hn o_air rfl ?_
    refine ES_getf dX8_many_108 fkX8_97 hn (by assumption) rfl ?_
    exact ES_iret dX8_many_111 rfl rfl rfl rfl
  · skip
    refine EV_iload_n dX8_many_0 rfl ?_
    refine EV_tableIn 112 dX8_many_1 (by decide) (by decide) rfl (by decide) ?_
    refine EV_aload_n dX8_many_112 rfl ?_
    refine ES_getf dX8_many_113 fkX8_21 hn o_air rfl ?_
    refine ES_getf dX8_many_116 fkX8_153 hn (by assumption) rfl ?_
    exact ES_iret dX8_many_119 rfl rfl rfl rfl
  · skip
    refine EV_iload_n dX8_many_0 rfl ?_
    refine EV_tableIn 120 dX8_many_1 (by decide) (by decide) rfl (by decide) ?_
    refine EV_aload_n dX8_many_120 rfl ?_
    refine ES_getf dX8_many_121 fkX8_31 hn o_air rfl ?_
    refine ES_getf dX8_many_124 fkX8_140 hn (by assumption) rfl ?_
    exact ES_iret dX8_many_127 rfl rfl rfl rfl
  · skip
    refine EV_iload_n dX8_many_0 rfl ?_
    refine EV_tableIn 128 dX8_many_1 (by decide) (by decide) rfl (by decide) ?_
    refine EV_aload_n dX8_many_128 rfl ?_
    refine ES_getf dX8_many_129 fkX8_21 hn o_air rfl ?_
    refine EV_iload_n dX8_many_132 rfl ?_
    refine EV_bipush (v := 6) dX8_many_133 (by decide) ?_
    refine EV_isub dX8_many_135 ?_
    refine ES_callV dX8_many_136 mkX8_189 mfX6_flightsIn mvX6_flightsIn hn (by assumption) rfl (sp_flightsIn (k := k) hW _) rfl rfl (Nat.le_of_ble_eq_true rfl) ?_
    exact ES_iret dX8_many_139 rfl rfl rfl rfl
  · skip
    refine EV_iload_n dX8_many_0 rfl ?_
    refine EV_tableIn 128 dX8_many_1 (by decide) (by decide) rfl (by decide) ?_
    refine EV_aload_n dX8_many_128 rfl ?_
    refine ES_getf dX8_many_129 fkX8_21 hn o_air rfl ?_
    refine EV_iload_n dX8_many_132 rfl ?_
    refine EV_bipush (v := 6) dX8_many_133 (by decide) ?_
    refine EV_isub dX8_many_135 ?_
    refine ES_callV dX8_many_136 mkX8_189 mfX6_flightsIn mvX6_flightsIn hn (by assumption) rfl (sp_flightsIn (k := k) hW _) rfl rfl (Nat.le_of_ble_eq_true rfl) ?_
    exact ES_iret dX8_many_139 rfl rfl rfl rfl
  · skip
    refine EV_iload_n dX8_many_0 rfl ?_
    refine EV_tableIn 128 dX8_many_1 (by decide) (by decide) rfl (by decide) ?_
    refine EV_aload_n dX8_many_128 rfl ?_
    refine ES_getf dX8_many_129 fkX8_21 hn o_air rfl ?_
    refine EV_iload_n dX8_many_132 rfl ?_
    refine EV_bipush (v := 6) dX8_many_133 (by decide) ?_
    refine EV_isub dX8_many_135 ?_
    refine ES_callV dX8_many_136 mkX8_189 mfX6_flightsIn mvX6_flightsIn hn (by assumption) rfl (sp_flightsIn (k := k) hW _) rfl rfl (Nat.le_of_ble_eq_true rfl) ?_
    exact ES_iret dX8_many_139 rfl rfl rfl rfl
  · skip
    refine EV_iload_n dX8_many_0 rfl ?_
    refine EV_tableIn 128 dX8_many_1 (by decide) (by decide) rfl (by decide) ?_
    refine EV_aload_n dX8_many_128 rfl ?_
    refine ES_getf dX8_many_129 fkX8_21 hn o_air rfl ?_
    refine EV_iload_n dX8_many_132 rfl ?_
    refine EV_bipush (v := 6) dX8_many_133 (by decide) ?_
    refine EV_isub dX8_many_135 ?_
    refine ES_callV dX8_many_136 mkX8_189 mfX6_flightsIn mvX6_flightsIn hn (by assumption) rfl (sp_flightsIn (k := k) hW _) rfl rfl (Nat.le_of_ble_eq_true rfl) ?_
    exact ES_iret dX8_many_139 rfl rfl rfl rfl
  · skip
    refine EV_iload_n dX8_many_0 rfl ?_
    refine EV_tableIn 128 dX8_many_1 (by decide) (by decide) rfl (by decide) ?_
    refine EV_aload_n dX8_many_128 rfl ?_
    refine ES_getf dX8_many_129 fkX8_21 hn o_air rfl ?_
    refine EV_iload_n dX8_many_132 rfl ?_
    refine EV_bipush (v := 6) dX8_many_133 (by decide) ?_
    refine EV_isub dX8_many_135 ?_
    refine ES_callV dX8_many_136 mkX8_189 mfX6_flightsIn mvX6_flightsIn hn (by assumption) rfl (sp_flightsIn (k := k) hW _) rfl rfl (Nat.le_of_ble_eq_true rfl) ?_
    exact ES_iret dX8_many_139 rfl rfl rfl rfl
  · skip
    refine EV_iload_n dX8_many_0 rfl ?_
    refine EV_tableIn 128 dX8_many_1 (by decide) (by decide) rfl (by decide) ?_
    refine EV_aload_n dX8_many_128 rfl ?_
    refine ES_getf dX8_many_129 fkX8_21 hn o_air rfl ?_
    refine EV_iload_n dX8_many_132 rfl ?_
    refine EV_bipush (v := 6) dX8_many_133 (by decide) ?_
    refine EV_isub dX8_many_135 ?_
    refine ES_callV dX8_many_136 mkX8_189 mfX6_flightsIn mvX6_flightsIn hn (by assumption) rfl (sp_flightsIn (k := k) hW _) rfl rfl (Nat.le_of_ble_eq_true rfl) ?_
    exact ES_iret dX8_many_139 rfl rfl rfl rfl
  · skip
    refine EV_iload_n dX8_many_0 rfl ?_
    refine EV_tableIn 128 dX8_many_1 (by decide) (by decide) rfl (by decide) ?_
    refine EV_aload_n dX8_many_128 rfl ?_
    refine ES_getf dX8_many_129 fkX8_21 hn o_air rfl ?_
    refine EV_iload_n dX8_many_132 rfl ?_
    refine EV_bipush (v := 6) dX8_many_133 (by decide) ?_
    refine EV_isub dX8_many_135 ?_
    refine ES_callV dX8_many_136 mkX8_189 mfX6_flightsIn mvX6_flightsIn hn (by assumption) rfl (sp_flightsIn (k := k) hW _) rfl rfl (Nat.le_of_ble_eq_true rfl) ?_
    exact ES_iret dX8_many_139 rfl rfl rfl rfl
  · skip
    refine EV_iload_n dX8_many_0 rfl ?_
    refine EV_tableIn 140 dX8_many_1 (by decide) (by decide) rfl (by decide) ?_
    refine EV_aload_n dX8_many_140 rfl ?_
    refine ES_getf dX8_many_141 fkX8_21 hn o_air rfl ?_
    refine ES_getf dX8_many_144 fkX8_233 hn (by assumption) rfl ?_
    exact ES_iret dX8_many_147 rfl rfl rfl rfl
  · skip
    refine EV_iload_n dX8_many_0 rfl ?_
    refine EV_tableIn 148 dX8_many_1 (by decide) (by decide) rfl (by decide) ?_
    refine EV_aload_n dX8_many_148 rfl ?_
    refine ES_getf dX8_many_149 fkX8_21 hn o_air rfl ?_
    refine ES_callV dX8_many_152 mkX8_236 mfX6_allBreaches mvX6_allBreaches hn (by assumption) rfl (sp_allBreaches (k := k) hW) rfl rfl (Nat.le_of_ble_eq_true rfl) ?_
    exact ES_iret dX8_many_155 rfl rfl rfl rfl
  · skip
    refine EV_iload_n dX8_many_0 rfl ?_
    refine EV_tableIn 156 dX8_many_1 (by decide) (by decide) rfl (by decide) ?_
    refine EV_aload_n dX8_many_156 rfl ?_
    refine ES_getf dX8_many_157 fkX8_21 hn o_air rfl ?_
    refine ES_getf dX8_many_160 fkX8_240 hn (by assumption) rfl ?_
    exact ES_iret dX8_many_163 rfl rfl rfl rfl
def craftF (σ : qσ) (cc : Nat) (p rk bt ld : Int32) : qσ :=
  let r := 14 + 4 + cc
  let σ := sset σ r 0 rk
  let σ := sset σ r 1 p
  let σ := sset σ r 2 (σ 6 p.toNatClampNeg)
  let σ := sset σ r 3 bt
  let σ := sset σ r 4 bt
  let σ := sset σ r 5 ld
  let σ := sset σ r 8 (σ r 2)
  sset σ 14 2 (nI cc + 1)
set_option maxHeartbeats 8000000 in
theorem sp_craft {p rk bt ld : Nat} (hc : σ 14 2 = nI cc) (h6 : cc < 6) (hp : σ 2 4 = nI pc) (hp5 : pc ≤ 5) (h1 : p < pc) (h2 : rk ≤ 3) (h3 : 10 ≤ bt ∧ bt ≤ 200) (h4 : ld ≤ 9) : SP z (k + 1) mX8_craft [.ref 1, .int (nI p), .int (nI rk), .int (nI bt), .int (nI ld)] σ (some (.int (nI cc))) (craftF σ cc (nI p) (nI rk) (nI bt) (nI ld)) := by
  refine SP_of 1 (by decide) (Nat.le_of_ble_eq_true rfl) fun X n hn => ?_
  have hO := o_sky s14
  have hC := o_craft s14 h6
  refine EV_iload_n dX8_craft_0 rfl ?_
  refine EV_if_lt 19 dX8_craft_1 (by decide) (fun c1 => ?_) (fun c1 => ?_)
  · skip
    exact absurd c1 (nI_pos (by omega))
  · skip
    refine EV_iload_n dX8_craft_4 rfl ?_
    refine EV_aload_n dX8_craft_5 rfl ?_
    refine ES_getf dX8_craft_6 fkX8_10 hn o_air rfl ?_
    refine ES_getf dX8_craft_9 fkX8_73 hn o_ground rfl ?_
    refine EV_icmp_ge 19 dX8_craft_12 (by decide) (fun c12 => ?_) (fun c12 => ?_)
    · skip
      exact absurd c12 (by rw [hp]; exact nI_ge h1 (by omega))
    · skip
      refine EV_iconst (v := 1) dX8_craft_15 (by decide) ?_
      refine EV_goto 20 dX8_craft_16 (by decide) ?_
      refine ES_callS dX8_craft_20 mkX8_94 mfX8_checkIndex msX8_checkIndex hn (sp_ckIndex (by decide)) rfl rfl (Nat.le_of_ble_eq_true rfl) ?_
      refine EV_iload_n dX8_craft_23 rfl ?_
      refine EV_if_lt 36 dX8_craft_24 (by decide) (fun c24 => ?_) (fun c24 => ?_)
      · skip
        exact absurd c24 (nI_pos (by omega))
      · skip
        refine EV_iload_n dX8_craft_27 rfl ?_
        refine EV_iconst (v := 3) dX8_craft_28 (by decide) ?_
        refine EV_icmp_gt 36 dX8_craft_29 (by decide) (fun c29 => ?_) (fun c29 => ?_)
        · skip
          exact absurd c29 (nI_nlt (a := 3) (b := rk) h2 (by omega))
        · skip
          refine EV_iconst (v := 1) dX8_craft_32 (by decide) ?_
          refine EV_goto 37 dX8_craft_33 (by decide) ?_
          refine ES_callS dX8_craft_37 mkX8_55 mfX8_checkArgument msX8_checkArgument hn (sp_ckArg (by decide)) rfl rfl (Nat.le_of_ble_eq_true rfl) ?_
          refine EV_iload_n dX8_craft_40 rfl ?_
          refine EV_bipush (v := 10) dX8_craft_41 (by decide) ?_
          refine EV_icmp_lt 57 dX8_craft_43 (by decide) (fun c43 => ?_) (fun c43 => ?_)
          · skip
            exact absurd c43 (nI_nlt (a := bt) (b := 10) h3.1 (by omega))
          · skip
            refine EV_iload_n dX8_craft_46 rfl ?_
            refine EV_sipush (v := 200) dX8_craft_47 (by decide) ?_
            refine EV_icmp_gt 57 dX8_craft_50 (by decide) (fun c50 => ?_) (fun c50 => ?_)
            · skip
              exact absurd c50 (nI_nlt (a := 200) (b := bt) h3.2 (by omega))
            · skip
              refine EV_iconst (v := 1) dX8_craft_53 (by decide) ?_
              refine EV_goto 58 dX8_craft_54 (by decide) ?_
              refine ES_callS dX8_craft_58 mkX8_55 mfX8_checkArgument msX8_checkArgument hn (sp_ckArg (by decide)) rfl rfl (Nat.le_of_ble_eq_true rfl) ?_
              refine EV_iload dX8_craft_61 rfl ?_
              refine EV_if_lt 77 dX8_craft_63 (by decide) (fun c63 => ?_) (fun c63 => ?_)
              · skip
                exact absurd c63 (nI_pos (by omega))
              · skip
                refine EV_iload dX8_craft_66 rfl ?_
                refine EV_bipush (v := 9) dX8_craft_68 (by decide) ?_
                refine EV_icmp_gt 77 dX8_craft_70 (by decide) (fun c70 => ?_) (fun c70 => ?_)
                · skip
                  exact absurd c70 (nI_nlt (a := 9) (b := ld) h4 (by omega))
                · skip
                  refine EV_iconst (v := 1) dX8_craft_73 (by decide) ?_
                  refine EV_goto 78 dX8_craft_74 (by decide) ?_
                  refine ES_callS dX8_craft_78 mkX8_55 mfX8_checkArgument msX8_checkArgument hn (sp_ckArg (by decide)) rfl rfl (Nat.le_of_ble_eq_true rfl) ?_
                  refine EV_aload_n dX8_craft_81 rfl ?_
                  refine ES_getf dX8_craft_82 fkX8_21 hn o_air rfl ?_
                  refine ES_getf dX8_craft_85 fkX8_97 hn (by assumption) rfl ?_
                  refine EV_bipush (v := 6) dX8_craft_88 (by decide) ?_
                  refine EV_icmp_ge 97 dX8_craft_90 (by decide) (fun c90 => ?_) (fun c90 => ?_)
                  · skip
                    exact absurd c90 (by rw [hc]; exact nI_ge (a := cc) (b := 6) h6 (by omega))
                  · skip
                    refine EV_iconst (v := 1) dX8_craft_93 (by decide) ?_
                    refine EV_goto 98 dX8_craft_94 (by decide) ?_
                    refine ES_callS dX8_craft_98 mkX8_66 mfX8_checkState msX8_checkState hn (sp_ckState (by decide)) rfl rfl (Nat.le_of_ble_eq_true rfl) ?_
                    refine EV_aload_n dX8_craft_101 rfl ?_
                    refine ES_getf dX8_craft_102 fkX8_21 hn o_air rfl ?_
                    refine ES_getf dX8_craft_105 fkX8_100 hn (by assumption) rfl ?_
                    refine EV_aload_n dX8_craft_108 rfl ?_
                    refine ES_getf dX8_craft_109 fkX8_21 hn o_air rfl ?_
                    refine ES_getf (v := .int (nI cc)) dX8_craft_112 fkX8_97 hn (by assumption) (by show some (Value.int (σ 14 2)) = _; rw [hc]) ?_
                    refine ES_aaldC s14 dX8_craft_115 hn h6 ?_
                    refine EV_astore dX8_craft_116 (Nat.le_of_ble_eq_true rfl) (Nat.le_of_ble_eq_true rfl) rfl ?_
                    refine EV_aload dX8_craft_118 rfl ?_
                    refine EV_iload_n dX8_craft_120 rfl ?_
                    refine ES_put dX8_craft_121 fkX8_104 hn (by assumption) (Nat.le_of_ble_eq_true rfl) (fun _ _ => rfl) rfl rfl ?_
                    refine EV_aload dX8_craft_124 rfl ?_
                    refine EV_iload_n dX8_craft_126 rfl ?_
                    refine ES_put dX8_craft_127 fkX8_109 hn (by assumption) (Nat.le_of_ble_eq_true rfl) (fun _ _ => rfl) rfl rfl ?_
                    refine EV_aload dX8_craft_130 rfl ?_
                    refine EV_aload_n dX8_craft_132 rfl ?_
                    refine ES_getf dX8_craft_133 fkX8_10 hn o_air rfl ?_
                    refine ES_getf dX8_craft_136 fkX8_112 hn o_ground rfl ?_
                    refine EV_iload_n dX8_craft_139 rfl ?_
                    refine ES_iald dX8_craft_140 hn a_padCells (vp_in_nI (by omega) (by omega)) ?_
                    refine ES_put dX8_craft_141 fkX8_115 hn (by assumption) (Nat.le_of_ble_eq_true rfl) (fun _ _ => rfl) rfl rfl ?_
                    refine EV_aload dX8_craft_144 rfl ?_
                    refine EV_iload_n dX8_craft_146 rfl ?_
                    refine ES_put dX8_craft_147 fkX8_118 hn (by assumption) (Nat.le_of_ble_eq_true rfl) (fun _ _ => rfl) rfl rfl ?_
                    refine EV_aload dX8_craft_150 rfl ?_
                    refine EV_iload_n dX8_craft_152 rfl ?_
                    refine ES_put dX8_craft_153 fkX8_121 hn (by assumption) (Nat.le_of_ble_eq_true rfl) (fun _ _ => rfl) rfl rfl ?_
                    refine EV_aload dX8_craft_156 rfl ?_
                    refine EV_iload dX8_craft_158 rfl ?_
                    refine ES_put dX8_craft_160 fkX8_124 hn (by assumption) (Nat.le_of_ble_eq_true rfl) (fun _ _ => rfl) rfl rfl ?_
                    refine EV_aload dX8_craft_163 rfl ?_
                    refine EV_aload dX8_craft_165 rfl ?_
                    refine ES_getf dX8_craft_167 fkX8_115 hn (by assumption) rfl ?_
                    refine ES_put dX8_craft_170 fkX8_127 hn (by assumption) (Nat.le_of_ble_eq_true rfl) (fun _ _ => rfl) rfl rfl ?_
                    refine EV_aload_n dX8_craft_173 rfl ?_
                    refine ES_getf dX8_craft_174 fkX8_21 hn o_air rfl ?_
                    refine EV_dup dX8_craft_177 rfl ?_
                    refine ES_getf (v := .int (nI cc)) dX8_craft_178 fkX8_97 hn (by assumption) (by show some (Value.int (sset (sset (sset (sset (sset (sset (sset σ (14 + 4 + cc) _ _) (14 + 4 + cc) _ _) (14 + 4 + cc) _ _) (14 + 4 + cc) _ _) (14 + 4 + cc) _ _) (14 + 4 + cc) _ _) (14 + 4 + cc) _ _ 14 2)) = _; rw [sset_ne _ _ _ (by omega), sset_ne _ _ _ (by omega), sset_ne _ _ _ (by omega), sset_ne _ _ _ (by omega), sset_ne _ _ _ (by omega), sset_ne _ _ _ (by omega), sset_ne _ _ _ (by omega), hc]) ?_
                    refine EV_dup_x1 dX8_craft_181 rfl rfl ?_
                    refine EV_iconst (v := 1) dX8_craft_182 (by decide) ?_
                    refine EV_iadd dX8_craft_183 ?_
                    refine ES_put dX8_craft_184 fkX8_97 hn (by assumption) (Nat.le_of_ble_eq_true rfl) (fun _ _ => rfl) rfl rfl ?_
                    exact ES_iret dX8_craft_187 rfl rfl rfl rfl
def addFlightF (σ : qσ) (fc c st : Nat) : qσ :=
  let r := 14 + 10 + 3 * fc
  let σ := sset σ r 0 (nI c)
  let σ := sset σ r 1 (nI st)
  let σ := sset σ r 2 0
  let σ := cpRouteF σ (r + 1) 106
  let σ := sset σ 106 1 0
  sset σ 14 4 (nI fc + 1)
def askV (σ : qσ) (c st fc zc : Nat) : Int32 := if reasonF σ c 106 st fc zc = 0 then nI fc else -1 - reasonF σ c 106 st fc zc
def askS (σ : qσ) (c st fc zc : Nat) : qσ := if reasonF σ c 106 st fc zc = 0 then addFlightF (reasonS σ c 106 st fc zc) fc c st else reasonS σ c 106 st fc zc
set_option maxHeartbeats 16000000 in
theorem sp_ask {c st : Nat} (h : OK σ pc cc fc zc nw dc) (hc : c < cc) (h1 : nw < st) (h2 : st ≤ nw + 2000) (hw : isWayF σ 106 (cntF σ 106) = true) (hf : fc < 12) : SP z (k + 5) mX8_ask [.ref 1, .int (nI c), .int (nI st)] σ (some (.int (askV σ c st fc zc))) (askS σ c st fc zc) := by
  refine SP_of 2 (by decide) (Nat.le_of_ble_eq_true rfl) fun X n hn => ?_
  have hO := o_sky s14
  have hR := h.rt
  have hD := o_draft
  have q1 := hR.cnt
  have h6 := h.1.2.1.2
  have h50 := h.2.2.2.1.2
  have hF := fl_of s14 hf
  have hFO := hF.1
  have e1 : reasonS σ c 106 st fc zc 14 4 = nI fc := by rw [reasonS_pl 14 (by omega)]; exact h.1.2.2.1.1
  refine EV_aload_n dX8_ask_0 rfl ?_
  refine EV_iload_n dX8_ask_1 rfl ?_
  refine ES_callV dX8_ask_2 mkX8_130 mfX8_checkCraft mvX8_checkCraft hn o_air rfl (sp_ckCraft (k := k + 3) h.1 hc) rfl rfl (Nat.le_of_ble_eq_true rfl) ?_
  refine EV_aload_n dX8_ask_5 rfl ?_
  refine EV_iload_n dX8_ask_6 rfl ?_
  refine ES_callV dX8_ask_7 mkX8_146 mfX8_checkStart mvX8_checkStart hn o_air rfl (sp_ckStart (k := k + 3) h.2.2.2.1.1 h.2.2.2.1.2 h1 h2) rfl rfl (Nat.le_of_ble_eq_true rfl) ?_
  refine EV_aload_n dX8_ask_10 rfl ?_
  refine ES_getf dX8_ask_11 fkX8_10 hn o_air rfl ?_
  refine EV_aload_n dX8_ask_14 rfl ?_
  refine ES_getf dX8_ask_15 fkX8_31 hn o_air rfl ?_
  refine ES_callV dX8_ask_18 mkX8_149 mfX2_isWayFromPadToPad mvX2_isWayFromPadToPad hn o_ground rfl (sp_isWay z (k + 2) hR.1 q1.1 (by omega)) rfl rfl (Nat.le_of_ble_eq_true rfl) ?_
  refine EV_if_eq 40 dX8_ask_21 (by decide) (fun c21 => ?_) (fun c21 => ?_)
  · skip
    exact absurd c21 (bI_ne0 hw)
  · skip
    refine EV_aload_n dX8_ask_24 rfl ?_
    refine ES_getf dX8_ask_25 fkX8_21 hn o_air rfl ?_
    refine ES_getf dX8_ask_28 fkX8_153 hn (by assumption) rfl ?_
    refine EV_bipush (v := 12) dX8_ask_31 (by decide) ?_
    refine EV_icmp_ge 40 dX8_ask_33 (by decide) (fun c33 => ?_) (fun c33 => ?_)
    · skip
      exact absurd c33 (by rw [h.1.2.2.1.1]; exact nI_ge (a := fc) (b := 12) hf (by omega))
    · skip
      refine EV_iconst (v := 1) dX8_ask_36 (by decide) ?_
      refine EV_goto 41 dX8_ask_37 (by decide) ?_
      refine ES_callS dX8_ask_41 mkX8_66 mfX8_checkState msX8_checkState hn (sp_ckState (by decide)) rfl rfl (Nat.le_of_ble_eq_true rfl) ?_
      refine EV_aload_n dX8_ask_44 rfl ?_
      refine ES_getf dX8_ask_45 fkX8_40 hn o_air rfl ?_
      refine EV_iload_n dX8_ask_48 rfl ?_
      refine EV_aload_n dX8_ask_49 rfl ?_
      refine ES_getf dX8_ask_50 fkX8_31 hn o_air rfl ?_
      refine EV_iload_n dX8_ask_53 rfl ?_
      refine ES_callV dX8_ask_54 mkX8_156 mfX3_reasonAgainst mvX3_reasonAgainst hn o_judge rfl (sp_reason (k := k) h.1 hR (by omega) ⟨by omega, by omega⟩) rfl rfl (Nat.le_of_ble_eq_true rfl) ?_
      refine EV_istore_n dX8_ask_57 (Nat.le_of_ble_eq_true rfl) (Nat.le_of_ble_eq_true rfl) rfl ?_
      refine EV_iload_n dX8_ask_58 rfl ?_
      refine EV_if_eq 66 dX8_ask_59 (by decide) (fun c59 => ?_) (fun c59 => ?_)
      · skip
        refine EV_aload_n dX8_ask_66 rfl ?_
        refine ES_getf dX8_ask_67 fkX8_21 hn o_air rfl ?_
        refine ES_getf dX8_ask_70 fkX8_160 hn (by assumption) rfl ?_
        refine EV_aload_n dX8_ask_73 rfl ?_
        refine ES_getf dX8_ask_74 fkX8_21 hn o_air rfl ?_
        refine ES_getf (v := .int (nI fc)) dX8_ask_77 fkX8_153 hn (by assumption) (by show some (Value.int (reasonS σ c 106 st fc zc 14 4)) = _; rw [e1]) ?_
        refine ES_aaldF s14 dX8_ask_80 hn hf ?_
        refine EV_astore dX8_ask_81 (Nat.le_of_ble_eq_true rfl) (Nat.le_of_ble_eq_true rfl) rfl ?_
        refine EV_aload dX8_ask_83 rfl ?_
        refine EV_iload_n dX8_ask_85 rfl ?_
        refine ES_put dX8_ask_86 fkX8_164 hn (by assumption) (Nat.le_of_ble_eq_true rfl) (fun _ _ => rfl) rfl rfl ?_
        refine EV_aload dX8_ask_89 rfl ?_
        refine EV_iload_n dX8_ask_91 rfl ?_
        refine ES_put dX8_ask_92 fkX8_169 hn (by assumption) (Nat.le_of_ble_eq_true rfl) (fun _ _ => rfl) rfl rfl ?_
        refine EV_aload dX8_ask_95 rfl ?_
        refine EV_iconst (v := 0) dX8_ask_97 (by decide) ?_
        refine ES_put dX8_ask_98 fkX8_172 hn (by assumption) (Nat.le_of_ble_eq_true rfl) (fun _ _ => rfl) rfl rfl ?_
        refine EV_aload dX8_ask_101 rfl ?_
        refine ES_getf dX8_ask_103 fkX8_173 hn (by assumption) rfl ?_
        refine EV_aload_n dX8_ask_106 rfl ?_
        refine ES_getf dX8_ask_107 fkX8_31 hn o_air rfl ?_
        refine ES_callV dX8_ask_110 mkX8_176 mfX4_copyFrom mvX4_copyFrom hn hF.2.1 rfl (sp_cpRoute z (k + 3) hF.2 ⟨o_draft, a_draft⟩) rfl rfl (Nat.le_of_ble_eq_true rfl) ?_
        refine EV_aload_n dX8_ask_113 rfl ?_
        refine ES_getf dX8_ask_114 fkX8_31 hn o_air rfl ?_
        refine EV_iconst (v := 0) dX8_ask_117 (by decide) ?_
        refine ES_put dX8_ask_118 fkX8_140 hn (by assumption) (Nat.le_of_ble_eq_true rfl) (fun _ _ => rfl) rfl rfl ?_
        refine EV_aload_n dX8_ask_121 rfl ?_
        refine ES_getf dX8_ask_122 fkX8_21 hn o_air rfl ?_
        refine EV_dup dX8_ask_125 rfl ?_
        refine ES_getf (v := .int (nI fc)) dX8_ask_126 fkX8_153 hn (by assumption) (by show some (Value.int (sset (cpRouteF (sset (sset (sset (reasonS σ c 106 st fc zc) (14 + 10 + 3 * fc) _ _) (14 + 10 + 3 * fc) _ _) (14 + 10 + 3 * fc) _ _) (14 + 10 + 3 * fc + 1) 106) 106 _ _ 14 4)) = _; rw [sset_ne _ _ _ (by omega)]; unfold cpRouteF; rw [sset_ne _ _ _ (by omega), srow_ne _ _ (by omega), sset_ne _ _ _ (by omega), sset_ne _ _ _ (by omega), sset_ne _ _ _ (by omega), e1]) ?_
        refine EV_dup_x1 dX8_ask_129 rfl rfl ?_
        refine EV_iconst (v := 1) dX8_ask_130 (by decide) ?_
        refine EV_iadd dX8_ask_131 ?_
        refine ES_put dX8_ask_132 fkX8_153 hn (by assumption) (Nat.le_of_ble_eq_true rfl) (fun _ _ => rfl) rfl rfl ?_
        exact ES_iret dX8_ask_135 rfl rfl (by simp only [askV, if_neg c21, if_neg c33, if_pos c59]) (by simp only [askS, addFlightF, if_neg c21, if_neg c33, if_pos c59])
      · skip
        refine EV_iconst (v := (-1)) dX8_ask_62 (by decide) ?_
        refine EV_iload_n dX8_ask_63 rfl ?_
        refine EV_isub dX8_ask_64 ?_
        exact ES_iret dX8_ask_65 rfl rfl (by simp only [askV, if_neg c21, if_neg c33, if_neg c59]; try rfl) (by simp only [askS, if_neg c21, if_neg c33, if_neg c59])
def soL (c fc zc nw : Nat) : Nat → Nat → qσ → Int32 × qσ
  | 0, _, σ => (-1, σ)
  | j + 1, i, σ => if reasonF σ c 106 (nw + i) fc zc = 0 then (nI (nw + i), reasonS σ c 106 (nw + i) fc zc) else soL c fc zc nw j (i + 1) (reasonS σ c 106 (nw + i) fc zc)
set_option maxHeartbeats 8000000 in
theorem lp_soonest {X : qM} {n c : Nat} (hn : 112 ≤ n) (hc : c < cc) : ∀ (j i : Nat) (σ : qσ), OK σ pc cc fc zc nw dc → 1 ≤ i → i + j = 201 → EV z (k + 5) mX8_soonest 21 [.ref 1, .int (nI c), .int (nI i)] [] (mm σ X) n 0 0 (qRes (some (.int (soL c fc zc nw j i σ).1)) (mm (soL c fc zc nw j i σ).2 X) n) := by
  have hO := o_sky s14
  intro j
  induction j with
  | zero =>
    intro i σ h hi1 hi
    refine EV_iload_n dX8_soonest_21 rfl ?_
    refine EV_sipush (v := 200) dX8_soonest_22 (by decide) ?_
    refine EV_icmp_gt 68 dX8_soonest_25 (by decide) (fun c25 => ?_) (fun c25 => ?_)
    · skip
      refine EV_iconst (v := (-1)) dX8_soonest_68 (by decide) ?_
      exact ES_iret dX8_soonest_69 rfl rfl rfl rfl
    · skip
      exact absurd (nI_lt (a := 200) (b := i) (by omega) (by omega)) c25
  | succ j ih =>
    intro i σ h hi1 hi
    have h6 := h.1.2.1.2
    have h50 := h.2.2.2.1.2
    have hn8 := h.2.2.2.1.1
    refine EV_iload_n dX8_soonest_21 rfl ?_
    refine EV_sipush (v := 200) dX8_soonest_22 (by decide) ?_
    refine EV_icmp_gt 68 dX8_soonest_25 (by decide) (fun c25 => ?_) (fun c25 => ?_)
    · skip
      exact absurd c25 (nI_nlt (a := 200) (b := i) (by omega) (by omega))
    · skip
      refine EV_aload_n dX8_soonest_28 rfl ?_
      refine ES_getf dX8_soonest_29 fkX8_40 hn o_air rfl ?_
      refine EV_iload_n dX8_soonest_32 rfl ?_
      refine EV_aload_n dX8_soonest_33 rfl ?_
      refine ES_getf dX8_soonest_34 fkX8_31 hn o_air rfl ?_
      refine EV_aload_n dX8_soonest_37 rfl ?_
      refine ES_getf dX8_soonest_38 fkX8_21 hn o_air rfl ?_
      refine ES_getf dX8_soonest_41 fkX8_186 hn (by assumption) rfl ?_
      refine EV_iload_n dX8_soonest_44 rfl ?_
      refine EV_iadd dX8_soonest_45 ?_
      rw [hn8, nI_add]
      refine ES_callV dX8_soonest_46 mkX8_156 mfX3_reasonAgainst mvX3_reasonAgainst hn o_judge rfl (sp_reason (k := k) h.1 h.rt (by omega) ⟨by omega, by omega⟩) rfl rfl (Nat.le_of_ble_eq_true rfl) ?_
      refine EV_if_ne 62 dX8_soonest_49 (by decide) (fun c49 => ?_) (fun c49 => ?_)
      · skip
        refine EV_iinc dX8_soonest_62 rfl (Nat.le_of_ble_eq_true rfl) rfl ?_
        refine EV_goto 21 dX8_soonest_65 (by decide) ?_
        rw [show nI i + Int32.ofInt 1 = nI (i + 1) from (nI_succ i).symm]
        simp only [soL, if_neg c25, if_neg c49]
        exact ih (i + 1) _ (h.pl reasonS_pl) (by omega) (by omega)
      · skip
        refine EV_aload_n dX8_soonest_52 rfl ?_
        refine ES_getf dX8_soonest_53 fkX8_21 hn o_air rfl ?_
        refine ES_getf (v := .int (nI nw)) dX8_soonest_56 fkX8_186 hn (by assumption) (by show some (Value.int (reasonS σ c 106 (nw + i) fc zc 14 8)) = _; rw [reasonS_pl 14 (by omega), hn8]) ?_
        refine EV_iload_n dX8_soonest_59 rfl ?_
        refine EV_iadd dX8_soonest_60 ?_
        exact ES_iret dX8_soonest_61 rfl rfl (by simp only [soL, if_neg c25, if_pos c49, nI_add]) (by simp only [soL, if_neg c25, if_pos c49])
theorem sp_soonest {c : Nat} (h : OK σ pc cc fc zc nw dc) (hc : c < cc) (hw : isWayF σ 106 (cntF σ 106) = true) : SP z (k + 5) mX8_soonest [.ref 1, .int (nI c)] σ (some (.int (soL c fc zc nw 200 1 σ).1)) (soL c fc zc nw 200 1 σ).2 := by
  refine SP_of 1 (by decide) (Nat.le_of_ble_eq_true rfl) fun X n hn => ?_
  have hR := h.rt
  have q1 := hR.cnt
  refine EV_aload_n dX8_soonest_0 rfl ?_
  refine EV_iload_n dX8_soonest_1 rfl ?_
  refine ES_callV dX8_soonest_2 mkX8_130 mfX8_checkCraft mvX8_checkCraft hn o_air rfl (sp_ckCraft (k := k + 3) h.1 hc) rfl rfl (Nat.le_of_ble_eq_true rfl) ?_
  refine EV_aload_n dX8_soonest_5 rfl ?_
  refine ES_getf dX8_soonest_6 fkX8_10 hn o_air rfl ?_
  refine EV_aload_n dX8_soonest_9 rfl ?_
  refine ES_getf dX8_soonest_10 fkX8_31 hn o_air rfl ?_
  refine ES_callV dX8_soonest_13 mkX8_149 mfX2_isWayFromPadToPad mvX2_isWayFromPadToPad hn o_ground rfl (sp_isWay z (k + 2) hR.1 q1.1 (by omega)) rfl rfl (Nat.le_of_ble_eq_true rfl) ?_
  refine ES_callS dX8_soonest_16 mkX8_66 mfX8_checkState msX8_checkState hn (sp_ckState (bI_ne0 hw)) rfl rfl (Nat.le_of_ble_eq_true rfl) ?_
  refine EV_iconst (v := 1) dX8_soonest_19 (by decide) ?_
  refine EV_istore_n dX8_soonest_20 (Nat.le_of_ble_eq_true rfl) (Nat.le_of_ble_eq_true rfl) rfl ?_
  exact lp_soonest hn hc 200 1 σ h (by omega) rfl
theorem sp_fewest {rc : Nat} (hW : WF σ 14 cc fc zc) (hC : isO 0 rc) {tg : Int32} (htg : vp_in tg 25) (now : Int32) : SP z (k + 5) mX5_fewestMoves [.ref 110, .ref rc, .int tg, .int now] σ (some (.int (leastF σ rc zc tg now false))) (leastS σ rc zc now false) := by
  refine SP_of 0 (by decide) (Nat.le_of_ble_eq_true rfl) fun X n hn => ?_
  refine EV_aload_n dX5_fewestMoves_0 rfl ?_
  refine EV_aload_n dX5_fewestMoves_1 rfl ?_
  refine EV_iload_n dX5_fewestMoves_2 rfl ?_
  refine EV_iload_n dX5_fewestMoves_3 rfl ?_
  refine EV_iconst (v := 0) dX5_fewestMoves_4 (by decide) ?_
  refine ES_callV dX5_fewestMoves_5 mkX5_23 mfX5_least mvX5_least hn o_search rfl (sp_least (k := k) hW hC htg now false) rfl rfl (Nat.le_of_ble_eq_true rfl) ?_
  exact ES_iret dX5_fewestMoves_8 rfl rfl rfl rfl
theorem sp_leastCh {rc : Nat} (hW : WF σ 14 cc fc zc) (hC : isO 0 rc) {tg : Int32} (htg : vp_in tg 25) (now : Int32) : SP z (k + 5) mX5_leastCharge [.ref 110, .ref rc, .int tg, .int now] σ (some (.int (leastF σ rc zc tg now true))) (leastS σ rc zc now true) := by
  refine SP_of 0 (by decide) (Nat.le_of_ble_eq_true rfl) fun X n hn => ?_
  refine EV_aload_n dX5_leastCharge_0 rfl ?_
  refine EV_aload_n dX5_leastCharge_1 rfl ?_
  refine EV_iload_n dX5_leastCharge_2 rfl ?_
  refine EV_iload_n dX5_leastCharge_3 rfl ?_
  refine EV_iconst (v := 1) dX5_leastCharge_4 (by decide) ?_
  refine ES_callV dX5_leastCharge_5 mkX5_23 mfX5_least mvX5_least hn o_search rfl (sp_least (k := k) hW hC htg now true) rfl rfl (Nat.le_of_ble_eq_true rfl) ?_
  exact ES_iret dX5_leastCharge_8 rfl rfl rfl rfl
theorem sp_way {i t : Nat} (hW : WF σ 14 cc fc zc) (hi : i < cc) (ht : t < 25) : SP z (k + 6) mX8_way [.ref 1, .int (nI i), .int (nI t)] σ (some (.int (leastF σ (14 + 4 + i) zc (nI t) (σ 14 8) false))) (leastS σ (14 + 4 + i) zc (σ 14 8) false) := by
  refine SP_of 0 (by decide) (Nat.le_of_ble_eq_true rfl) fun X n hn => ?_
  have hO := o_sky s14
  have h6 := hW.2.1.2
  have hC := o_craft s14 (show i < 6 by omega)
  have hin : vp_in (nI t) 25 := vp_in_nI ht (by omega)
  refine EV_aload_n dX8_way_0 rfl ?_
  refine EV_iload_n dX8_way_1 rfl ?_
  refine ES_callV dX8_way_2 mkX8_130 mfX8_checkCraft mvX8_checkCraft hn o_air rfl (sp_ckCraft (k := k + 4) hW hi) rfl rfl (Nat.le_of_ble_eq_true rfl) ?_
  refine EV_iload_n dX8_way_5 rfl ?_
  refine ES_callS dX8_way_6 mkX8_51 mfX8_checkCell msX8_checkCell hn (sp_ckCell (k := k + 4) hin) rfl rfl (Nat.le_of_ble_eq_true rfl) ?_
  refine EV_aload_n dX8_way_9 rfl ?_
  refine ES_getf dX8_way_10 fkX8_47 hn o_air rfl ?_
  refine EV_aload_n dX8_way_13 rfl ?_
  refine ES_getf dX8_way_14 fkX8_21 hn o_air rfl ?_
  refine ES_getf dX8_way_17 fkX8_100 hn (by assumption) rfl ?_
  refine EV_iload_n dX8_way_20 rfl ?_
  refine ES_aaldC s14 dX8_way_21 hn (by omega) ?_
  refine EV_iload_n dX8_way_22 rfl ?_
  refine EV_aload_n dX8_way_23 rfl ?_
  refine ES_getf dX8_way_24 fkX8_21 hn o_air rfl ?_
  refine ES_getf dX8_way_27 fkX8_186 hn (by assumption) rfl ?_
  refine ES_callV dX8_way_30 mkX8_245 mfX5_fewestMoves mvX5_fewestMoves hn o_search rfl (sp_fewest (k := k) hW hC hin _) rfl rfl (Nat.le_of_ble_eq_true rfl) ?_
  exact ES_iret dX8_way_33 rfl rfl rfl rfl
theorem sp_cost {i t : Nat} (hW : WF σ 14 cc fc zc) (hi : i < cc) (ht : t < 25) : SP z (k + 6) mX8_cost [.ref 1, .int (nI i), .int (nI t)] σ (some (.int (leastF σ (14 + 4 + i) zc (nI t) (σ 14 8) true))) (leastS σ (14 + 4 + i) zc (σ 14 8) true) := by
  refine SP_of 0 (by decide) (Nat.le_of_ble_eq_true rfl) fun X n hn => ?_
  have hO := o_sky s14
  have h6 := hW.2.1.2
  have hC := o_craft s14 (show i < 6 by omega)
  have hin : vp_in (nI t) 25 := vp_in_nI ht (by omega)
  refine EV_aload_n dX8_cost_0 rfl ?_
  refine EV_iload_n dX8_cost_1 rfl ?_
  refine ES_callV dX8_cost_2 mkX8_130 mfX8_checkCraft mvX8_checkCraft hn o_air rfl (sp_ckCraft (k := k + 4) hW hi) rfl rfl (Nat.le_of_ble_eq_true rfl) ?_
  refine EV_iload_n dX8_cost_5 rfl ?_
  refine ES_callS dX8_cost_6 mkX8_51 mfX8_checkCell msX8_checkCell hn (sp_ckCell (k := k + 4) hin) rfl rfl (Nat.le_of_ble_eq_true rfl) ?_
  refine EV_aload_n dX8_cost_9 rfl ?_
  refine ES_getf dX8_cost_10 fkX8_47 hn o_air rfl ?_
  refine EV_aload_n dX8_cost_13 rfl ?_
  refine ES_getf dX8_cost_14 fkX8_21 hn o_air rfl ?_
  refine ES_getf dX8_cost_17 fkX8_100 hn (by assumption) rfl ?_
  refine EV_iload_n dX8_cost_20 rfl ?_
  refine ES_aaldC s14 dX8_cost_21 hn (by omega) ?_
  refine EV_iload_n dX8_cost_22 rfl ?_
  refine EV_aload_n dX8_cost_23 rfl ?_
  refine ES_getf dX8_cost_24 fkX8_21 hn o_air rfl ?_
  refine ES_getf dX8_cost_27 fkX8_186 hn (by assumption) rfl ?_
  refine ES_callV dX8_cost_30 mkX8_249 mfX5_leastCharge mvX5_leastCharge hn o_search rfl (sp_leastCh (k := k) hW hC hin _) rfl rfl (Nat.le_of_ble_eq_true rfl) ?_
  exact ES_iret dX8_cost_33 rfl rfl rfl rfl
end As
end
section
/-! ===== the mean of charges; the mixing of a checksum ===== -/
theorem sp_mixed (z : qZ) (k : Nat) {σ : qσ} (d : Int64) (v : Int32) : SP z k mX8_mixed [.long d, .int v] σ (some (.long (d * 31 + v.toInt64))) σ := by
  refine SP_of 0 (by decide) (Nat.le_of_ble_eq_true rfl) fun X n hn => ?_
  refine EV_lload_n dX8_mixed_0 rfl ?_
  refine EV_ldc2 dX8_mixed_1 kkX8_291 ?_
  refine EV_lmul dX8_mixed_4 ?_
  refine EV_iload_n dX8_mixed_5 rfl ?_
  refine EV_i2l dX8_mixed_6 ?_
  refine EV_ladd dX8_mixed_7 ?_
  exact ES_lret dX8_mixed_8 rfl rfl rfl
def mcL (σ : qσ) : Nat → Nat → UInt64 → UInt64
  | 0, _, s => s
  | j + 1, i, s => if σ (14 + 4 + i) 3 ≤ 0 then mcL σ j (i + 1) s else mcL σ j (i + 1) (FP.dadd s (FP.ddiv (FP.i2d (σ (14 + 4 + i) 4)) (FP.i2d (σ (14 + 4 + i) 3))))
/-- no NaN comes on the way -/
def mcOK (σ : qσ) : Nat → Nat → UInt64 → Prop
  | 0, _, s => vf_n64 (FP.ddiv s (FP.i2d (σ 14 2)))
  | j + 1, i, s => ¬ σ (14 + 4 + i) 3 ≤ 0 ∧ vf_n64 (FP.ddiv (FP.i2d (σ (14 + 4 + i) 4)) (FP.i2d (σ (14 + 4 + i) 3))) ∧ vf_n64 (FP.dadd s (FP.ddiv (FP.i2d (σ (14 + 4 + i) 4)) (FP.i2d (σ (14 + 4 + i) 3)))) ∧ mcOK σ j (i + 1) (FP.dadd s (FP.ddiv (FP.i2d (σ (14 + 4 + i) 4)) (FP.i2d (σ (14 + 4 + i) 3))))
section Mc
variable {z : qZ} {k : Nat} {σ : qσ} {cc fc zc : Nat}
set_option maxHeartbeats 8000000 in
theorem lp_mean {X : qM} {n : Nat} (hn : 112 ≤ n) (hW : WF σ 14 cc fc zc) (h0 : 0 < cc) : ∀ (j i : Nat) (s : UInt64) (w4 : Value), w4.category = 1 → i + j = cc → mcOK σ j i s → EV z k mX8_meanCharge 4 [.ref 1, .double s, .null, .int (nI i), w4] [] (mm σ X) n 0 0 (qRes (some (.double (FP.ddiv (mcL σ j i s) (FP.i2d (σ 14 2))))) (mm σ X) n) := by
  have hO := o_sky s14
  have hc := hW.2.1
  intro j
  induction j with
  | zero =>
    intro i s w4 h4 hi hk
    refine EV_iload_n dX8_meanCharge_4 rfl ?_
    refine EV_aload_n dX8_meanCharge_5 rfl ?_
    refine ES_getf dX8_meanCharge_6 fkX8_21 hn o_air rfl ?_
    refine ES_getf dX8_meanCharge_9 fkX8_97 hn (by assumption) rfl ?_
    refine EV_icmp_ge 56 dX8_meanCharge_12 (by decide) (fun c12 => ?_) (fun c12 => ?_)
    · skip
      refine EV_aload_n dX8_meanCharge_56 rfl ?_
      refine ES_getf dX8_meanCharge_57 fkX8_21 hn o_air rfl ?_
      refine ES_getf dX8_meanCharge_60 fkX8_97 hn (by assumption) rfl ?_
      refine EV_if_le 79 dX8_meanCharge_63 (by decide) (fun c63 => ?_) (fun c63 => ?_)
      · skip
        exact absurd c63 (by rw [hc.1]; exact nI_nle h0 (by omega))
      · skip
        refine EV_dload_n dX8_meanCharge_66 rfl ?_
        refine EV_aload_n dX8_meanCharge_67 rfl ?_
        refine ES_getf dX8_meanCharge_68 fkX8_21 hn o_air rfl ?_
        refine ES_getf dX8_meanCharge_71 fkX8_97 hn (by assumption) rfl ?_
        refine EV_i2d dX8_meanCharge_74 ?_
        refine EV_ddiv dX8_meanCharge_75 hk ?_
        refine EV_goto 80 dX8_meanCharge_76 (by decide) ?_
        exact ES_dret dX8_meanCharge_80 rfl rfl rfl
    · skip
      exact absurd (by rw [hc.1]; exact nI_le (by omega) (by omega)) c12
  | succ j ih =>
    intro i s w4 h4 hi hk
    obtain ⟨k1, k2, k3, k4⟩ := hk
    have hC := o_craft s14 (show i < 6 by omega)
    refine EV_iload_n dX8_meanCharge_4 rfl ?_
    refine EV_aload_n dX8_meanCharge_5 rfl ?_
    refine ES_getf dX8_meanCharge_6 fkX8_21 hn o_air rfl ?_
    refine ES_getf dX8_meanCharge_9 fkX8_97 hn (by assumption) rfl ?_
    refine EV_icmp_ge 56 dX8_meanCharge_12 (by decide) (fun c12 => ?_) (fun c12 => ?_)
    · skip
      exact absurd c12 (by rw [hc.1]; exact nI_ge (by omega) (by omega))
    · skip
      refine EV_aload_n dX8_meanCharge_15 rfl ?_
      refine ES_getf dX8_meanCharge_16 fkX8_21 hn o_air rfl ?_
      refine ES_getf dX8_meanCharge_19 fkX8_100 hn (by assumption) rfl ?_
      refine EV_iload_n dX8_meanCharge_22 rfl ?_
      refine ES_aaldC s14 dX8_meanCharge_23 hn (by omega) ?_
      refine EV_astore dX8_meanCharge_24 (Nat.le_of_ble_eq_true rfl) (Nat.le_of_ble_eq_true rfl) rfl ?_
      refine EV_aload dX8_meanCharge_26 rfl ?_
      refine ES_getf dX8_meanCharge_28 fkX8_118 hn (by assumption) rfl ?_
      refine EV_if_le 50 dX8_meanCharge_31 (by decide) (fun c31 => ?_) (fun c31 => ?_)
      · skip
        exact absurd c31 k1
      · skip
        refine EV_dload_n dX8_meanCharge_34 rfl ?_
        refine EV_aload dX8_meanCharge_35 rfl ?_
        refine ES_getf dX8_meanCharge_37 fkX8_121 hn (by assumption) rfl ?_
        refine EV_i2d dX8_meanCharge_40 ?_
        refine EV_aload dX8_meanCharge_41 rfl ?_
        refine ES_getf dX8_meanCharge_43 fkX8_118 hn (by assumption) rfl ?_
        refine EV_i2d dX8_meanCharge_46 ?_
        refine EV_ddiv dX8_meanCharge_47 k2 ?_
        refine EV_dadd dX8_meanCharge_48 k3 ?_
        refine EV_dstore_n dX8_meanCharge_49 (Nat.le_of_ble_eq_true rfl) (Nat.le_of_ble_eq_true rfl) rfl ?_
        refine EV_iinc dX8_meanCharge_50 rfl (Nat.le_of_ble_eq_true rfl) rfl ?_
        refine EV_goto 4 dX8_meanCharge_53 (by decide) ?_
        rw [show nI i + Int32.ofInt 1 = nI (i + 1) from (nI_succ i).symm, mcL, if_neg k1]
        exact ih (i + 1) _ _ rfl (by omega) k4
theorem sp_mean (hW : WF σ 14 cc fc zc) (h0 : 0 < cc) (hk : mcOK σ cc 0 FP.dconst0) : SP z k mX8_meanCharge [.ref 1] σ (some (.double (FP.ddiv (mcL σ cc 0 FP.dconst0) (FP.i2d (σ 14 2))))) σ := by
  refine SP_of 4 (by decide) (Nat.le_of_ble_eq_true rfl) fun X n hn => ?_
  refine EV_dconst0 dX8_meanCharge_0 ?_
  refine EV_dstore_n dX8_meanCharge_1 (Nat.le_of_ble_eq_true rfl) (Nat.le_of_ble_eq_true rfl) rfl ?_
  refine EV_iconst (v := 0) dX8_meanCharge_2 (by decide) ?_
  refine EV_istore_n dX8_meanCharge_3 (Nat.le_of_ble_eq_true rfl) (Nat.le_of_ble_eq_true rfl) rfl ?_
  exact lp_mean hn hW h0 cc 0 _ _ rfl (by omega) hk
end Mc
end
section
/-! ===== from nothing to the numbered state: the constructors ===== -/
theorem qset_ne (M : qM) {r k : Nat} (e : qE) (h : k ≠ r) : qset M r e k = M k := by simp [qset, h]
section Ctor
variable {z : qZ} {k : Nat} {y : qY} {pc : Nat} {Lc st : List Value} {M : qM} {n bc bs : Nat} {Q : qQ}
theorem EV_newI {cnt : Int32} {len : Nat} (hd : decode y.2.1 pc = .ok (.newarray .int, 2)) (hn : ¬ cnt < 0) (hN : cnt.toNatClampNeg = len) (hb : len * 4 ≤ 536870912)
    (kk : EV z k y (pc + 2) Lc (.ref (n + 1) :: st) (qset M (n + 1) (.inl (0, len, .inl (fun _ => 0)))) (n + 1) bc bs Q) : EV z k y pc Lc (.int cnt :: st) M n (bc + 1) (bs + len) Q :=
  EV_newarr (t := 0) (ty := .int) (a0 := (len, .inl (fun _ => 0))) hd rfl ai (fun _ => rfl) (fun _ _ h => h) (fun _ _ => rfl) hn hN hb kk
theorem EV_newZ {cnt : Int32} {len : Nat} (hd : decode y.2.1 pc = .ok (.newarray .boolean, 2)) (hn : ¬ cnt < 0) (hN : cnt.toNatClampNeg = len) (hb : len * 1 ≤ 536870912)
    (kk : EV z k y (pc + 2) Lc (.ref (n + 1) :: st) (qset M (n + 1) (.inl (1, len, .inl (fun _ => 0)))) (n + 1) bc bs Q) : EV z k y pc Lc (.int cnt :: st) M n (bc + 1) (bs + len) Q :=
  EV_newarr (t := 1) (ty := .boolean) (a0 := (len, .inl (fun _ => 0))) hd rfl az (fun _ => rfl) (fun _ _ h => h) (fun _ _ => rfl) hn hN hb kk
/-- the memory matters where cells are -/
theorem EV_mem {M' : qM} (h : ∀ k, 0 < k → k ≤ n → M k = M' k) (kk : EV z k y pc Lc st M' n bc bs Q) : EV z k y pc Lc st M n bc bs Q := by
  intro p l e R s m args below meth c D cA b B tc ts Qf C H locs cells slots ls h1 h2 hR hS hl
  refine kk p l e R s m args below meth c D cA b B tc ts Qf C H locs cells slots ls h1 h2 ?_ hS hl
  have e1 : qw (qad b B) cA M n = qw (qad b B) cA M' n := by
    unfold qw
    apply List.map_congr_left
    intro i hi
    have := List.mem_range.mp hi
    rw [h (i + 1) (by omega) (by omega)]
  unfold qR at hR ⊢
  rw [← e1]
  exact hR
theorem EV_more {bc' bs' : Nat} (h1 : bc ≤ bc') (h2 : bs ≤ bs') (kk : EV z k y pc Lc st M n bc bs Q) : EV z k y pc Lc st M n bc' bs' Q := by
  intro p l e R s m args below meth c D cA b B tc ts Qf C H locs cells slots ls g1 g2 hR hS hl
  refine W.widen (k := cells + (bc' - bc)) (n := slots + (bs' - bs)) (by omega) (by omega) ?_
  exact kk p l e R s m args below meth c D cA b B tc ts Qf C H locs _ _ ls (by omega) (by omega) hR hS hl
def bl0 : List Value := [.int 0, .int 0, .int 0, .int 0, .int 0, .int 0, .int 0, .int 0, .int 0, .int 0, .int 0, .int 0]
def bl1 : List Value := [.int 0, .int 0, .int 0, .null]
def bl2 : List Value := [.null, .null, .null, .null, .int 0, .null, .int 0, .int 0, .int 0]
def bl3 : List Value := [.null, .null, .null]
def bl4 : List Value := [.null, .int 0]
def bl6 : List Value := [.null, .null, .int 0, .null, .int 0, .null, .int 0, .int 0, .int 0]
def bl7 : List Value := [.int 0, .int 0, .int 0, .int 0]
def bl8 : List Value := [.null, .null, .null, .null, .null, .null]
theorem nf0 : ∀ j, j < 12 → ∀ ty, parseFieldDescriptor (TX0 j).2.2.1 = some ty → ∀ f : Nat → Nat, defaultValue ty = vp_V (bl0.map (qv f)) j := by
  intro j hj ty h f
  rw [Option.some.inj (h.symm.trans (tyX0_ok j hj))]
  rcases (show j = 0 ∨ j = 1 ∨ j = 2 ∨ j = 3 ∨ j = 4 ∨ j = 5 ∨ j = 6 ∨ j = 7 ∨ j = 8 ∨ j = 9 ∨ j = 10 ∨ j = 11 by omega) with rfl | rfl | rfl | rfl | rfl | rfl | rfl | rfl | rfl | rfl | rfl | rfl <;> rfl
theorem nf1 : ∀ j, j < 4 → ∀ ty, parseFieldDescriptor (TX1 j).2.2.1 = some ty → ∀ f : Nat → Nat, defaultValue ty = vp_V (bl1.map (qv f)) j := by
  intro j hj ty h f
  rw [Option.some.inj (h.symm.trans (tyX1_ok j hj))]
  rcases (show j = 0 ∨ j = 1 ∨ j = 2 ∨ j = 3 by omega) with rfl | rfl | rfl | rfl <;> rfl
theorem nf2 : ∀ j, j < 9 → ∀ ty, parseFieldDescriptor (TX2 j).2.2.1 = some ty → ∀ f : Nat → Nat, defaultValue ty = vp_V (bl2.map (qv f)) j := by
  intro j hj ty h f
  rw [Option.some.inj (h.symm.trans (tyX2_ok j hj))]
  rcases (show j = 0 ∨ j = 1 ∨ j = 2 ∨ j = 3 ∨ j = 4 ∨ j = 5 ∨ j = 6 ∨ j = 7 ∨ j = 8 by omega) with rfl | rfl | rfl | rfl | rfl | rfl | rfl | rfl | rfl <;> rfl
theorem nf3 : ∀ j, j < 3 → ∀ ty, parseFieldDescriptor (TX3 j).2.2.1 = some ty → ∀ f : Nat → Nat, defaultValue ty = vp_V (bl3.map (qv f)) j := by
  intro j hj ty h f
  rw [Option.some.inj (h.symm.trans (tyX3_ok j hj))]
  rcases (show j = 0 ∨ j = 1 ∨ j = 2 by omega) with rfl | rfl | rfl <;> rfl
theorem nf4 : ∀ j, j < 2 → ∀ ty, parseFieldDescriptor (TX4 j).2.2.1 = some ty → ∀ f : Nat → Nat, defaultValue ty = vp_V (bl4.map (qv f)) j := by
  intro j hj ty h f
  rw [Option.some.inj (h.symm.trans (tyX4_ok j hj))]
  rcases (show j = 0 ∨ j = 1 by omega) with rfl | rfl <;> rfl
theorem nf6 : ∀ j, j < 9 → ∀ ty, parseFieldDescriptor (TX6 j).2.2.1 = some ty → ∀ f : Nat → Nat, defaultValue ty = vp_V (bl6.map (qv f)) j := by
  intro j hj ty h f
  rw [Option.some.inj (h.symm.trans (tyX6_ok j hj))]
  rcases (show j = 0 ∨ j = 1 ∨ j = 2 ∨ j = 3 ∨ j = 4 ∨ j = 5 ∨ j = 6 ∨ j = 7 ∨ j = 8 by omega) with rfl | rfl | rfl | rfl | rfl | rfl | rfl | rfl | rfl <;> rfl
theorem nf7 : ∀ j, j < 4 → ∀ ty, parseFieldDescriptor (TX7 j).2.2.1 = some ty → ∀ f : Nat → Nat, defaultValue ty = vp_V (bl7.map (qv f)) j := by
  intro j hj ty h f
  rw [Option.some.inj (h.symm.trans (tyX7_ok j hj))]
  rcases (show j = 0 ∨ j = 1 ∨ j = 2 ∨ j = 3 by omega) with rfl | rfl | rfl | rfl <;> rfl
theorem nf8 : ∀ j, j < 6 → ∀ ty, parseFieldDescriptor (TX8 j).2.2.1 = some ty → ∀ f : Nat → Nat, defaultValue ty = vp_V (bl8.map (qv f)) j := by
  intro j hj ty h f
  rw [Option.some.inj (h.symm.trans (tyX8_ok j hj))]
  rcases (show j = 0 ∨ j = 1 ∨ j = 2 ∨ j = 3 ∨ j = 4 ∨ j = 5 by omega) with rfl | rfl | rfl | rfl | rfl | rfl <;> rfl
theorem nf5 : ∀ j, j < 3 → ∀ ty, parseFieldDescriptor (TX5 j).2.2.1 = some ty → ∀ f : Nat → Nat, defaultValue ty = vp_V (bl3.map (qv f)) j := by
  intro j hj ty h f
  rw [Option.some.inj (h.symm.trans (tyX5_ok j hj))]
  rcases (show j = 0 ∨ j = 1 ∨ j = 2 by omega) with rfl | rfl | rfl <;> rfl
/-- what a craft is at first -/
def crI (j : Nat) : Int32 := if j = 6 then 1 else if j = 9 then -1 else if j = 11 then -1 else 0
theorem ct_crI {r : Nat} (hr : 0 < r ∧ r ≤ n) (hM : M r = .inr (0, bl0)) : CT z (k + 1) mX0_init [.ref r] M n 0 0 (qRes none (qset M r (.inr (0, oF 0 r crI))) n) := by
  refine CT_of 0 (by decide) (Nat.le_of_ble_eq_true rfl) ?_
  refine EV_aload_n dX0_init_0 rfl ?_
  refine EV_objInit dX0_init_1 lkX0_3 li_obj lc_obj (Nat.le_of_ble_eq_true rfl) ?_
  refine EV_aload_n dX0_init_4 rfl ?_
  refine EV_iconst (v := 1) dX0_init_5 (by decide) ?_
  refine EV_putf dX0_init_6 fkX0_9 hr hM (Nat.le_of_ble_eq_true rfl) (fun _ => rfl) (fun _ => rfl) ?_
  refine EV_aload_n dX0_init_9 rfl ?_
  refine EV_iconst (v := 0) dX0_init_10 (by decide) ?_
  refine EV_putf dX0_init_11 fkX0_15 hr (qset_at _ _ _) (Nat.le_of_ble_eq_true rfl) (fun _ => rfl) (fun _ => rfl) ?_
  refine EV_aload_n dX0_init_14 rfl ?_
  refine EV_iconst (v := (-1)) dX0_init_15 (by decide) ?_
  refine EV_putf dX0_init_16 fkX0_19 hr (qset_at _ _ _) (Nat.le_of_ble_eq_true rfl) (fun _ => rfl) (fun _ => rfl) ?_
  refine EV_aload_n dX0_init_19 rfl ?_
  refine EV_iconst (v := (-1)) dX0_init_20 (by decide) ?_
  refine EV_putf dX0_init_21 fkX0_22 hr (qset_at _ _ _) (Nat.le_of_ble_eq_true rfl) (fun _ => rfl) (fun _ => rfl) ?_
  exact EV_vret dX0_init_24 rfl ⟨rfl, by rw [qset_qset, qset_qset, qset_qset]; rfl, rfl⟩
theorem ct_znI {r : Nat} : CT z (k + 1) mX7_init [.ref r] M n 0 0 (qRes none M n) := by
  refine CT_of 0 (by decide) (Nat.le_of_ble_eq_true rfl) ?_
  refine EV_aload_n dX7_init_0 rfl ?_
  refine EV_objInit dX7_init_1 lkX7_3 li_obj lc_obj (Nat.le_of_ble_eq_true rfl) ?_
  exact EV_vret dX7_init_4 rfl ⟨rfl, rfl, rfl⟩
def rtM (M : qM) (n r : Nat) : qM := qset (qset M (n + 1) (.inl (0, 10, .inl (fun _ => 0)))) r (.inr (4, [.ref (n + 1), .int 0]))
theorem ct_rtI {r : Nat} (hr : 0 < r ∧ r ≤ n) (hM : M r = .inr (4, bl4)) : CT z (k + 1) mX4_init [.ref r] M n 1 10 (qRes none (rtM M n r) (n + 1)) := by
  refine CT_of 0 (by decide) (Nat.le_of_ble_eq_true rfl) ?_
  refine EV_aload_n dX4_init_0 rfl ?_
  refine EV_objInit dX4_init_1 lkX4_3 li_obj lc_obj (Nat.le_of_ble_eq_true rfl) ?_
  refine EV_aload_n dX4_init_4 rfl ?_
  refine EV_bipush (v := 10) dX4_init_5 (by decide) ?_
  refine EV_newI (bc := 0) (bs := 0) dX4_init_7 (by decide) (show (10 : Int32).toNatClampNeg = 10 by decide) (by decide) ?_
  refine EV_putfin dX4_init_9 fkX4_9 rfl fkdX4_9 ⟨hr.1, by omega⟩ ((qset_ne _ _ (by omega)).trans hM) (Nat.le_of_ble_eq_true rfl) (fun _ => rfl) (fun _ => rfl) ?_
  exact EV_vret dX4_init_12 rfl ⟨rfl, rfl, rfl⟩
def flM (M : qM) (n r : Nat) : qM := qset (rtM (qset M (n + 1) (.inr (4, bl4))) (n + 1) (n + 1)) r (.inr (1, [.int 0, .int 0, .int 0, .ref (n + 1)]))
theorem ct_flI {r : Nat} (hr : 0 < r ∧ r ≤ n) (hM : M r = .inr (1, bl1)) : CT z (k + 2) mX1_init [.ref r] M n 2 12 (qRes none (flM M n r) (n + 2)) := by
  refine CT_of 0 (by decide) (Nat.le_of_ble_eq_true rfl) ?_
  refine EV_aload_n dX1_init_0 rfl ?_
  refine EV_objInit dX1_init_1 lkX1_3 li_obj lc_obj (Nat.le_of_ble_eq_true rfl) ?_
  refine EV_aload_n dX1_init_4 rfl ?_
  refine EV_new (ci := 4) (fs := bl4) (bc := 1) (bs := 10) dX1_init_5 rfl qcok4 ckX1_9 ciX4 cnX4 nf4 ?_
  refine EV_dup dX1_init_8 rfl ?_
  refine EV_callI (mc := 1) (ms := 10) (bc := 0) (bs := 0) dX1_init_9 mkX1_11 mfX4_init miX4_init (ct_rtI (k := k) ⟨by omega, Nat.le_refl _⟩ (qset_at _ _ _)) rfl rfl (Nat.le_of_ble_eq_true rfl) (fun v M' n' h => ?_)
  obtain ⟨rfl, rfl, rfl⟩ := h
  refine EV_putfin dX1_init_12 fkX1_12 rfl fkdX1_12 ⟨hr.1, by omega⟩ (show rtM _ _ _ r = _ by unfold rtM; rw [qset_ne _ _ (by omega), qset_ne _ _ (by omega), qset_ne _ _ (by omega)]; exact hM) (Nat.le_of_ble_eq_true rfl) (fun _ => rfl) (fun _ => rfl) ?_
  exact EV_vret dX1_init_15 rfl ⟨rfl, rfl, rfl⟩
theorem qAOv (C : String) (hm : Cond.arrayOver (.object C) ∈ qTBL) : ∀ (A : Array Value) (U : State), (∀ w ∈ qTBL, w.before A U = true) → (Cond.arrayOver (.object C)).before A U = true := fun A U h => h _ hm
theorem qAOi (hm : Cond.arrayOver (.array .int) ∈ qTBL) : ∀ (A : Array Value) (U : State), (∀ w ∈ qTBL, w.before A U = true) → (Cond.arrayOver (.array .int)).before A U = true := fun A U h => h _ hm
theorem aoZ : Cond.arrayOver (.object "LowAir$Zone") ∈ qTBL := qm1 34 (by decide +kernel) (by decide +kernel)
theorem aoC : Cond.arrayOver (.object "LowAir$Craft") ∈ qTBL := qm1 109 (by decide +kernel) (by decide +kernel)
theorem aoF : Cond.arrayOver (.object "LowAir$Flight") ∈ qTBL := qm1 111 (by decide +kernel) (by decide +kernel)
theorem aoI : Cond.arrayOver (.array .int) ∈ qTBL := qm4 101 (by decide +kernel) (by decide +kernel)
end Ctor
end
