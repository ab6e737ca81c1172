-- ===== PART A: goes FIRST, ahead of the names: the tables' words, and 'selects' of the private methods out of them =====
/-- a private method of a class that the tables say can be made, by its rows of tables_1 -/
def lw_okq (q : MethodName × Nat) : Prop := (q.1.cls ≠ "java/lang/invoke/MethodHandle" ∧ q.1.cls ≠ "java/lang/invoke/VarHandle") ∧ Cond.instantiable q.1.cls q.2 ∈ tables_1 ∧ Cond.privateMethod q.1 ∈ tables_1 ∧ Cond.instanceMethod q.1 ∈ tables_1
theorem lw_p0 : lw_okq (⟨"TwoBeatsAgo$Floor", "hasPlace", "(I)Z"⟩, 9) := ⟨⟨by decide +kernel, by decide +kernel⟩, List.mem_of_getElem? (i := 59) (by decide +kernel), List.mem_of_getElem? (i := 246) (by decide +kernel), List.mem_of_getElem? (i := 247) (by decide +kernel)⟩
theorem lw_p1 : lw_okq (⟨"TwoBeatsAgo$Floor", "join", "(III)I"⟩, 9) := ⟨⟨by decide +kernel, by decide +kernel⟩, List.mem_of_getElem? (i := 59) (by decide +kernel), List.mem_of_getElem? (i := 250) (by decide +kernel), List.mem_of_getElem? (i := 251) (by decide +kernel)⟩
theorem lw_p2 : lw_okq (⟨"TwoBeatsAgo$Floor", "standAt", "(II)V"⟩, 9) := ⟨⟨by decide +kernel, by decide +kernel⟩, List.mem_of_getElem? (i := 59) (by decide +kernel), List.mem_of_getElem? (i := 254) (by decide +kernel), List.mem_of_getElem? (i := 255) (by decide +kernel)⟩
theorem lw_p3 : lw_okq (⟨"TwoBeatsAgo$Floor", "has", "(I)Z"⟩, 9) := ⟨⟨by decide +kernel, by decide +kernel⟩, List.mem_of_getElem? (i := 59) (by decide +kernel), List.mem_of_getElem? (i := 258) (by decide +kernel), List.mem_of_getElem? (i := 259) (by decide +kernel)⟩
theorem lw_p4 : lw_okq (⟨"TwoBeatsAgo$Hall", "stepFor", "(LTwoBeatsAgo$Floor;I)I"⟩, 7) := ⟨⟨by decide +kernel, by decide +kernel⟩, List.mem_of_getElem? (i := 26) (by decide +kernel), List.mem_of_getElem? (i := 267) (by decide +kernel), List.mem_of_getElem? (i := 268) (by decide +kernel)⟩
theorem lw_p5 : lw_okq (⟨"TwoBeatsAgo$Hall", "holds", "(IILTwoBeatsAgo$Floor;I)Z"⟩, 7) := ⟨⟨by decide +kernel, by decide +kernel⟩, List.mem_of_getElem? (i := 26) (by decide +kernel), List.mem_of_getElem? (i := 271) (by decide +kernel), List.mem_of_getElem? (i := 272) (by decide +kernel)⟩
theorem lw_p6 : lw_okq (⟨"TwoBeatsAgo$Floor", "letterOf", "(II)I"⟩, 9) := ⟨⟨by decide +kernel, by decide +kernel⟩, List.mem_of_getElem? (i := 59) (by decide +kernel), List.mem_of_getElem? (i := 279) (by decide +kernel), List.mem_of_getElem? (i := 280) (by decide +kernel)⟩
theorem lw_p7 : lw_okq (⟨"TwoBeatsAgo$Floor", "goesOf", "(I)I"⟩, 9) := ⟨⟨by decide +kernel, by decide +kernel⟩, List.mem_of_getElem? (i := 59) (by decide +kernel), List.mem_of_getElem? (i := 283) (by decide +kernel), List.mem_of_getElem? (i := 284) (by decide +kernel)⟩
theorem lw_p8 : lw_okq (⟨"TwoBeatsAgo$Floor", "wasOf", "(II)I"⟩, 9) := ⟨⟨by decide +kernel, by decide +kernel⟩, List.mem_of_getElem? (i := 59) (by decide +kernel), List.mem_of_getElem? (i := 288) (by decide +kernel), List.mem_of_getElem? (i := 289) (by decide +kernel)⟩
theorem lw_p9 : lw_okq (⟨"TwoBeatsAgo$Floor", "isLazyNow", "(I)Z"⟩, 9) := ⟨⟨by decide +kernel, by decide +kernel⟩, List.mem_of_getElem? (i := 59) (by decide +kernel), List.mem_of_getElem? (i := 292) (by decide +kernel), List.mem_of_getElem? (i := 293) (by decide +kernel)⟩
theorem lw_p10 : lw_okq (⟨"TwoBeatsAgo$Floor", "follow", "(II)V"⟩, 9) := ⟨⟨by decide +kernel, by decide +kernel⟩, List.mem_of_getElem? (i := 59) (by decide +kernel), List.mem_of_getElem? (i := 307) (by decide +kernel), List.mem_of_getElem? (i := 308) (by decide +kernel)⟩
theorem lw_p11 : lw_okq (⟨"TwoBeatsAgo$HallText", "add", "(C)V"⟩, 3) := ⟨⟨by decide +kernel, by decide +kernel⟩, List.mem_of_getElem? (i := 141) (by decide +kernel), List.mem_of_getElem? (i := 324) (by decide +kernel), List.mem_of_getElem? (i := 325) (by decide +kernel)⟩
theorem lw_p12 : lw_okq (⟨"TwoBeatsAgo$HallText", "readInto", "(LTwoBeatsAgo$Hall;)Z"⟩, 3) := ⟨⟨by decide +kernel, by decide +kernel⟩, List.mem_of_getElem? (i := 141) (by decide +kernel), List.mem_of_getElem? (i := 332) (by decide +kernel), List.mem_of_getElem? (i := 333) (by decide +kernel)⟩
theorem lw_p13 : lw_okq (⟨"TwoBeatsAgo$Hall", "clear", "()V"⟩, 7) := ⟨⟨by decide +kernel, by decide +kernel⟩, List.mem_of_getElem? (i := 26) (by decide +kernel), List.mem_of_getElem? (i := 336) (by decide +kernel), List.mem_of_getElem? (i := 337) (by decide +kernel)⟩
theorem lw_p14 : lw_okq (⟨"TwoBeatsAgo$HallText", "readClause", "(LTwoBeatsAgo$Hall;)Z"⟩, 3) := ⟨⟨by decide +kernel, by decide +kernel⟩, List.mem_of_getElem? (i := 141) (by decide +kernel), List.mem_of_getElem? (i := 340) (by decide +kernel), List.mem_of_getElem? (i := 341) (by decide +kernel)⟩
theorem lw_p15 : lw_okq (⟨"TwoBeatsAgo$HallText", "ahead", "()C"⟩, 3) := ⟨⟨by decide +kernel, by decide +kernel⟩, List.mem_of_getElem? (i := 141) (by decide +kernel), List.mem_of_getElem? (i := 344) (by decide +kernel), List.mem_of_getElem? (i := 345) (by decide +kernel)⟩
def lw_privs_1 : List (MethodName × Nat) := [(⟨"TwoBeatsAgo$Floor", "hasPlace", "(I)Z"⟩, 9), (⟨"TwoBeatsAgo$Floor", "join", "(III)I"⟩, 9), (⟨"TwoBeatsAgo$Floor", "standAt", "(II)V"⟩, 9), (⟨"TwoBeatsAgo$Floor", "has", "(I)Z"⟩, 9), (⟨"TwoBeatsAgo$Hall", "stepFor", "(LTwoBeatsAgo$Floor;I)I"⟩, 7), (⟨"TwoBeatsAgo$Hall", "holds", "(IILTwoBeatsAgo$Floor;I)Z"⟩, 7), (⟨"TwoBeatsAgo$Floor", "letterOf", "(II)I"⟩, 9), (⟨"TwoBeatsAgo$Floor", "goesOf", "(I)I"⟩, 9), (⟨"TwoBeatsAgo$Floor", "wasOf", "(II)I"⟩, 9), (⟨"TwoBeatsAgo$Floor", "isLazyNow", "(I)Z"⟩, 9), (⟨"TwoBeatsAgo$Floor", "follow", "(II)V"⟩, 9), (⟨"TwoBeatsAgo$HallText", "add", "(C)V"⟩, 3), (⟨"TwoBeatsAgo$HallText", "readInto", "(LTwoBeatsAgo$Hall;)Z"⟩, 3), (⟨"TwoBeatsAgo$Hall", "clear", "()V"⟩, 7), (⟨"TwoBeatsAgo$HallText", "readClause", "(LTwoBeatsAgo$Hall;)Z"⟩, 3), (⟨"TwoBeatsAgo$HallText", "ahead", "()C"⟩, 3)]
theorem lw_r1 : ∀ q ∈ lw_privs_1, lw_okq q := List.forall_mem_cons.mpr ⟨lw_p0, List.forall_mem_cons.mpr ⟨lw_p1, List.forall_mem_cons.mpr ⟨lw_p2, List.forall_mem_cons.mpr ⟨lw_p3, List.forall_mem_cons.mpr ⟨lw_p4, List.forall_mem_cons.mpr ⟨lw_p5, List.forall_mem_cons.mpr ⟨lw_p6, List.forall_mem_cons.mpr ⟨lw_p7, List.forall_mem_cons.mpr ⟨lw_p8, List.forall_mem_cons.mpr ⟨lw_p9, List.forall_mem_cons.mpr ⟨lw_p10, List.forall_mem_cons.mpr ⟨lw_p11, List.forall_mem_cons.mpr ⟨lw_p12, List.forall_mem_cons.mpr ⟨lw_p13, List.forall_mem_cons.mpr ⟨lw_p14, List.forall_mem_cons.mpr ⟨lw_p15, fun _ h => absurd h List.not_mem_nil⟩⟩⟩⟩⟩⟩⟩⟩⟩⟩⟩⟩⟩⟩⟩⟩
theorem lw_p16 : lw_okq (⟨"TwoBeatsAgo$HallText", "takesAll", "(Ljava/lang/String;)Z"⟩, 3) := ⟨⟨by decide +kernel, by decide +kernel⟩, List.mem_of_getElem? (i := 141) (by decide +kernel), List.mem_of_getElem? (i := 355) (by decide +kernel), List.mem_of_getElem? (i := 356) (by decide +kernel)⟩
theorem lw_p17 : lw_okq (⟨"TwoBeatsAgo$HallText", "takes", "(C)Z"⟩, 3) := ⟨⟨by decide +kernel, by decide +kernel⟩, List.mem_of_getElem? (i := 141) (by decide +kernel), List.mem_of_getElem? (i := 407) (by decide +kernel), List.mem_of_getElem? (i := 408) (by decide +kernel)⟩
theorem lw_p18 : lw_okq (⟨"TwoBeatsAgo$HallText", "readNumber", "()I"⟩, 3) := ⟨⟨by decide +kernel, by decide +kernel⟩, List.mem_of_getElem? (i := 141) (by decide +kernel), List.mem_of_getElem? (i := 411) (by decide +kernel), List.mem_of_getElem? (i := 412) (by decide +kernel)⟩
theorem lw_p19 : lw_okq (⟨"TwoBeatsAgo$Hall", "setWide", "(I)V"⟩, 7) := ⟨⟨by decide +kernel, by decide +kernel⟩, List.mem_of_getElem? (i := 26) (by decide +kernel), List.mem_of_getElem? (i := 415) (by decide +kernel), List.mem_of_getElem? (i := 416) (by decide +kernel)⟩
theorem lw_p20 : lw_okq (⟨"TwoBeatsAgo$HallText", "readAnyOf", "(LTwoBeatsAgo$Hall;I)Z"⟩, 3) := ⟨⟨by decide +kernel, by decide +kernel⟩, List.mem_of_getElem? (i := 141) (by decide +kernel), List.mem_of_getElem? (i := 425) (by decide +kernel), List.mem_of_getElem? (i := 426) (by decide +kernel)⟩
theorem lw_p21 : lw_okq (⟨"TwoBeatsAgo$HallText", "readAllOf", "(LTwoBeatsAgo$Hall;I)Z"⟩, 3) := ⟨⟨by decide +kernel, by decide +kernel⟩, List.mem_of_getElem? (i := 141) (by decide +kernel), List.mem_of_getElem? (i := 429) (by decide +kernel), List.mem_of_getElem? (i := 430) (by decide +kernel)⟩
theorem lw_p22 : lw_okq (⟨"TwoBeatsAgo$HallText", "readOne", "(LTwoBeatsAgo$Hall;I)Z"⟩, 3) := ⟨⟨by decide +kernel, by decide +kernel⟩, List.mem_of_getElem? (i := 141) (by decide +kernel), List.mem_of_getElem? (i := 433) (by decide +kernel), List.mem_of_getElem? (i := 434) (by decide +kernel)⟩
theorem lw_p23 : lw_okq (⟨"TwoBeatsAgo$HallText", "readTest", "(LTwoBeatsAgo$Hall;)Z"⟩, 3) := ⟨⟨by decide +kernel, by decide +kernel⟩, List.mem_of_getElem? (i := 141) (by decide +kernel), List.mem_of_getElem? (i := 437) (by decide +kernel), List.mem_of_getElem? (i := 438) (by decide +kernel)⟩
theorem lw_p24 : lw_okq (⟨"TwoBeatsAgo$Hall", "addCode", "(I)V"⟩, 7) := ⟨⟨by decide +kernel, by decide +kernel⟩, List.mem_of_getElem? (i := 26) (by decide +kernel), List.mem_of_getElem? (i := 501) (by decide +kernel), List.mem_of_getElem? (i := 502) (by decide +kernel)⟩
theorem lw_p25 : lw_okq (⟨"TwoBeatsAgo$Hall", "addStep", "(I)V"⟩, 7) := ⟨⟨by decide +kernel, by decide +kernel⟩, List.mem_of_getElem? (i := 26) (by decide +kernel), List.mem_of_getElem? (i := 505) (by decide +kernel), List.mem_of_getElem? (i := 506) (by decide +kernel)⟩
theorem lw_p26 : lw_okq (⟨"TwoBeatsAgo$Floor", "wrapAll", "()V"⟩, 9) := ⟨⟨by decide +kernel, by decide +kernel⟩, List.mem_of_getElem? (i := 59) (by decide +kernel), List.mem_of_getElem? (i := 509) (by decide +kernel), List.mem_of_getElem? (i := 510) (by decide +kernel)⟩
theorem lw_p27 : lw_okq (⟨"TwoBeatsAgo$Floor", "placesTaken", "()I"⟩, 9) := ⟨⟨by decide +kernel, by decide +kernel⟩, List.mem_of_getElem? (i := 59) (by decide +kernel), List.mem_of_getElem? (i := 518) (by decide +kernel), List.mem_of_getElem? (i := 519) (by decide +kernel)⟩
theorem lw_p28 : lw_okq (⟨"TwoBeatsAgo$Floor", "goBeats", "(I)V"⟩, 9) := ⟨⟨by decide +kernel, by decide +kernel⟩, List.mem_of_getElem? (i := 59) (by decide +kernel), List.mem_of_getElem? (i := 526) (by decide +kernel), List.mem_of_getElem? (i := 527) (by decide +kernel)⟩
theorem lw_p29 : lw_okq (⟨"TwoBeatsAgo$Floor", "goBeat", "(Z)V"⟩, 9) := ⟨⟨by decide +kernel, by decide +kernel⟩, List.mem_of_getElem? (i := 59) (by decide +kernel), List.mem_of_getElem? (i := 530) (by decide +kernel), List.mem_of_getElem? (i := 531) (by decide +kernel)⟩
theorem lw_p30 : lw_okq (⟨"TwoBeatsAgo$Hall", "stopsAfter", "(I)Z"⟩, 7) := ⟨⟨by decide +kernel, by decide +kernel⟩, List.mem_of_getElem? (i := 26) (by decide +kernel), List.mem_of_getElem? (i := 534) (by decide +kernel), List.mem_of_getElem? (i := 535) (by decide +kernel)⟩
theorem lw_p31 : lw_okq (⟨"TwoBeatsAgo", "asksForPlaces", "(I)Z"⟩, 12) := ⟨⟨by decide +kernel, by decide +kernel⟩, List.mem_of_getElem? (i := 18) (by decide +kernel), List.mem_of_getElem? (i := 546) (by decide +kernel), List.mem_of_getElem? (i := 547) (by decide +kernel)⟩
def lw_privs_2 : List (MethodName × Nat) := [(⟨"TwoBeatsAgo$HallText", "takesAll", "(Ljava/lang/String;)Z"⟩, 3), (⟨"TwoBeatsAgo$HallText", "takes", "(C)Z"⟩, 3), (⟨"TwoBeatsAgo$HallText", "readNumber", "()I"⟩, 3), (⟨"TwoBeatsAgo$Hall", "setWide", "(I)V"⟩, 7), (⟨"TwoBeatsAgo$HallText", "readAnyOf", "(LTwoBeatsAgo$Hall;I)Z"⟩, 3), (⟨"TwoBeatsAgo$HallText", "readAllOf", "(LTwoBeatsAgo$Hall;I)Z"⟩, 3), (⟨"TwoBeatsAgo$HallText", "readOne", "(LTwoBeatsAgo$Hall;I)Z"⟩, 3), (⟨"TwoBeatsAgo$HallText", "readTest", "(LTwoBeatsAgo$Hall;)Z"⟩, 3), (⟨"TwoBeatsAgo$Hall", "addCode", "(I)V"⟩, 7), (⟨"TwoBeatsAgo$Hall", "addStep", "(I)V"⟩, 7), (⟨"TwoBeatsAgo$Floor", "wrapAll", "()V"⟩, 9), (⟨"TwoBeatsAgo$Floor", "placesTaken", "()I"⟩, 9), (⟨"TwoBeatsAgo$Floor", "goBeats", "(I)V"⟩, 9), (⟨"TwoBeatsAgo$Floor", "goBeat", "(Z)V"⟩, 9), (⟨"TwoBeatsAgo$Hall", "stopsAfter", "(I)Z"⟩, 7), (⟨"TwoBeatsAgo", "asksForPlaces", "(I)Z"⟩, 12)]
theorem lw_r2 : ∀ q ∈ lw_privs_2, lw_okq q := List.forall_mem_cons.mpr ⟨lw_p16, List.forall_mem_cons.mpr ⟨lw_p17, List.forall_mem_cons.mpr ⟨lw_p18, List.forall_mem_cons.mpr ⟨lw_p19, List.forall_mem_cons.mpr ⟨lw_p20, List.forall_mem_cons.mpr ⟨lw_p21, List.forall_mem_cons.mpr ⟨lw_p22, List.forall_mem_cons.mpr ⟨lw_p23, List.forall_mem_cons.mpr ⟨lw_p24, List.forall_mem_cons.mpr ⟨lw_p25, List.forall_mem_cons.mpr ⟨lw_p26, List.forall_mem_cons.mpr ⟨lw_p27, List.forall_mem_cons.mpr ⟨lw_p28, List.forall_mem_cons.mpr ⟨lw_p29, List.forall_mem_cons.mpr ⟨lw_p30, List.forall_mem_cons.mpr ⟨lw_p31, fun _ h => absurd h List.not_mem_nil⟩⟩⟩⟩⟩⟩⟩⟩⟩⟩⟩⟩⟩⟩⟩⟩
theorem lw_p32 : lw_okq (⟨"TwoBeatsAgo$Floor", "become", "(LTwoBeatsAgo$Floor;)V"⟩, 9) := ⟨⟨by decide +kernel, by decide +kernel⟩, List.mem_of_getElem? (i := 59) (by decide +kernel), List.mem_of_getElem? (i := 550) (by decide +kernel), List.mem_of_getElem? (i := 551) (by decide +kernel)⟩
theorem lw_p33 : lw_okq (⟨"TwoBeatsAgo", "placesAsked", "(I)I"⟩, 12) := ⟨⟨by decide +kernel, by decide +kernel⟩, List.mem_of_getElem? (i := 18) (by decide +kernel), List.mem_of_getElem? (i := 554) (by decide +kernel), List.mem_of_getElem? (i := 555) (by decide +kernel)⟩
theorem lw_p34 : lw_okq (⟨"TwoBeatsAgo$Floor", "standsAs", "(LTwoBeatsAgo$Floor;)Z"⟩, 9) := ⟨⟨by decide +kernel, by decide +kernel⟩, List.mem_of_getElem? (i := 59) (by decide +kernel), List.mem_of_getElem? (i := 563) (by decide +kernel), List.mem_of_getElem? (i := 564) (by decide +kernel)⟩
theorem lw_p35 : lw_okq (⟨"TwoBeatsAgo$Floor", "beatsTillTogether", "(II)I"⟩, 9) := ⟨⟨by decide +kernel, by decide +kernel⟩, List.mem_of_getElem? (i := 59) (by decide +kernel), List.mem_of_getElem? (i := 571) (by decide +kernel), List.mem_of_getElem? (i := 572) (by decide +kernel)⟩
theorem lw_p36 : lw_okq (⟨"TwoBeatsAgo$Floor", "areTogether", "()Z"⟩, 9) := ⟨⟨by decide +kernel, by decide +kernel⟩, List.mem_of_getElem? (i := 59) (by decide +kernel), List.mem_of_getElem? (i := 575) (by decide +kernel), List.mem_of_getElem? (i := 576) (by decide +kernel)⟩
theorem lw_p37 : lw_okq (⟨"TwoBeatsAgo$Floor", "nobodyMoves", "()Z"⟩, 9) := ⟨⟨by decide +kernel, by decide +kernel⟩, List.mem_of_getElem? (i := 59) (by decide +kernel), List.mem_of_getElem? (i := 583) (by decide +kernel), List.mem_of_getElem? (i := 584) (by decide +kernel)⟩
theorem lw_p38 : lw_okq (⟨"TwoBeatsAgo$Floor", "apart", "(II)I"⟩, 9) := ⟨⟨by decide +kernel, by decide +kernel⟩, List.mem_of_getElem? (i := 59) (by decide +kernel), List.mem_of_getElem? (i := 595) (by decide +kernel), List.mem_of_getElem? (i := 596) (by decide +kernel)⟩
theorem lw_p39 : lw_okq (⟨"TwoBeatsAgo$Floor", "beatsAlone", "(II)I"⟩, 9) := ⟨⟨by decide +kernel, by decide +kernel⟩, List.mem_of_getElem? (i := 59) (by decide +kernel), List.mem_of_getElem? (i := 609) (by decide +kernel), List.mem_of_getElem? (i := 610) (by decide +kernel)⟩
theorem lw_p40 : lw_okq (⟨"TwoBeatsAgo$Floor", "isAlone", "(I)Z"⟩, 9) := ⟨⟨by decide +kernel, by decide +kernel⟩, List.mem_of_getElem? (i := 59) (by decide +kernel), List.mem_of_getElem? (i := 613) (by decide +kernel), List.mem_of_getElem? (i := 614) (by decide +kernel)⟩
theorem lw_p41 : lw_okq (⟨"TwoBeatsAgo$Floor", "countStanding", "([I)V"⟩, 9) := ⟨⟨by decide +kernel, by decide +kernel⟩, List.mem_of_getElem? (i := 59) (by decide +kernel), List.mem_of_getElem? (i := 632) (by decide +kernel), List.mem_of_getElem? (i := 633) (by decide +kernel)⟩
theorem lw_p42 : lw_okq (⟨"TwoBeatsAgo$ByHand", "addSeen", "(III)I"⟩, 9) := ⟨⟨by decide +kernel, by decide +kernel⟩, List.mem_of_getElem? (i := 103) (by decide +kernel), List.mem_of_getElem? (i := 640) (by decide +kernel), List.mem_of_getElem? (i := 641) (by decide +kernel)⟩
theorem lw_p43 : lw_okq (⟨"TwoBeatsAgo$ByHand", "allSeenOn", "(LTwoBeatsAgo$Floor;)Z"⟩, 9) := ⟨⟨by decide +kernel, by decide +kernel⟩, List.mem_of_getElem? (i := 103) (by decide +kernel), List.mem_of_getElem? (i := 648) (by decide +kernel), List.mem_of_getElem? (i := 649) (by decide +kernel)⟩
theorem lw_p44 : lw_okq (⟨"TwoBeatsAgo$ByHand", "addStep", "(I)I"⟩, 9) := ⟨⟨by decide +kernel, by decide +kernel⟩, List.mem_of_getElem? (i := 103) (by decide +kernel), List.mem_of_getElem? (i := 670) (by decide +kernel), List.mem_of_getElem? (i := 671) (by decide +kernel)⟩
theorem lw_p45 : lw_okq (⟨"TwoBeatsAgo$ByHand", "danceOn", "(LTwoBeatsAgo$Floor;)V"⟩, 9) := ⟨⟨by decide +kernel, by decide +kernel⟩, List.mem_of_getElem? (i := 103) (by decide +kernel), List.mem_of_getElem? (i := 678) (by decide +kernel), List.mem_of_getElem? (i := 679) (by decide +kernel)⟩
theorem lw_p46 : lw_okq (⟨"TwoBeatsAgo$ByHand", "addRow", "(II)I"⟩, 9) := ⟨⟨by decide +kernel, by decide +kernel⟩, List.mem_of_getElem? (i := 103) (by decide +kernel), List.mem_of_getElem? (i := 690) (by decide +kernel), List.mem_of_getElem? (i := 691) (by decide +kernel)⟩
theorem lw_p47 : lw_okq (⟨"TwoBeatsAgo$ByHand", "firstWrongRow", "(LTwoBeatsAgo$Floor;)I"⟩, 9) := ⟨⟨by decide +kernel, by decide +kernel⟩, List.mem_of_getElem? (i := 103) (by decide +kernel), List.mem_of_getElem? (i := 698) (by decide +kernel), List.mem_of_getElem? (i := 699) (by decide +kernel)⟩
def lw_privs_3 : List (MethodName × Nat) := [(⟨"TwoBeatsAgo$Floor", "become", "(LTwoBeatsAgo$Floor;)V"⟩, 9), (⟨"TwoBeatsAgo", "placesAsked", "(I)I"⟩, 12), (⟨"TwoBeatsAgo$Floor", "standsAs", "(LTwoBeatsAgo$Floor;)Z"⟩, 9), (⟨"TwoBeatsAgo$Floor", "beatsTillTogether", "(II)I"⟩, 9), (⟨"TwoBeatsAgo$Floor", "areTogether", "()Z"⟩, 9), (⟨"TwoBeatsAgo$Floor", "nobodyMoves", "()Z"⟩, 9), (⟨"TwoBeatsAgo$Floor", "apart", "(II)I"⟩, 9), (⟨"TwoBeatsAgo$Floor", "beatsAlone", "(II)I"⟩, 9), (⟨"TwoBeatsAgo$Floor", "isAlone", "(I)Z"⟩, 9), (⟨"TwoBeatsAgo$Floor", "countStanding", "([I)V"⟩, 9), (⟨"TwoBeatsAgo$ByHand", "addSeen", "(III)I"⟩, 9), (⟨"TwoBeatsAgo$ByHand", "allSeenOn", "(LTwoBeatsAgo$Floor;)Z"⟩, 9), (⟨"TwoBeatsAgo$ByHand", "addStep", "(I)I"⟩, 9), (⟨"TwoBeatsAgo$ByHand", "danceOn", "(LTwoBeatsAgo$Floor;)V"⟩, 9), (⟨"TwoBeatsAgo$ByHand", "addRow", "(II)I"⟩, 9), (⟨"TwoBeatsAgo$ByHand", "firstWrongRow", "(LTwoBeatsAgo$Floor;)I"⟩, 9)]
theorem lw_r3 : ∀ q ∈ lw_privs_3, lw_okq q := List.forall_mem_cons.mpr ⟨lw_p32, List.forall_mem_cons.mpr ⟨lw_p33, List.forall_mem_cons.mpr ⟨lw_p34, List.forall_mem_cons.mpr ⟨lw_p35, List.forall_mem_cons.mpr ⟨lw_p36, List.forall_mem_cons.mpr ⟨lw_p37, List.forall_mem_cons.mpr ⟨lw_p38, List.forall_mem_cons.mpr ⟨lw_p39, List.forall_mem_cons.mpr ⟨lw_p40, List.forall_mem_cons.mpr ⟨lw_p41, List.forall_mem_cons.mpr ⟨lw_p42, List.forall_mem_cons.mpr ⟨lw_p43, List.forall_mem_cons.mpr ⟨lw_p44, List.forall_mem_cons.mpr ⟨lw_p45, List.forall_mem_cons.mpr ⟨lw_p46, List.forall_mem_cons.mpr ⟨lw_p47, fun _ h => absurd h List.not_mem_nil⟩⟩⟩⟩⟩⟩⟩⟩⟩⟩⟩⟩⟩⟩⟩⟩
theorem lw_p48 : lw_okq (⟨"TwoBeatsAgo$ByHand", "become", "(LTwoBeatsAgo$ByHand;)V"⟩, 9) := ⟨⟨by decide +kernel, by decide +kernel⟩, List.mem_of_getElem? (i := 103) (by decide +kernel), List.mem_of_getElem? (i := 713) (by decide +kernel), List.mem_of_getElem? (i := 714) (by decide +kernel)⟩
theorem lw_p49 : lw_okq (⟨"TwoBeatsAgo$Acts", "forgetTrace", "()V"⟩, 5) := ⟨⟨by decide +kernel, by decide +kernel⟩, List.mem_of_getElem? (i := 160) (by decide +kernel), List.mem_of_getElem? (i := 726) (by decide +kernel), List.mem_of_getElem? (i := 727) (by decide +kernel)⟩
theorem lw_p50 : lw_okq (⟨"TwoBeatsAgo$Acts", "play", "(LTwoBeatsAgo$Floor;III)I"⟩, 5) := ⟨⟨by decide +kernel, by decide +kernel⟩, List.mem_of_getElem? (i := 160) (by decide +kernel), List.mem_of_getElem? (i := 730) (by decide +kernel), List.mem_of_getElem? (i := 731) (by decide +kernel)⟩
theorem lw_p51 : lw_okq (⟨"TwoBeatsAgo$Acts", "run", "(IIII)I"⟩, 5) := ⟨⟨by decide +kernel, by decide +kernel⟩, List.mem_of_getElem? (i := 160) (by decide +kernel), List.mem_of_getElem? (i := 735) (by decide +kernel), List.mem_of_getElem? (i := 736) (by decide +kernel)⟩
theorem lw_p52 : lw_okq (⟨"TwoBeatsAgo$Acts", "runBody", "(III)I"⟩, 5) := ⟨⟨by decide +kernel, by decide +kernel⟩, List.mem_of_getElem? (i := 160) (by decide +kernel), List.mem_of_getElem? (i := 746) (by decide +kernel), List.mem_of_getElem? (i := 747) (by decide +kernel)⟩
theorem lw_p53 : lw_okq (⟨"TwoBeatsAgo$Tape", "become", "(II)V"⟩, 3) := ⟨⟨by decide +kernel, by decide +kernel⟩, List.mem_of_getElem? (i := 185) (by decide +kernel), List.mem_of_getElem? (i := 767) (by decide +kernel), List.mem_of_getElem? (i := 768) (by decide +kernel)⟩
theorem lw_p54 : lw_okq (⟨"TwoBeatsAgo$Tape", "fitted", "(J)J"⟩, 3) := ⟨⟨by decide +kernel, by decide +kernel⟩, List.mem_of_getElem? (i := 185) (by decide +kernel), List.mem_of_getElem? (i := 780) (by decide +kernel), List.mem_of_getElem? (i := 781) (by decide +kernel)⟩
theorem lw_p55 : lw_okq (⟨"TwoBeatsAgo$Tape", "hasStretch", "(II)Z"⟩, 3) := ⟨⟨by decide +kernel, by decide +kernel⟩, List.mem_of_getElem? (i := 185) (by decide +kernel), List.mem_of_getElem? (i := 792) (by decide +kernel), List.mem_of_getElem? (i := 793) (by decide +kernel)⟩
theorem lw_p56 : lw_okq (⟨"TwoBeatsAgoModel", "in", "(III)Z"⟩, 64) := ⟨⟨by decide +kernel, by decide +kernel⟩, List.mem_of_getElem? (i := 797) (by decide +kernel), List.mem_of_getElem? (i := 1001) (by decide +kernel), List.mem_of_getElem? (i := 1002) (by decide +kernel)⟩
theorem lw_p57 : lw_okq (⟨"TwoBeatsAgoModel", "wide", "()I"⟩, 64) := ⟨⟨by decide +kernel, by decide +kernel⟩, List.mem_of_getElem? (i := 797) (by decide +kernel), List.mem_of_getElem? (i := 1005) (by decide +kernel), List.mem_of_getElem? (i := 1006) (by decide +kernel)⟩
theorem lw_p58 : lw_okq (⟨"TwoBeatsAgoModel", "lastOf", "(II)I"⟩, 64) := ⟨⟨by decide +kernel, by decide +kernel⟩, List.mem_of_getElem? (i := 797) (by decide +kernel), List.mem_of_getElem? (i := 1009) (by decide +kernel), List.mem_of_getElem? (i := 1010) (by decide +kernel)⟩
theorem lw_p59 : lw_okq (⟨"TwoBeatsAgoModel", "firstClause", "()I"⟩, 64) := ⟨⟨by decide +kernel, by decide +kernel⟩, List.mem_of_getElem? (i := 797) (by decide +kernel), List.mem_of_getElem? (i := 1013) (by decide +kernel), List.mem_of_getElem? (i := 1014) (by decide +kernel)⟩
theorem lw_p60 : lw_okq (⟨"TwoBeatsAgoModel", "behindClauses", "()I"⟩, 64) := ⟨⟨by decide +kernel, by decide +kernel⟩, List.mem_of_getElem? (i := 797) (by decide +kernel), List.mem_of_getElem? (i := 1017) (by decide +kernel), List.mem_of_getElem? (i := 1018) (by decide +kernel)⟩
theorem lw_p61 : lw_okq (⟨"TwoBeatsAgoModel", "laysAll", "(II)V"⟩, 64) := ⟨⟨by decide +kernel, by decide +kernel⟩, List.mem_of_getElem? (i := 797) (by decide +kernel), List.mem_of_getElem? (i := 1021) (by decide +kernel), List.mem_of_getElem? (i := 1022) (by decide +kernel)⟩
theorem lw_p62 : lw_okq (⟨"TwoBeatsAgoModel", "isDancer", "(I)Z"⟩, 64) := ⟨⟨by decide +kernel, by decide +kernel⟩, List.mem_of_getElem? (i := 797) (by decide +kernel), List.mem_of_getElem? (i := 1029) (by decide +kernel), List.mem_of_getElem? (i := 1030) (by decide +kernel)⟩
theorem lw_p63 : lw_okq (⟨"TwoBeatsAgoModel", "goesText", "(I)Z"⟩, 64) := ⟨⟨by decide +kernel, by decide +kernel⟩, List.mem_of_getElem? (i := 797) (by decide +kernel), List.mem_of_getElem? (i := 1049) (by decide +kernel), List.mem_of_getElem? (i := 1050) (by decide +kernel)⟩
def lw_privs_4 : List (MethodName × Nat) := [(⟨"TwoBeatsAgo$ByHand", "become", "(LTwoBeatsAgo$ByHand;)V"⟩, 9), (⟨"TwoBeatsAgo$Acts", "forgetTrace", "()V"⟩, 5), (⟨"TwoBeatsAgo$Acts", "play", "(LTwoBeatsAgo$Floor;III)I"⟩, 5), (⟨"TwoBeatsAgo$Acts", "run", "(IIII)I"⟩, 5), (⟨"TwoBeatsAgo$Acts", "runBody", "(III)I"⟩, 5), (⟨"TwoBeatsAgo$Tape", "become", "(II)V"⟩, 3), (⟨"TwoBeatsAgo$Tape", "fitted", "(J)J"⟩, 3), (⟨"TwoBeatsAgo$Tape", "hasStretch", "(II)Z"⟩, 3), (⟨"TwoBeatsAgoModel", "in", "(III)Z"⟩, 64), (⟨"TwoBeatsAgoModel", "wide", "()I"⟩, 64), (⟨"TwoBeatsAgoModel", "lastOf", "(II)I"⟩, 64), (⟨"TwoBeatsAgoModel", "firstClause", "()I"⟩, 64), (⟨"TwoBeatsAgoModel", "behindClauses", "()I"⟩, 64), (⟨"TwoBeatsAgoModel", "laysAll", "(II)V"⟩, 64), (⟨"TwoBeatsAgoModel", "isDancer", "(I)Z"⟩, 64), (⟨"TwoBeatsAgoModel", "goesText", "(I)Z"⟩, 64)]
theorem lw_r4 : ∀ q ∈ lw_privs_4, lw_okq q := List.forall_mem_cons.mpr ⟨lw_p48, List.forall_mem_cons.mpr ⟨lw_p49, List.forall_mem_cons.mpr ⟨lw_p50, List.forall_mem_cons.mpr ⟨lw_p51, List.forall_mem_cons.mpr ⟨lw_p52, List.forall_mem_cons.mpr ⟨lw_p53, List.forall_mem_cons.mpr ⟨lw_p54, List.forall_mem_cons.mpr ⟨lw_p55, List.forall_mem_cons.mpr ⟨lw_p56, List.forall_mem_cons.mpr ⟨lw_p57, List.forall_mem_cons.mpr ⟨lw_p58, List.forall_mem_cons.mpr ⟨lw_p59, List.forall_mem_cons.mpr ⟨lw_p60, List.forall_mem_cons.mpr ⟨lw_p61, List.forall_mem_cons.mpr ⟨lw_p62, List.forall_mem_cons.mpr ⟨lw_p63, fun _ h => absurd h List.not_mem_nil⟩⟩⟩⟩⟩⟩⟩⟩⟩⟩⟩⟩⟩⟩⟩⟩
theorem lw_p64 : lw_okq (⟨"TwoBeatsAgoModel", "takesClause", "(I)Z"⟩, 64) := ⟨⟨by decide +kernel, by decide +kernel⟩, List.mem_of_getElem? (i := 797) (by decide +kernel), List.mem_of_getElem? (i := 1053) (by decide +kernel), List.mem_of_getElem? (i := 1054) (by decide +kernel)⟩
theorem lw_p65 : lw_okq (⟨"TwoBeatsAgoModel", "takesHead", "(I)Z"⟩, 64) := ⟨⟨by decide +kernel, by decide +kernel⟩, List.mem_of_getElem? (i := 797) (by decide +kernel), List.mem_of_getElem? (i := 1057) (by decide +kernel), List.mem_of_getElem? (i := 1058) (by decide +kernel)⟩
theorem lw_p66 : lw_okq (⟨"TwoBeatsAgoModel", "next", "()I"⟩, 64) := ⟨⟨by decide +kernel, by decide +kernel⟩, List.mem_of_getElem? (i := 797) (by decide +kernel), List.mem_of_getElem? (i := 1061) (by decide +kernel), List.mem_of_getElem? (i := 1062) (by decide +kernel)⟩
theorem lw_p67 : lw_okq (⟨"TwoBeatsAgoModel", "takesWord", "(II)Z"⟩, 64) := ⟨⟨by decide +kernel, by decide +kernel⟩, List.mem_of_getElem? (i := 797) (by decide +kernel), List.mem_of_getElem? (i := 1065) (by decide +kernel), List.mem_of_getElem? (i := 1066) (by decide +kernel)⟩
theorem lw_p68 : lw_okq (⟨"TwoBeatsAgoModel", "takes", "(I)Z"⟩, 64) := ⟨⟨by decide +kernel, by decide +kernel⟩, List.mem_of_getElem? (i := 797) (by decide +kernel), List.mem_of_getElem? (i := 1069) (by decide +kernel), List.mem_of_getElem? (i := 1070) (by decide +kernel)⟩
theorem lw_p69 : lw_okq (⟨"TwoBeatsAgoModel", "takesNumber", "()Z"⟩, 64) := ⟨⟨by decide +kernel, by decide +kernel⟩, List.mem_of_getElem? (i := 797) (by decide +kernel), List.mem_of_getElem? (i := 1073) (by decide +kernel), List.mem_of_getElem? (i := 1074) (by decide +kernel)⟩
theorem lw_p70 : lw_okq (⟨"TwoBeatsAgoModel", "isDigit", "()Z"⟩, 64) := ⟨⟨by decide +kernel, by decide +kernel⟩, List.mem_of_getElem? (i := 797) (by decide +kernel), List.mem_of_getElem? (i := 1077) (by decide +kernel), List.mem_of_getElem? (i := 1078) (by decide +kernel)⟩
theorem lw_p71 : lw_okq (⟨"TwoBeatsAgoModel", "takesE", "(I)Z"⟩, 64) := ⟨⟨by decide +kernel, by decide +kernel⟩, List.mem_of_getElem? (i := 797) (by decide +kernel), List.mem_of_getElem? (i := 1081) (by decide +kernel), List.mem_of_getElem? (i := 1082) (by decide +kernel)⟩
theorem lw_p72 : lw_okq (⟨"TwoBeatsAgoModel", "takesTest", "()Z"⟩, 64) := ⟨⟨by decide +kernel, by decide +kernel⟩, List.mem_of_getElem? (i := 797) (by decide +kernel), List.mem_of_getElem? (i := 1085) (by decide +kernel), List.mem_of_getElem? (i := 1086) (by decide +kernel)⟩
theorem lw_p73 : lw_okq (⟨"TwoBeatsAgoModel", "place", "(I)I"⟩, 64) := ⟨⟨by decide +kernel, by decide +kernel⟩, List.mem_of_getElem? (i := 797) (by decide +kernel), List.mem_of_getElem? (i := 1089) (by decide +kernel), List.mem_of_getElem? (i := 1090) (by decide +kernel)⟩
theorem lw_p74 : lw_okq (⟨"TwoBeatsAgoModel", "emits", "(I)V"⟩, 64) := ⟨⟨by decide +kernel, by decide +kernel⟩, List.mem_of_getElem? (i := 797) (by decide +kernel), List.mem_of_getElem? (i := 1093) (by decide +kernel), List.mem_of_getElem? (i := 1094) (by decide +kernel)⟩
theorem lw_p75 : lw_okq (⟨"TwoBeatsAgoModel", "whole", "()V"⟩, 64) := ⟨⟨by decide +kernel, by decide +kernel⟩, List.mem_of_getElem? (i := 797) (by decide +kernel), List.mem_of_getElem? (i := 1097) (by decide +kernel), List.mem_of_getElem? (i := 1098) (by decide +kernel)⟩
theorem lw_p76 : lw_okq (⟨"TwoBeatsAgoModel", "settle", "(I)V"⟩, 64) := ⟨⟨by decide +kernel, by decide +kernel⟩, List.mem_of_getElem? (i := 797) (by decide +kernel), List.mem_of_getElem? (i := 1101) (by decide +kernel), List.mem_of_getElem? (i := 1102) (by decide +kernel)⟩
theorem lw_p77 : lw_okq (⟨"TwoBeatsAgoModel", "step", "(I)I"⟩, 64) := ⟨⟨by decide +kernel, by decide +kernel⟩, List.mem_of_getElem? (i := 797) (by decide +kernel), List.mem_of_getElem? (i := 1109) (by decide +kernel), List.mem_of_getElem? (i := 1110) (by decide +kernel)⟩
theorem lw_p78 : lw_okq (⟨"TwoBeatsAgoModel", "holds", "(II)Z"⟩, 64) := ⟨⟨by decide +kernel, by decide +kernel⟩, List.mem_of_getElem? (i := 797) (by decide +kernel), List.mem_of_getElem? (i := 1113) (by decide +kernel), List.mem_of_getElem? (i := 1114) (by decide +kernel)⟩
theorem lw_p79 : lw_okq (⟨"TwoBeatsAgoModel", "factOf", "(II)I"⟩, 64) := ⟨⟨by decide +kernel, by decide +kernel⟩, List.mem_of_getElem? (i := 797) (by decide +kernel), List.mem_of_getElem? (i := 1117) (by decide +kernel), List.mem_of_getElem? (i := 1118) (by decide +kernel)⟩
def lw_privs_5 : List (MethodName × Nat) := [(⟨"TwoBeatsAgoModel", "takesClause", "(I)Z"⟩, 64), (⟨"TwoBeatsAgoModel", "takesHead", "(I)Z"⟩, 64), (⟨"TwoBeatsAgoModel", "next", "()I"⟩, 64), (⟨"TwoBeatsAgoModel", "takesWord", "(II)Z"⟩, 64), (⟨"TwoBeatsAgoModel", "takes", "(I)Z"⟩, 64), (⟨"TwoBeatsAgoModel", "takesNumber", "()Z"⟩, 64), (⟨"TwoBeatsAgoModel", "isDigit", "()Z"⟩, 64), (⟨"TwoBeatsAgoModel", "takesE", "(I)Z"⟩, 64), (⟨"TwoBeatsAgoModel", "takesTest", "()Z"⟩, 64), (⟨"TwoBeatsAgoModel", "place", "(I)I"⟩, 64), (⟨"TwoBeatsAgoModel", "emits", "(I)V"⟩, 64), (⟨"TwoBeatsAgoModel", "whole", "()V"⟩, 64), (⟨"TwoBeatsAgoModel", "settle", "(I)V"⟩, 64), (⟨"TwoBeatsAgoModel", "step", "(I)I"⟩, 64), (⟨"TwoBeatsAgoModel", "holds", "(II)Z"⟩, 64), (⟨"TwoBeatsAgoModel", "factOf", "(II)I"⟩, 64)]
theorem lw_r5 : ∀ q ∈ lw_privs_5, lw_okq q := List.forall_mem_cons.mpr ⟨lw_p64, List.forall_mem_cons.mpr ⟨lw_p65, List.forall_mem_cons.mpr ⟨lw_p66, List.forall_mem_cons.mpr ⟨lw_p67, List.forall_mem_cons.mpr ⟨lw_p68, List.forall_mem_cons.mpr ⟨lw_p69, List.forall_mem_cons.mpr ⟨lw_p70, List.forall_mem_cons.mpr ⟨lw_p71, List.forall_mem_cons.mpr ⟨lw_p72, List.forall_mem_cons.mpr ⟨lw_p73, List.forall_mem_cons.mpr ⟨lw_p74, List.forall_mem_cons.mpr ⟨lw_p75, List.forall_mem_cons.mpr ⟨lw_p76, List.forall_mem_cons.mpr ⟨lw_p77, List.forall_mem_cons.mpr ⟨lw_p78, List.forall_mem_cons.mpr ⟨lw_p79, fun _ h => absurd h List.not_mem_nil⟩⟩⟩⟩⟩⟩⟩⟩⟩⟩⟩⟩⟩⟩⟩⟩
theorem lw_p80 : lw_okq (⟨"TwoBeatsAgoModel", "goes", "(I)I"⟩, 64) := ⟨⟨by decide +kernel, by decide +kernel⟩, List.mem_of_getElem? (i := 797) (by decide +kernel), List.mem_of_getElem? (i := 1121) (by decide +kernel), List.mem_of_getElem? (i := 1122) (by decide +kernel)⟩
theorem lw_p81 : lw_okq (⟨"TwoBeatsAgoModel", "round", "(I)I"⟩, 64) := ⟨⟨by decide +kernel, by decide +kernel⟩, List.mem_of_getElem? (i := 797) (by decide +kernel), List.mem_of_getElem? (i := 1125) (by decide +kernel), List.mem_of_getElem? (i := 1126) (by decide +kernel)⟩
theorem lw_p82 : lw_okq (⟨"TwoBeatsAgoModel", "skip", "()I"⟩, 64) := ⟨⟨by decide +kernel, by decide +kernel⟩, List.mem_of_getElem? (i := 797) (by decide +kernel), List.mem_of_getElem? (i := 1133) (by decide +kernel), List.mem_of_getElem? (i := 1134) (by decide +kernel)⟩
theorem lw_p83 : lw_okq (⟨"TwoBeatsAgoModel", "many", "()I"⟩, 64) := ⟨⟨by decide +kernel, by decide +kernel⟩, List.mem_of_getElem? (i := 797) (by decide +kernel), List.mem_of_getElem? (i := 1137) (by decide +kernel), List.mem_of_getElem? (i := 1138) (by decide +kernel)⟩
theorem lw_p84 : lw_okq (⟨"TwoBeatsAgoModel", "isBeats", "(I)Z"⟩, 64) := ⟨⟨by decide +kernel, by decide +kernel⟩, List.mem_of_getElem? (i := 797) (by decide +kernel), List.mem_of_getElem? (i := 1145) (by decide +kernel), List.mem_of_getElem? (i := 1146) (by decide +kernel)⟩
theorem lw_p85 : lw_okq (⟨"TwoBeatsAgoModel", "go", "()V"⟩, 64) := ⟨⟨by decide +kernel, by decide +kernel⟩, List.mem_of_getElem? (i := 797) (by decide +kernel), List.mem_of_getElem? (i := 1149) (by decide +kernel), List.mem_of_getElem? (i := 1150) (by decide +kernel)⟩
theorem lw_p86 : lw_okq (⟨"TwoBeatsAgoModel", "goBeat", "(Z)V"⟩, 64) := ⟨⟨by decide +kernel, by decide +kernel⟩, List.mem_of_getElem? (i := 797) (by decide +kernel), List.mem_of_getElem? (i := 1153) (by decide +kernel), List.mem_of_getElem? (i := 1154) (by decide +kernel)⟩
theorem lw_p87 : lw_okq (⟨"TwoBeatsAgoModel", "save", "()V"⟩, 64) := ⟨⟨by decide +kernel, by decide +kernel⟩, List.mem_of_getElem? (i := 797) (by decide +kernel), List.mem_of_getElem? (i := 1161) (by decide +kernel), List.mem_of_getElem? (i := 1162) (by decide +kernel)⟩
theorem lw_p88 : lw_okq (⟨"TwoBeatsAgoModel", "putBack", "()V"⟩, 64) := ⟨⟨by decide +kernel, by decide +kernel⟩, List.mem_of_getElem? (i := 797) (by decide +kernel), List.mem_of_getElem? (i := 1165) (by decide +kernel), List.mem_of_getElem? (i := 1166) (by decide +kernel)⟩
theorem lw_p89 : lw_okq (⟨"TwoBeatsAgoModel", "isAsKept", "()Z"⟩, 64) := ⟨⟨by decide +kernel, by decide +kernel⟩, List.mem_of_getElem? (i := 797) (by decide +kernel), List.mem_of_getElem? (i := 1173) (by decide +kernel), List.mem_of_getElem? (i := 1174) (by decide +kernel)⟩
theorem lw_p90 : lw_okq (⟨"TwoBeatsAgoModel", "togetherBy", "(I)I"⟩, 64) := ⟨⟨by decide +kernel, by decide +kernel⟩, List.mem_of_getElem? (i := 797) (by decide +kernel), List.mem_of_getElem? (i := 1181) (by decide +kernel), List.mem_of_getElem? (i := 1182) (by decide +kernel)⟩
theorem lw_p91 : lw_okq (⟨"TwoBeatsAgoModel", "isStill", "()Z"⟩, 64) := ⟨⟨by decide +kernel, by decide +kernel⟩, List.mem_of_getElem? (i := 797) (by decide +kernel), List.mem_of_getElem? (i := 1189) (by decide +kernel), List.mem_of_getElem? (i := 1190) (by decide +kernel)⟩
theorem lw_p92 : lw_okq (⟨"TwoBeatsAgoModel", "apart", "(II)I"⟩, 64) := ⟨⟨by decide +kernel, by decide +kernel⟩, List.mem_of_getElem? (i := 797) (by decide +kernel), List.mem_of_getElem? (i := 1201) (by decide +kernel), List.mem_of_getElem? (i := 1202) (by decide +kernel)⟩
theorem lw_p93 : lw_okq (⟨"TwoBeatsAgoModel", "isAlone", "(I)Z"⟩, 64) := ⟨⟨by decide +kernel, by decide +kernel⟩, List.mem_of_getElem? (i := 797) (by decide +kernel), List.mem_of_getElem? (i := 1213) (by decide +kernel), List.mem_of_getElem? (i := 1214) (by decide +kernel)⟩
theorem lw_p94 : lw_okq (⟨"TwoBeatsAgoModel", "counts", "()V"⟩, 64) := ⟨⟨by decide +kernel, by decide +kernel⟩, List.mem_of_getElem? (i := 797) (by decide +kernel), List.mem_of_getElem? (i := 1229) (by decide +kernel), List.mem_of_getElem? (i := 1230) (by decide +kernel)⟩
theorem lw_p95 : lw_okq (⟨"TwoBeatsAgoModel", "isPlace", "(I)Z"⟩, 64) := ⟨⟨by decide +kernel, by decide +kernel⟩, List.mem_of_getElem? (i := 797) (by decide +kernel), List.mem_of_getElem? (i := 1237) (by decide +kernel), List.mem_of_getElem? (i := 1238) (by decide +kernel)⟩
def lw_privs_6 : List (MethodName × Nat) := [(⟨"TwoBeatsAgoModel", "goes", "(I)I"⟩, 64), (⟨"TwoBeatsAgoModel", "round", "(I)I"⟩, 64), (⟨"TwoBeatsAgoModel", "skip", "()I"⟩, 64), (⟨"TwoBeatsAgoModel", "many", "()I"⟩, 64), (⟨"TwoBeatsAgoModel", "isBeats", "(I)Z"⟩, 64), (⟨"TwoBeatsAgoModel", "go", "()V"⟩, 64), (⟨"TwoBeatsAgoModel", "goBeat", "(Z)V"⟩, 64), (⟨"TwoBeatsAgoModel", "save", "()V"⟩, 64), (⟨"TwoBeatsAgoModel", "putBack", "()V"⟩, 64), (⟨"TwoBeatsAgoModel", "isAsKept", "()Z"⟩, 64), (⟨"TwoBeatsAgoModel", "togetherBy", "(I)I"⟩, 64), (⟨"TwoBeatsAgoModel", "isStill", "()Z"⟩, 64), (⟨"TwoBeatsAgoModel", "apart", "(II)I"⟩, 64), (⟨"TwoBeatsAgoModel", "isAlone", "(I)Z"⟩, 64), (⟨"TwoBeatsAgoModel", "counts", "()V"⟩, 64), (⟨"TwoBeatsAgoModel", "isPlace", "(I)Z"⟩, 64)]
theorem lw_r6 : ∀ q ∈ lw_privs_6, lw_okq q := List.forall_mem_cons.mpr ⟨lw_p80, List.forall_mem_cons.mpr ⟨lw_p81, List.forall_mem_cons.mpr ⟨lw_p82, List.forall_mem_cons.mpr ⟨lw_p83, List.forall_mem_cons.mpr ⟨lw_p84, List.forall_mem_cons.mpr ⟨lw_p85, List.forall_mem_cons.mpr ⟨lw_p86, List.forall_mem_cons.mpr ⟨lw_p87, List.forall_mem_cons.mpr ⟨lw_p88, List.forall_mem_cons.mpr ⟨lw_p89, List.forall_mem_cons.mpr ⟨lw_p90, List.forall_mem_cons.mpr ⟨lw_p91, List.forall_mem_cons.mpr ⟨lw_p92, List.forall_mem_cons.mpr ⟨lw_p93, List.forall_mem_cons.mpr ⟨lw_p94, List.forall_mem_cons.mpr ⟨lw_p95, fun _ h => absurd h List.not_mem_nil⟩⟩⟩⟩⟩⟩⟩⟩⟩⟩⟩⟩⟩⟩⟩⟩
theorem lw_p96 : lw_okq (⟨"TwoBeatsAgoModel", "isSeen", "()Z"⟩, 64) := ⟨⟨by decide +kernel, by decide +kernel⟩, List.mem_of_getElem? (i := 797) (by decide +kernel), List.mem_of_getElem? (i := 1245) (by decide +kernel), List.mem_of_getElem? (i := 1246) (by decide +kernel)⟩
theorem lw_p97 : lw_okq (⟨"TwoBeatsAgoModel", "lowest", "(III)J"⟩, 64) := ⟨⟨by decide +kernel, by decide +kernel⟩, List.mem_of_getElem? (i := 797) (by decide +kernel), List.mem_of_getElem? (i := 1254) (by decide +kernel), List.mem_of_getElem? (i := 1255) (by decide +kernel)⟩
theorem lw_p98 : lw_okq (⟨"TwoBeatsAgoModel", "divisor", "(II)I"⟩, 64) := ⟨⟨by decide +kernel, by decide +kernel⟩, List.mem_of_getElem? (i := 797) (by decide +kernel), List.mem_of_getElem? (i := 1258) (by decide +kernel), List.mem_of_getElem? (i := 1259) (by decide +kernel)⟩
theorem lw_p99 : lw_okq (⟨"TwoBeatsAgoModel", "isTape", "(I)Z"⟩, 64) := ⟨⟨by decide +kernel, by decide +kernel⟩, List.mem_of_getElem? (i := 797) (by decide +kernel), List.mem_of_getElem? (i := 1286) (by decide +kernel), List.mem_of_getElem? (i := 1287) (by decide +kernel)⟩
theorem lw_p100 : lw_okq (⟨"TwoBeatsAgoModel", "stepsAct", "(II)I"⟩, 64) := ⟨⟨by decide +kernel, by decide +kernel⟩, List.mem_of_getElem? (i := 797) (by decide +kernel), List.mem_of_getElem? (i := 1302) (by decide +kernel), List.mem_of_getElem? (i := 1303) (by decide +kernel)⟩
theorem lw_p101 : lw_okq (⟨"TwoBeatsAgoModel", "body", "(I)V"⟩, 64) := ⟨⟨by decide +kernel, by decide +kernel⟩, List.mem_of_getElem? (i := 797) (by decide +kernel), List.mem_of_getElem? (i := 1306) (by decide +kernel), List.mem_of_getElem? (i := 1307) (by decide +kernel)⟩
theorem lw_p102 : lw_okq (⟨"TwoBeatsAgoModel", "dancerSteps", "(II)I"⟩, 64) := ⟨⟨by decide +kernel, by decide +kernel⟩, List.mem_of_getElem? (i := 797) (by decide +kernel), List.mem_of_getElem? (i := 1310) (by decide +kernel), List.mem_of_getElem? (i := 1311) (by decide +kernel)⟩
theorem lw_p103 : lw_okq (⟨"TwoBeatsAgoModel", "turnsAct", "(II)I"⟩, 64) := ⟨⟨by decide +kernel, by decide +kernel⟩, List.mem_of_getElem? (i := 797) (by decide +kernel), List.mem_of_getElem? (i := 1314) (by decide +kernel), List.mem_of_getElem? (i := 1315) (by decide +kernel)⟩
theorem lw_p104 : lw_okq (⟨"TwoBeatsAgoModel", "lateTurns", "(II)I"⟩, 64) := ⟨⟨by decide +kernel, by decide +kernel⟩, List.mem_of_getElem? (i := 797) (by decide +kernel), List.mem_of_getElem? (i := 1318) (by decide +kernel), List.mem_of_getElem? (i := 1319) (by decide +kernel)⟩
theorem lw_p105 : lw_okq (⟨"TwoBeatsAgoModel", "dancerTurns", "(II)I"⟩, 64) := ⟨⟨by decide +kernel, by decide +kernel⟩, List.mem_of_getElem? (i := 797) (by decide +kernel), List.mem_of_getElem? (i := 1322) (by decide +kernel), List.mem_of_getElem? (i := 1323) (by decide +kernel)⟩
theorem lw_p106 : lw_okq (⟨"TwoBeatsAgoModel", "tellsAct", "(II)I"⟩, 64) := ⟨⟨by decide +kernel, by decide +kernel⟩, List.mem_of_getElem? (i := 797) (by decide +kernel), List.mem_of_getElem? (i := 1326) (by decide +kernel), List.mem_of_getElem? (i := 1327) (by decide +kernel)⟩
theorem lw_p107 : lw_okq (⟨"TwoBeatsAgoModel", "dancerTells", "(II)I"⟩, 64) := ⟨⟨by decide +kernel, by decide +kernel⟩, List.mem_of_getElem? (i := 797) (by decide +kernel), List.mem_of_getElem? (i := 1330) (by decide +kernel), List.mem_of_getElem? (i := 1331) (by decide +kernel)⟩
theorem lw_p108 : lw_okq (⟨"TwoBeatsAgoModel", "narrow", "(IJ)J"⟩, 64) := ⟨⟨by decide +kernel, by decide +kernel⟩, List.mem_of_getElem? (i := 797) (by decide +kernel), List.mem_of_getElem? (i := 1354) (by decide +kernel), List.mem_of_getElem? (i := 1355) (by decide +kernel)⟩
def lw_privs_7 : List (MethodName × Nat) := [(⟨"TwoBeatsAgoModel", "isSeen", "()Z"⟩, 64), (⟨"TwoBeatsAgoModel", "lowest", "(III)J"⟩, 64), (⟨"TwoBeatsAgoModel", "divisor", "(II)I"⟩, 64), (⟨"TwoBeatsAgoModel", "isTape", "(I)Z"⟩, 64), (⟨"TwoBeatsAgoModel", "stepsAct", "(II)I"⟩, 64), (⟨"TwoBeatsAgoModel", "body", "(I)V"⟩, 64), (⟨"TwoBeatsAgoModel", "dancerSteps", "(II)I"⟩, 64), (⟨"TwoBeatsAgoModel", "turnsAct", "(II)I"⟩, 64), (⟨"TwoBeatsAgoModel", "lateTurns", "(II)I"⟩, 64), (⟨"TwoBeatsAgoModel", "dancerTurns", "(II)I"⟩, 64), (⟨"TwoBeatsAgoModel", "tellsAct", "(II)I"⟩, 64), (⟨"TwoBeatsAgoModel", "dancerTells", "(II)I"⟩, 64), (⟨"TwoBeatsAgoModel", "narrow", "(IJ)J"⟩, 64)]
theorem lw_r7 : ∀ q ∈ lw_privs_7, lw_okq q := List.forall_mem_cons.mpr ⟨lw_p96, List.forall_mem_cons.mpr ⟨lw_p97, List.forall_mem_cons.mpr ⟨lw_p98, List.forall_mem_cons.mpr ⟨lw_p99, List.forall_mem_cons.mpr ⟨lw_p100, List.forall_mem_cons.mpr ⟨lw_p101, List.forall_mem_cons.mpr ⟨lw_p102, List.forall_mem_cons.mpr ⟨lw_p103, List.forall_mem_cons.mpr ⟨lw_p104, List.forall_mem_cons.mpr ⟨lw_p105, List.forall_mem_cons.mpr ⟨lw_p106, List.forall_mem_cons.mpr ⟨lw_p107, List.forall_mem_cons.mpr ⟨lw_p108, fun _ h => absurd h List.not_mem_nil⟩⟩⟩⟩⟩⟩⟩⟩⟩⟩⟩⟩⟩
def lw_privs : List (MethodName × Nat) := lw_privs_1 ++ (lw_privs_2 ++ (lw_privs_3 ++ (lw_privs_4 ++ (lw_privs_5 ++ (lw_privs_6 ++ (lw_privs_7))))))
def lw_tbl : List Cond := k2_sels lw_privs ++ tables_1
theorem lw_privs_ok : ∀ q ∈ lw_privs, lw_okq q := by
  show ∀ q ∈ lw_privs_1 ++ (lw_privs_2 ++ (lw_privs_3 ++ (lw_privs_4 ++ (lw_privs_5 ++ (lw_privs_6 ++ (lw_privs_7)))))), lw_okq q
  exact List.forall_mem_append.mpr ⟨lw_r1, List.forall_mem_append.mpr ⟨lw_r2, List.forall_mem_append.mpr ⟨lw_r3, List.forall_mem_append.mpr ⟨lw_r4, List.forall_mem_append.mpr ⟨lw_r5, List.forall_mem_append.mpr ⟨lw_r6, lw_r7⟩⟩⟩⟩⟩⟩
def RX0 : String := "TwoBeatsAgo$Acts"
def TX0 : u_T := fun k => match k with
  | 0 => ("TwoBeatsAgo$Acts", "ran", "I", false)
  | 1 => ("TwoBeatsAgo$Acts", "bodies", "[I", true)
  | 2 => ("TwoBeatsAgo$Acts", "kind", "I", false)
  | 3 => ("TwoBeatsAgo$Acts", "v", "I", false)
  | _ => ("TwoBeatsAgo$Acts", "number", "I", false)
def tyX0 : Nat → FieldType := fun k => match k with
  | 0 => .int
  | 1 => .array .int
  | 2 => .int
  | 3 => .int
  | _ => .int
theorem nmX0 : ∀ a, a < 5 → ∀ b, b < 5 → a ≠ b → (TX0 a).2.1 ≠ (TX0 b).2.1 := by decide +kernel
theorem tyX0_ok : ∀ k, k < 5 → parseFieldDescriptor (TX0 k).2.2.1 = some (tyX0 k) := by decide +kernel
abbrev cX0_init : ByteArray := prog_2_method_1_code
def yX0_init : MethodName := ⟨RX0, "<init>", "()V"⟩
abbrev cX0_forgetTrace : ByteArray := prog_2_method_2_code
def yX0_forgetTrace : MethodName := ⟨RX0, "forgetTrace", "()V"⟩
abbrev cX0_play : ByteArray := prog_2_method_3_code
def yX0_play : MethodName := ⟨RX0, "play", "(LTwoBeatsAgo$Floor;III)I"⟩
abbrev cX0_run : ByteArray := prog_2_method_4_code
def yX0_run : MethodName := ⟨RX0, "run", "(IIII)I"⟩
abbrev cX0_runBody : ByteArray := prog_2_method_5_code
def yX0_runBody : MethodName := ⟨RX0, "runBody", "(III)I"⟩
abbrev cX0_bodyOf : ByteArray := prog_2_method_6_code
def yX0_bodyOf : MethodName := ⟨RX0, "bodyOf", "(II)I"⟩
def RX1 : String := "TwoBeatsAgo$ByHand"
def TX1 : u_T := fun k => match k with
  | 0 => ("TwoBeatsAgo$ByHand", "seen", "I", false)
  | 1 => ("TwoBeatsAgo$ByHand", "seenDancers", "[I", true)
  | 2 => ("TwoBeatsAgo$ByHand", "seenPlaces", "[I", true)
  | 3 => ("TwoBeatsAgo$ByHand", "seenBehind", "[I", true)
  | 4 => ("TwoBeatsAgo$ByHand", "steps", "I", false)
  | 5 => ("TwoBeatsAgo$ByHand", "dance", "[I", true)
  | 6 => ("TwoBeatsAgo$ByHand", "rows", "I", false)
  | 7 => ("TwoBeatsAgo$ByHand", "rowDancers", "[I", true)
  | _ => ("TwoBeatsAgo$ByHand", "rowPlaces", "[I", true)
def tyX1 : Nat → FieldType := fun k => match k with
  | 0 => .int
  | 1 => .array .int
  | 2 => .array .int
  | 3 => .array .int
  | 4 => .int
  | 5 => .array .int
  | 6 => .int
  | 7 => .array .int
  | _ => .array .int
theorem nmX1 : ∀ a, a < 9 → ∀ b, b < 9 → a ≠ b → (TX1 a).2.1 ≠ (TX1 b).2.1 := by decide +kernel
theorem tyX1_ok : ∀ k, k < 9 → parseFieldDescriptor (TX1 k).2.2.1 = some (tyX1 k) := by decide +kernel
abbrev cX1_init : ByteArray := prog_3_method_1_code
def yX1_init : MethodName := ⟨RX1, "<init>", "()V"⟩
abbrev cX1_become : ByteArray := prog_3_method_2_code
def yX1_become : MethodName := ⟨RX1, "become", "(LTwoBeatsAgo$ByHand;)V"⟩
abbrev cX1_addSeen : ByteArray := prog_3_method_3_code
def yX1_addSeen : MethodName := ⟨RX1, "addSeen", "(III)I"⟩
abbrev cX1_addStep : ByteArray := prog_3_method_4_code
def yX1_addStep : MethodName := ⟨RX1, "addStep", "(I)I"⟩
abbrev cX1_addRow : ByteArray := prog_3_method_5_code
def yX1_addRow : MethodName := ⟨RX1, "addRow", "(II)I"⟩
abbrev cX1_allSeenOn : ByteArray := prog_3_method_6_code
def yX1_allSeenOn : MethodName := ⟨RX1, "allSeenOn", "(LTwoBeatsAgo$Floor;)Z"⟩
abbrev cX1_danceOn : ByteArray := prog_3_method_7_code
def yX1_danceOn : MethodName := ⟨RX1, "danceOn", "(LTwoBeatsAgo$Floor;)V"⟩
abbrev cX1_followRound : ByteArray := prog_3_method_8_code
def yX1_followRound : MethodName := ⟨RX1, "followRound", "(LTwoBeatsAgo$Floor;)V"⟩
abbrev cX1_firstWrongRow : ByteArray := prog_3_method_9_code
def yX1_firstWrongRow : MethodName := ⟨RX1, "firstWrongRow", "(LTwoBeatsAgo$Floor;)I"⟩
def RX2 : String := "TwoBeatsAgo$Floor"
def TX2 : u_T := fun k => match k with
  | 0 => ("TwoBeatsAgo$Floor", "dancers", "I", false)
  | 1 => ("TwoBeatsAgo$Floor", "beat", "I", false)
  | 2 => ("TwoBeatsAgo$Floor", "hall", "LTwoBeatsAgo$Hall;", false)
  | 3 => ("TwoBeatsAgo$Floor", "kind", "[I", true)
  | 4 => ("TwoBeatsAgo$Floor", "v", "[I", true)
  | 5 => ("TwoBeatsAgo$Floor", "follows", "[I", true)
  | 6 => ("TwoBeatsAgo$Floor", "was", "[I", true)
  | 7 => ("TwoBeatsAgo$Floor", "rows", "[I", true)
  | _ => ("TwoBeatsAgo$Floor", "next", "[I", true)
def tyX2 : Nat → FieldType := fun k => match k with
  | 0 => .int
  | 1 => .int
  | 2 => .object "TwoBeatsAgo$Hall"
  | 3 => .array .int
  | 4 => .array .int
  | 5 => .array .int
  | 6 => .array .int
  | 7 => .array .int
  | _ => .array .int
theorem nmX2 : ∀ a, a < 9 → ∀ b, b < 9 → a ≠ b → (TX2 a).2.1 ≠ (TX2 b).2.1 := by decide +kernel
theorem tyX2_ok : ∀ k, k < 9 → parseFieldDescriptor (TX2 k).2.2.1 = some (tyX2 k) := by decide +kernel
abbrev cX2_init : ByteArray := prog_4_method_1_code
def yX2_init : MethodName := ⟨RX2, "<init>", "(LTwoBeatsAgo$Hall;)V"⟩
abbrev cX2_become : ByteArray := prog_4_method_2_code
def yX2_become : MethodName := ⟨RX2, "become", "(LTwoBeatsAgo$Floor;)V"⟩
abbrev cX2_has : ByteArray := prog_4_method_3_code
def yX2_has : MethodName := ⟨RX2, "has", "(I)Z"⟩
abbrev cX2_hasPlace : ByteArray := prog_4_method_4_code
def yX2_hasPlace : MethodName := ⟨RX2, "hasPlace", "(I)Z"⟩
abbrev cX2_wasOf : ByteArray := prog_4_method_5_code
def yX2_wasOf : MethodName := ⟨RX2, "wasOf", "(II)I"⟩
abbrev cX2_join : ByteArray := prog_4_method_6_code
def yX2_join : MethodName := ⟨RX2, "join", "(III)I"⟩
abbrev cX2_follow : ByteArray := prog_4_method_7_code
def yX2_follow : MethodName := ⟨RX2, "follow", "(II)V"⟩
abbrev cX2_standAt : ByteArray := prog_4_method_8_code
def yX2_standAt : MethodName := ⟨RX2, "standAt", "(II)V"⟩
abbrev cX2_wrapAll : ByteArray := prog_4_method_9_code
def yX2_wrapAll : MethodName := ⟨RX2, "wrapAll", "()V"⟩
abbrev cX2_letterOf : ByteArray := prog_4_method_10_code
def yX2_letterOf : MethodName := ⟨RX2, "letterOf", "(II)I"⟩
abbrev cX2_goesOf : ByteArray := prog_4_method_11_code
def yX2_goesOf : MethodName := ⟨RX2, "goesOf", "(I)I"⟩
abbrev cX2_isLazyNow : ByteArray := prog_4_method_12_code
def yX2_isLazyNow : MethodName := ⟨RX2, "isLazyNow", "(I)Z"⟩
abbrev cX2_goBeat : ByteArray := prog_4_method_13_code
def yX2_goBeat : MethodName := ⟨RX2, "goBeat", "(Z)V"⟩
abbrev cX2_goBeats : ByteArray := prog_4_method_14_code
def yX2_goBeats : MethodName := ⟨RX2, "goBeats", "(I)V"⟩
abbrev cX2_beatsTillTogether : ByteArray := prog_4_method_15_code
def yX2_beatsTillTogether : MethodName := ⟨RX2, "beatsTillTogether", "(II)I"⟩
abbrev cX2_beatsAlone : ByteArray := prog_4_method_16_code
def yX2_beatsAlone : MethodName := ⟨RX2, "beatsAlone", "(II)I"⟩
abbrev cX2_areTogether : ByteArray := prog_4_method_17_code
def yX2_areTogether : MethodName := ⟨RX2, "areTogether", "()Z"⟩
abbrev cX2_isAlone : ByteArray := prog_4_method_18_code
def yX2_isAlone : MethodName := ⟨RX2, "isAlone", "(I)Z"⟩
abbrev cX2_nobodyMoves : ByteArray := prog_4_method_19_code
def yX2_nobodyMoves : MethodName := ⟨RX2, "nobodyMoves", "()Z"⟩
abbrev cX2_standsAs : ByteArray := prog_4_method_20_code
def yX2_standsAs : MethodName := ⟨RX2, "standsAs", "(LTwoBeatsAgo$Floor;)Z"⟩
abbrev cX2_placesTaken : ByteArray := prog_4_method_21_code
def yX2_placesTaken : MethodName := ⟨RX2, "placesTaken", "()I"⟩
abbrev cX2_apart : ByteArray := prog_4_method_22_code
def yX2_apart : MethodName := ⟨RX2, "apart", "(II)I"⟩
abbrev cX2_countStanding : ByteArray := prog_4_method_23_code
def yX2_countStanding : MethodName := ⟨RX2, "countStanding", "([I)V"⟩
def RX3 : String := "TwoBeatsAgo$Hall"
def TX3 : u_T := fun k => match k with
  | 0 => ("TwoBeatsAgo$Hall", "wide", "I", false)
  | 1 => ("TwoBeatsAgo$Hall", "skip", "I", false)
  | 2 => ("TwoBeatsAgo$Hall", "steps", "I", false)
  | 3 => ("TwoBeatsAgo$Hall", "codeCount", "I", false)
  | 4 => ("TwoBeatsAgo$Hall", "amounts", "[I", true)
  | 5 => ("TwoBeatsAgo$Hall", "ends", "[I", true)
  | _ => ("TwoBeatsAgo$Hall", "codes", "[I", true)
def tyX3 : Nat → FieldType := fun k => match k with
  | 0 => .int
  | 1 => .int
  | 2 => .int
  | 3 => .int
  | 4 => .array .int
  | 5 => .array .int
  | _ => .array .int
theorem nmX3 : ∀ a, a < 7 → ∀ b, b < 7 → a ≠ b → (TX3 a).2.1 ≠ (TX3 b).2.1 := by decide +kernel
theorem tyX3_ok : ∀ k, k < 7 → parseFieldDescriptor (TX3 k).2.2.1 = some (tyX3 k) := by decide +kernel
abbrev cX3_init : ByteArray := prog_5_method_1_code
def yX3_init : MethodName := ⟨RX3, "<init>", "()V"⟩
abbrev cX3_clear : ByteArray := prog_5_method_2_code
def yX3_clear : MethodName := ⟨RX3, "clear", "()V"⟩
abbrev cX3_setWide : ByteArray := prog_5_method_3_code
def yX3_setWide : MethodName := ⟨RX3, "setWide", "(I)V"⟩
abbrev cX3_addCode : ByteArray := prog_5_method_4_code
def yX3_addCode : MethodName := ⟨RX3, "addCode", "(I)V"⟩
abbrev cX3_testCode : ByteArray := prog_5_method_5_code
def yX3_testCode : MethodName := ⟨RX3, "testCode", "(III)I"⟩
abbrev cX3_addStep : ByteArray := prog_5_method_6_code
def yX3_addStep : MethodName := ⟨RX3, "addStep", "(I)V"⟩
abbrev cX3_stopsAfter : ByteArray := prog_5_method_7_code
def yX3_stopsAfter : MethodName := ⟨RX3, "stopsAfter", "(I)Z"⟩
abbrev cX3_stepFor : ByteArray := prog_5_method_8_code
def yX3_stepFor : MethodName := ⟨RX3, "stepFor", "(LTwoBeatsAgo$Floor;I)I"⟩
abbrev cX3_holds : ByteArray := prog_5_method_9_code
def yX3_holds : MethodName := ⟨RX3, "holds", "(IILTwoBeatsAgo$Floor;I)Z"⟩
abbrev cX3_passes : ByteArray := prog_5_method_10_code
def yX3_passes : MethodName := ⟨RX3, "passes", "(ILTwoBeatsAgo$Floor;I)Z"⟩
def RX4 : String := "TwoBeatsAgo$HallText"
def TX4 : u_T := fun k => match k with
  | 0 => ("TwoBeatsAgo$HallText", "signs", "[C", true)
  | 1 => ("TwoBeatsAgo$HallText", "length", "I", false)
  | _ => ("TwoBeatsAgo$HallText", "at", "I", false)
def tyX4 : Nat → FieldType := fun k => match k with
  | 0 => .array .char
  | 1 => .int
  | _ => .int
theorem nmX4 : ∀ a, a < 3 → ∀ b, b < 3 → a ≠ b → (TX4 a).2.1 ≠ (TX4 b).2.1 := by decide +kernel
theorem tyX4_ok : ∀ k, k < 3 → parseFieldDescriptor (TX4 k).2.2.1 = some (tyX4 k) := by decide +kernel
abbrev cX4_init : ByteArray := prog_6_method_1_code
def yX4_init : MethodName := ⟨RX4, "<init>", "()V"⟩
abbrev cX4_add : ByteArray := prog_6_method_2_code
def yX4_add : MethodName := ⟨RX4, "add", "(C)V"⟩
abbrev cX4_readInto : ByteArray := prog_6_method_3_code
def yX4_readInto : MethodName := ⟨RX4, "readInto", "(LTwoBeatsAgo$Hall;)Z"⟩
abbrev cX4_readClause : ByteArray := prog_6_method_4_code
def yX4_readClause : MethodName := ⟨RX4, "readClause", "(LTwoBeatsAgo$Hall;)Z"⟩
abbrev cX4_wordOf : ByteArray := prog_6_method_5_code
def yX4_wordOf : MethodName := ⟨RX4, "wordOf", "(C)Ljava/lang/String;"⟩
abbrev cX4_readAnyOf : ByteArray := prog_6_method_6_code
def yX4_readAnyOf : MethodName := ⟨RX4, "readAnyOf", "(LTwoBeatsAgo$Hall;I)Z"⟩
abbrev cX4_readAllOf : ByteArray := prog_6_method_7_code
def yX4_readAllOf : MethodName := ⟨RX4, "readAllOf", "(LTwoBeatsAgo$Hall;I)Z"⟩
abbrev cX4_readOne : ByteArray := prog_6_method_8_code
def yX4_readOne : MethodName := ⟨RX4, "readOne", "(LTwoBeatsAgo$Hall;I)Z"⟩
abbrev cX4_readTest : ByteArray := prog_6_method_9_code
def yX4_readTest : MethodName := ⟨RX4, "readTest", "(LTwoBeatsAgo$Hall;)Z"⟩
abbrev cX4_readNumber : ByteArray := prog_6_method_10_code
def yX4_readNumber : MethodName := ⟨RX4, "readNumber", "()I"⟩
abbrev cX4_takesAll : ByteArray := prog_6_method_11_code
def yX4_takesAll : MethodName := ⟨RX4, "takesAll", "(Ljava/lang/String;)Z"⟩
abbrev cX4_takes : ByteArray := prog_6_method_12_code
def yX4_takes : MethodName := ⟨RX4, "takes", "(C)Z"⟩
abbrev cX4_ahead : ByteArray := prog_6_method_13_code
def yX4_ahead : MethodName := ⟨RX4, "ahead", "()C"⟩
def RX5 : String := "TwoBeatsAgo$Tape"
def TX5 : u_T := fun k => match k with
  | 0 => ("TwoBeatsAgo$Tape", "sort", "I", false)
  | 1 => ("TwoBeatsAgo$Tape", "length", "I", false)
  | _ => ("TwoBeatsAgo$Tape", "items", "[J", true)
def tyX5 : Nat → FieldType := fun k => match k with
  | 0 => .int
  | 1 => .int
  | _ => .array .long
theorem nmX5 : ∀ a, a < 3 → ∀ b, b < 3 → a ≠ b → (TX5 a).2.1 ≠ (TX5 b).2.1 := by decide +kernel
theorem tyX5_ok : ∀ k, k < 3 → parseFieldDescriptor (TX5 k).2.2.1 = some (tyX5 k) := by decide +kernel
abbrev cX5_init : ByteArray := prog_7_method_1_code
def yX5_init : MethodName := ⟨RX5, "<init>", "()V"⟩
abbrev cX5_become : ByteArray := prog_7_method_2_code
def yX5_become : MethodName := ⟨RX5, "become", "(II)V"⟩
abbrev cX5_fitted : ByteArray := prog_7_method_3_code
def yX5_fitted : MethodName := ⟨RX5, "fitted", "(J)J"⟩
abbrev cX5_hasStretch : ByteArray := prog_7_method_4_code
def yX5_hasStretch : MethodName := ⟨RX5, "hasStretch", "(II)Z"⟩
def RX6 : String := "TwoBeatsAgo"
def TX6 : u_T := fun k => match k with
  | 0 => ("TwoBeatsAgo", "now", "LTwoBeatsAgo$Floor;", true)
  | 1 => ("TwoBeatsAgo", "trial", "LTwoBeatsAgo$Floor;", true)
  | 2 => ("TwoBeatsAgo", "kept", "LTwoBeatsAgo$Floor;", true)
  | 3 => ("TwoBeatsAgo", "hand", "LTwoBeatsAgo$ByHand;", true)
  | 4 => ("TwoBeatsAgo", "keptHand", "LTwoBeatsAgo$ByHand;", true)
  | 5 => ("TwoBeatsAgo", "imageTaken", "Z", false)
  | 6 => ("TwoBeatsAgo", "halls", "[LTwoBeatsAgo$Hall;", true)
  | 7 => ("TwoBeatsAgo", "hallCount", "I", false)
  | 8 => ("TwoBeatsAgo", "text", "LTwoBeatsAgo$HallText;", true)
  | 9 => ("TwoBeatsAgo", "acts", "LTwoBeatsAgo$Acts;", true)
  | 10 => ("TwoBeatsAgo", "tapes", "[LTwoBeatsAgo$Tape;", true)
  | _ => ("TwoBeatsAgo", "stood", "[I", true)
def tyX6 : Nat → FieldType := fun k => match k with
  | 0 => .object "TwoBeatsAgo$Floor"
  | 1 => .object "TwoBeatsAgo$Floor"
  | 2 => .object "TwoBeatsAgo$Floor"
  | 3 => .object "TwoBeatsAgo$ByHand"
  | 4 => .object "TwoBeatsAgo$ByHand"
  | 5 => .boolean
  | 6 => .array (.object "TwoBeatsAgo$Hall")
  | 7 => .int
  | 8 => .object "TwoBeatsAgo$HallText"
  | 9 => .object "TwoBeatsAgo$Acts"
  | 10 => .array (.object "TwoBeatsAgo$Tape")
  | _ => .array .int
theorem nmX6 : ∀ a, a < 12 → ∀ b, b < 12 → a ≠ b → (TX6 a).2.1 ≠ (TX6 b).2.1 := by decide +kernel
theorem tyX6_ok : ∀ k, k < 12 → parseFieldDescriptor (TX6 k).2.2.1 = some (tyX6 k) := by decide +kernel
abbrev cX6_init : ByteArray := prog_1_method_1_code
def yX6_init : MethodName := ⟨RX6, "<init>", "()V"⟩
abbrev cX6_dancer : ByteArray := prog_1_method_2_code
def yX6_dancer : MethodName := ⟨RX6, "dancer", "(III)I"⟩
abbrev cX6_of : ByteArray := prog_1_method_3_code
def yX6_of : MethodName := ⟨RX6, "of", "(II)I"⟩
abbrev cX6_after : ByteArray := prog_1_method_4_code
def yX6_after : MethodName := ⟨RX6, "after", "(II)I"⟩
abbrev cX6_begin : ByteArray := prog_1_method_5_code
def yX6_begin : MethodName := ⟨RX6, "begin", "(II)I"⟩
abbrev cX6_row : ByteArray := prog_1_method_6_code
def yX6_row : MethodName := ⟨RX6, "row", "(III)I"⟩
abbrev cX6_feed : ByteArray := prog_1_method_7_code
def yX6_feed : MethodName := ⟨RX6, "feed", "(I)I"⟩
abbrev cX6_hall : ByteArray := prog_1_method_8_code
def yX6_hall : MethodName := ⟨RX6, "hall", "()I"⟩
abbrev cX6_told : ByteArray := prog_1_method_9_code
def yX6_told : MethodName := ⟨RX6, "told", "(I)I"⟩
abbrev cX6_pass : ByteArray := prog_1_method_10_code
def yX6_pass : MethodName := ⟨RX6, "pass", "(I)I"⟩
abbrev cX6_on : ByteArray := prog_1_method_11_code
def yX6_on : MethodName := ⟨RX6, "on", "(II)I"⟩
abbrev cX6_again : ByteArray := prog_1_method_12_code
def yX6_again : MethodName := ⟨RX6, "again", "()I"⟩
abbrev cX6_together : ByteArray := prog_1_method_13_code
def yX6_together : MethodName := ⟨RX6, "together", "()I"⟩
abbrev cX6_still : ByteArray := prog_1_method_14_code
def yX6_still : MethodName := ⟨RX6, "still", "()I"⟩
abbrev cX6_meet : ByteArray := prog_1_method_15_code
def yX6_meet : MethodName := ⟨RX6, "meet", "(II)I"⟩
abbrev cX6_far : ByteArray := prog_1_method_16_code
def yX6_far : MethodName := ⟨RX6, "far", "(III)I"⟩
abbrev cX6_whom : ByteArray := prog_1_method_17_code
def yX6_whom : MethodName := ⟨RX6, "whom", "(I)I"⟩
abbrev cX6_alone : ByteArray := prog_1_method_18_code
def yX6_alone : MethodName := ⟨RX6, "alone", "(III)I"⟩
abbrev cX6_stop : ByteArray := prog_1_method_19_code
def yX6_stop : MethodName := ⟨RX6, "stop", "()I"⟩
abbrev cX6_begins : ByteArray := prog_1_method_20_code
def yX6_begins : MethodName := ⟨RX6, "begins", "(III)I"⟩
abbrev cX6_crowd : ByteArray := prog_1_method_21_code
def yX6_crowd : MethodName := ⟨RX6, "crowd", "(I)I"⟩
abbrev cX6_see : ByteArray := prog_1_method_22_code
def yX6_see : MethodName := ⟨RX6, "see", "(III)I"⟩
abbrev cX6_can : ByteArray := prog_1_method_23_code
def yX6_can : MethodName := ⟨RX6, "can", "(I)I"⟩
abbrev cX6_odds : ByteArray := prog_1_method_24_code
def yX6_odds : MethodName := ⟨RX6, "odds", "(II)J"⟩
abbrev cX6_mean : ByteArray := prog_1_method_25_code
def yX6_mean : MethodName := ⟨RX6, "mean", "(II)J"⟩
abbrev cX6_dance : ByteArray := prog_1_method_26_code
def yX6_dance : MethodName := ⟨RX6, "dance", "(I)I"⟩
abbrev cX6_danced : ByteArray := prog_1_method_27_code
def yX6_danced : MethodName := ⟨RX6, "danced", "(I)I"⟩
abbrev cX6_book : ByteArray := prog_1_method_28_code
def yX6_book : MethodName := ⟨RX6, "book", "(II)I"⟩
abbrev cX6_looked : ByteArray := prog_1_method_29_code
def yX6_looked : MethodName := ⟨RX6, "looked", "()I"⟩
abbrev cX6_judge : ByteArray := prog_1_method_30_code
def yX6_judge : MethodName := ⟨RX6, "judge", "(II)I"⟩
abbrev cX6_image : ByteArray := prog_1_method_31_code
def yX6_image : MethodName := ⟨RX6, "image", "()I"⟩
abbrev cX6_undo : ByteArray := prog_1_method_32_code
def yX6_undo : MethodName := ⟨RX6, "undo", "()I"⟩
abbrev cX6_act : ByteArray := prog_1_method_33_code
def yX6_act : MethodName := ⟨RX6, "act", "(III)I"⟩
abbrev cX6_trace : ByteArray := prog_1_method_34_code
def yX6_trace : MethodName := ⟨RX6, "trace", "(I)I"⟩
abbrev cX6_taken : ByteArray := prog_1_method_35_code
def yX6_taken : MethodName := ⟨RX6, "taken", "(II)I"⟩
abbrev cX6_count : ByteArray := prog_1_method_36_code
def yX6_count : MethodName := ⟨RX6, "count", "(I)I"⟩
abbrev cX6_tape : ByteArray := prog_1_method_37_code
def yX6_tape : MethodName := ⟨RX6, "tape", "(III)I"⟩
abbrev cX6_item : ByteArray := prog_1_method_38_code
def yX6_item : MethodName := ⟨RX6, "item", "(IIJ)I"⟩
abbrev cX6_read : ByteArray := prog_1_method_39_code
def yX6_read : MethodName := ⟨RX6, "read", "(II)J"⟩
abbrev cX6_shift : ByteArray := prog_1_method_40_code
def yX6_shift : MethodName := ⟨RX6, "shift", "(IIIII)I"⟩
abbrev cX6_asksForPlaces : ByteArray := prog_1_method_41_code
def yX6_asksForPlaces : MethodName := ⟨RX6, "asksForPlaces", "(I)Z"⟩
abbrev cX6_placesAsked : ByteArray := prog_1_method_42_code
def yX6_placesAsked : MethodName := ⟨RX6, "placesAsked", "(I)I"⟩
abbrev cX6_isTape : ByteArray := prog_1_method_43_code
def yX6_isTape : MethodName := ⟨RX6, "isTape", "(I)Z"⟩
abbrev cX6_partOfFraction : ByteArray := prog_1_method_44_code
def yX6_partOfFraction : MethodName := ⟨RX6, "partOfFraction", "(III)J"⟩
abbrev cX6_modulo : ByteArray := prog_1_method_45_code
def yX6_modulo : MethodName := ⟨RX6, "modulo", "(II)I"⟩
def RX7 : String := "TwoBeatsAgoModel"
def TX7 : u_T := fun k => match k with
  | 0 => ("TwoBeatsAgoModel", "dancers", "I", false)
  | 1 => ("TwoBeatsAgoModel", "beats", "I", false)
  | 2 => ("TwoBeatsAgoModel", "kind", "[I", true)
  | 3 => ("TwoBeatsAgoModel", "v", "[I", true)
  | 4 => ("TwoBeatsAgoModel", "follows", "[I", true)
  | 5 => ("TwoBeatsAgoModel", "rows", "[I", true)
  | 6 => ("TwoBeatsAgoModel", "was", "[I", true)
  | 7 => ("TwoBeatsAgoModel", "halls", "I", false)
  | 8 => ("TwoBeatsAgoModel", "the", "I", false)
  | 9 => ("TwoBeatsAgoModel", "fed", "I", false)
  | 10 => ("TwoBeatsAgoModel", "at", "I", false)
  | 11 => ("TwoBeatsAgoModel", "digits", "I", false)
  | 12 => ("TwoBeatsAgoModel", "text", "[I", true)
  | 13 => ("TwoBeatsAgoModel", "clauses", "[I", true)
  | 14 => ("TwoBeatsAgoModel", "word", "[I", true)
  | 15 => ("TwoBeatsAgoModel", "number", "[I", true)
  | 16 => ("TwoBeatsAgoModel", "from", "[I", true)
  | 17 => ("TwoBeatsAgoModel", "to", "[I", true)
  | 18 => ("TwoBeatsAgoModel", "sign", "[I", true)
  | 19 => ("TwoBeatsAgoModel", "waits", "[I", true)
  | 20 => ("TwoBeatsAgoModel", "signs", "I", false)
  | 21 => ("TwoBeatsAgoModel", "waiting", "I", false)
  | 22 => ("TwoBeatsAgoModel", "open", "I", false)
  | 23 => ("TwoBeatsAgoModel", "letters", "[I", true)
  | 24 => ("TwoBeatsAgoModel", "pile", "[Z", true)
  | 25 => ("TwoBeatsAgoModel", "taken0", "[Z", true)
  | 26 => ("TwoBeatsAgoModel", "going", "[I", true)
  | 27 => ("TwoBeatsAgoModel", "keptBeats", "I", false)
  | 28 => ("TwoBeatsAgoModel", "keptWas", "[I", true)
  | 29 => ("TwoBeatsAgoModel", "keptFollows", "[I", true)
  | 30 => ("TwoBeatsAgoModel", "been", "[I", true)
  | 31 => ("TwoBeatsAgoModel", "seen", "I", false)
  | 32 => ("TwoBeatsAgoModel", "seenWho", "[I", true)
  | 33 => ("TwoBeatsAgoModel", "seenWhere", "[I", true)
  | 34 => ("TwoBeatsAgoModel", "seenWhen", "[I", true)
  | 35 => ("TwoBeatsAgoModel", "dances", "I", false)
  | 36 => ("TwoBeatsAgoModel", "books", "I", false)
  | 37 => ("TwoBeatsAgoModel", "danceWhat", "[I", true)
  | 38 => ("TwoBeatsAgoModel", "bookWho", "[I", true)
  | 39 => ("TwoBeatsAgoModel", "bookWhere", "[I", true)
  | 40 => ("TwoBeatsAgoModel", "hasImage", "Z", false)
  | 41 => ("TwoBeatsAgoModel", "imageThe", "I", false)
  | 42 => ("TwoBeatsAgoModel", "imageDancers", "I", false)
  | 43 => ("TwoBeatsAgoModel", "imageBeats", "I", false)
  | 44 => ("TwoBeatsAgoModel", "imageSeen", "I", false)
  | 45 => ("TwoBeatsAgoModel", "imageDances", "I", false)
  | 46 => ("TwoBeatsAgoModel", "imageBooks", "I", false)
  | 47 => ("TwoBeatsAgoModel", "imageKind", "[I", true)
  | 48 => ("TwoBeatsAgoModel", "imageV", "[I", true)
  | 49 => ("TwoBeatsAgoModel", "imageFollows", "[I", true)
  | 50 => ("TwoBeatsAgoModel", "imageRows", "[I", true)
  | 51 => ("TwoBeatsAgoModel", "imageWas", "[I", true)
  | 52 => ("TwoBeatsAgoModel", "imageWho", "[I", true)
  | 53 => ("TwoBeatsAgoModel", "imageWhere", "[I", true)
  | 54 => ("TwoBeatsAgoModel", "imageWhen", "[I", true)
  | 55 => ("TwoBeatsAgoModel", "imageDance", "[I", true)
  | 56 => ("TwoBeatsAgoModel", "imageBookWho", "[I", true)
  | 57 => ("TwoBeatsAgoModel", "imageBookWhere", "[I", true)
  | 58 => ("TwoBeatsAgoModel", "ran", "I", false)
  | 59 => ("TwoBeatsAgoModel", "bodies", "[I", true)
  | 60 => ("TwoBeatsAgoModel", "sort", "[I", true)
  | 61 => ("TwoBeatsAgoModel", "length", "[I", true)
  | 62 => ("TwoBeatsAgoModel", "item", "[J", true)
  | _ => ("TwoBeatsAgoModel", "aside", "[J", true)
def tyX7 : Nat → FieldType := fun k => match k with
  | 0 => .int
  | 1 => .int
  | 2 => .array .int
  | 3 => .array .int
  | 4 => .array .int
  | 5 => .array .int
  | 6 => .array .int
  | 7 => .int
  | 8 => .int
  | 9 => .int
  | 10 => .int
  | 11 => .int
  | 12 => .array .int
  | 13 => .array .int
  | 14 => .array .int
  | 15 => .array .int
  | 16 => .array .int
  | 17 => .array .int
  | 18 => .array .int
  | 19 => .array .int
  | 20 => .int
  | 21 => .int
  | 22 => .int
  | 23 => .array .int
  | 24 => .array .boolean
  | 25 => .array .boolean
  | 26 => .array .int
  | 27 => .int
  | 28 => .array .int
  | 29 => .array .int
  | 30 => .array .int
  | 31 => .int
  | 32 => .array .int
  | 33 => .array .int
  | 34 => .array .int
  | 35 => .int
  | 36 => .int
  | 37 => .array .int
  | 38 => .array .int
  | 39 => .array .int
  | 40 => .boolean
  | 41 => .int
  | 42 => .int
  | 43 => .int
  | 44 => .int
  | 45 => .int
  | 46 => .int
  | 47 => .array .int
  | 48 => .array .int
  | 49 => .array .int
  | 50 => .array .int
  | 51 => .array .int
  | 52 => .array .int
  | 53 => .array .int
  | 54 => .array .int
  | 55 => .array .int
  | 56 => .array .int
  | 57 => .array .int
  | 58 => .int
  | 59 => .array .int
  | 60 => .array .int
  | 61 => .array .int
  | 62 => .array .long
  | _ => .array .long
theorem nmX7 : ∀ a, a < 64 → ∀ b, b < 64 → a ≠ b → (TX7 a).2.1 ≠ (TX7 b).2.1 := by decide +kernel
theorem tyX7_ok : ∀ k, k < 64 → parseFieldDescriptor (TX7 k).2.2.1 = some (tyX7 k) := by decide +kernel
abbrev cX7_init : ByteArray := prog_9_method_1_code
def yX7_init : MethodName := ⟨RX7, "<init>", "()V"⟩
abbrev cX7_in : ByteArray := prog_9_method_2_code
def yX7_in : MethodName := ⟨RX7, "in", "(III)Z"⟩
abbrev cX7_isDancer : ByteArray := prog_9_method_3_code
def yX7_isDancer : MethodName := ⟨RX7, "isDancer", "(I)Z"⟩
abbrev cX7_isPlace : ByteArray := prog_9_method_4_code
def yX7_isPlace : MethodName := ⟨RX7, "isPlace", "(I)Z"⟩
abbrev cX7_isBeats : ByteArray := prog_9_method_5_code
def yX7_isBeats : MethodName := ⟨RX7, "isBeats", "(I)Z"⟩
abbrev cX7_laysAll : ByteArray := prog_9_method_6_code
def yX7_laysAll : MethodName := ⟨RX7, "laysAll", "(II)V"⟩
abbrev cX7_dancer : ByteArray := prog_9_method_7_code
def yX7_dancer : MethodName := ⟨RX7, "dancer", "(III)I"⟩
abbrev cX7_after : ByteArray := prog_9_method_8_code
def yX7_after : MethodName := ⟨RX7, "after", "(II)I"⟩
abbrev cX7_begin : ByteArray := prog_9_method_9_code
def yX7_begin : MethodName := ⟨RX7, "begin", "(II)I"⟩
abbrev cX7_row : ByteArray := prog_9_method_10_code
def yX7_row : MethodName := ⟨RX7, "row", "(III)I"⟩
abbrev cX7_feed : ByteArray := prog_9_method_11_code
def yX7_feed : MethodName := ⟨RX7, "feed", "(I)I"⟩
abbrev cX7_next : ByteArray := prog_9_method_12_code
def yX7_next : MethodName := ⟨RX7, "next", "()I"⟩
abbrev cX7_takes : ByteArray := prog_9_method_13_code
def yX7_takes : MethodName := ⟨RX7, "takes", "(I)Z"⟩
abbrev cX7_takesWord : ByteArray := prog_9_method_14_code
def yX7_takesWord : MethodName := ⟨RX7, "takesWord", "(II)Z"⟩
abbrev cX7_isDigit : ByteArray := prog_9_method_15_code
def yX7_isDigit : MethodName := ⟨RX7, "isDigit", "()Z"⟩
abbrev cX7_takesNumber : ByteArray := prog_9_method_16_code
def yX7_takesNumber : MethodName := ⟨RX7, "takesNumber", "()Z"⟩
abbrev cX7_emits : ByteArray := prog_9_method_17_code
def yX7_emits : MethodName := ⟨RX7, "emits", "(I)V"⟩
abbrev cX7_whole : ByteArray := prog_9_method_18_code
def yX7_whole : MethodName := ⟨RX7, "whole", "()V"⟩
abbrev cX7_settle : ByteArray := prog_9_method_19_code
def yX7_settle : MethodName := ⟨RX7, "settle", "(I)V"⟩
abbrev cX7_place : ByteArray := prog_9_method_20_code
def yX7_place : MethodName := ⟨RX7, "place", "(I)I"⟩
abbrev cX7_takesTest : ByteArray := prog_9_method_21_code
def yX7_takesTest : MethodName := ⟨RX7, "takesTest", "()Z"⟩
abbrev cX7_takesE : ByteArray := prog_9_method_22_code
def yX7_takesE : MethodName := ⟨RX7, "takesE", "(I)Z"⟩
abbrev cX7_takesHead : ByteArray := prog_9_method_23_code
def yX7_takesHead : MethodName := ⟨RX7, "takesHead", "(I)Z"⟩
abbrev cX7_takesClause : ByteArray := prog_9_method_24_code
def yX7_takesClause : MethodName := ⟨RX7, "takesClause", "(I)Z"⟩
abbrev cX7_goesText : ByteArray := prog_9_method_25_code
def yX7_goesText : MethodName := ⟨RX7, "goesText", "(I)Z"⟩
abbrev cX7_hall : ByteArray := prog_9_method_26_code
def yX7_hall : MethodName := ⟨RX7, "hall", "()I"⟩
abbrev cX7_firstClause : ByteArray := prog_9_method_27_code
def yX7_firstClause : MethodName := ⟨RX7, "firstClause", "()I"⟩
abbrev cX7_behindClauses : ByteArray := prog_9_method_28_code
def yX7_behindClauses : MethodName := ⟨RX7, "behindClauses", "()I"⟩
abbrev cX7_lastOf : ByteArray := prog_9_method_29_code
def yX7_lastOf : MethodName := ⟨RX7, "lastOf", "(II)I"⟩
abbrev cX7_wide : ByteArray := prog_9_method_30_code
def yX7_wide : MethodName := ⟨RX7, "wide", "()I"⟩
abbrev cX7_skip : ByteArray := prog_9_method_31_code
def yX7_skip : MethodName := ⟨RX7, "skip", "()I"⟩
abbrev cX7_factOf : ByteArray := prog_9_method_32_code
def yX7_factOf : MethodName := ⟨RX7, "factOf", "(II)I"⟩
abbrev cX7_holds : ByteArray := prog_9_method_33_code
def yX7_holds : MethodName := ⟨RX7, "holds", "(II)Z"⟩
abbrev cX7_step : ByteArray := prog_9_method_34_code
def yX7_step : MethodName := ⟨RX7, "step", "(I)I"⟩
abbrev cX7_round : ByteArray := prog_9_method_35_code
def yX7_round : MethodName := ⟨RX7, "round", "(I)I"⟩
abbrev cX7_goes : ByteArray := prog_9_method_36_code
def yX7_goes : MethodName := ⟨RX7, "goes", "(I)I"⟩
abbrev cX7_of : ByteArray := prog_9_method_37_code
def yX7_of : MethodName := ⟨RX7, "of", "(II)I"⟩
abbrev cX7_many : ByteArray := prog_9_method_38_code
def yX7_many : MethodName := ⟨RX7, "many", "()I"⟩
abbrev cX7_told : ByteArray := prog_9_method_39_code
def yX7_told : MethodName := ⟨RX7, "told", "(I)I"⟩
abbrev cX7_goBeat : ByteArray := prog_9_method_40_code
def yX7_goBeat : MethodName := ⟨RX7, "goBeat", "(Z)V"⟩
abbrev cX7_go : ByteArray := prog_9_method_41_code
def yX7_go : MethodName := ⟨RX7, "go", "()V"⟩
abbrev cX7_pass : ByteArray := prog_9_method_42_code
def yX7_pass : MethodName := ⟨RX7, "pass", "(I)I"⟩
abbrev cX7_save : ByteArray := prog_9_method_43_code
def yX7_save : MethodName := ⟨RX7, "save", "()V"⟩
abbrev cX7_putBack : ByteArray := prog_9_method_44_code
def yX7_putBack : MethodName := ⟨RX7, "putBack", "()V"⟩
abbrev cX7_on : ByteArray := prog_9_method_45_code
def yX7_on : MethodName := ⟨RX7, "on", "(II)I"⟩
abbrev cX7_isAsKept : ByteArray := prog_9_method_46_code
def yX7_isAsKept : MethodName := ⟨RX7, "isAsKept", "()Z"⟩
abbrev cX7_again : ByteArray := prog_9_method_47_code
def yX7_again : MethodName := ⟨RX7, "again", "()I"⟩
abbrev cX7_togetherBy : ByteArray := prog_9_method_48_code
def yX7_togetherBy : MethodName := ⟨RX7, "togetherBy", "(I)I"⟩
abbrev cX7_together : ByteArray := prog_9_method_49_code
def yX7_together : MethodName := ⟨RX7, "together", "()I"⟩
abbrev cX7_isStill : ByteArray := prog_9_method_50_code
def yX7_isStill : MethodName := ⟨RX7, "isStill", "()Z"⟩
abbrev cX7_still : ByteArray := prog_9_method_51_code
def yX7_still : MethodName := ⟨RX7, "still", "()I"⟩
abbrev cX7_meet : ByteArray := prog_9_method_52_code
def yX7_meet : MethodName := ⟨RX7, "meet", "(II)I"⟩
abbrev cX7_apart : ByteArray := prog_9_method_53_code
def yX7_apart : MethodName := ⟨RX7, "apart", "(II)I"⟩
abbrev cX7_far : ByteArray := prog_9_method_54_code
def yX7_far : MethodName := ⟨RX7, "far", "(III)I"⟩
abbrev cX7_whom : ByteArray := prog_9_method_55_code
def yX7_whom : MethodName := ⟨RX7, "whom", "(I)I"⟩
abbrev cX7_isAlone : ByteArray := prog_9_method_56_code
def yX7_isAlone : MethodName := ⟨RX7, "isAlone", "(I)Z"⟩
abbrev cX7_alone : ByteArray := prog_9_method_57_code
def yX7_alone : MethodName := ⟨RX7, "alone", "(III)I"⟩
abbrev cX7_stop : ByteArray := prog_9_method_58_code
def yX7_stop : MethodName := ⟨RX7, "stop", "()I"⟩
abbrev cX7_begins : ByteArray := prog_9_method_59_code
def yX7_begins : MethodName := ⟨RX7, "begins", "(III)I"⟩
abbrev cX7_counts : ByteArray := prog_9_method_60_code
def yX7_counts : MethodName := ⟨RX7, "counts", "()V"⟩
abbrev cX7_crowd : ByteArray := prog_9_method_61_code
def yX7_crowd : MethodName := ⟨RX7, "crowd", "(I)I"⟩
abbrev cX7_see : ByteArray := prog_9_method_62_code
def yX7_see : MethodName := ⟨RX7, "see", "(III)I"⟩
abbrev cX7_isSeen : ByteArray := prog_9_method_63_code
def yX7_isSeen : MethodName := ⟨RX7, "isSeen", "()Z"⟩
abbrev cX7_can : ByteArray := prog_9_method_64_code
def yX7_can : MethodName := ⟨RX7, "can", "(I)I"⟩
abbrev cX7_divisor : ByteArray := prog_9_method_65_code
def yX7_divisor : MethodName := ⟨RX7, "divisor", "(II)I"⟩
abbrev cX7_lowest : ByteArray := prog_9_method_66_code
def yX7_lowest : MethodName := ⟨RX7, "lowest", "(III)J"⟩
abbrev cX7_odds : ByteArray := prog_9_method_67_code
def yX7_odds : MethodName := ⟨RX7, "odds", "(II)J"⟩
abbrev cX7_mean : ByteArray := prog_9_method_68_code
def yX7_mean : MethodName := ⟨RX7, "mean", "(II)J"⟩
abbrev cX7_dance : ByteArray := prog_9_method_69_code
def yX7_dance : MethodName := ⟨RX7, "dance", "(I)I"⟩
abbrev cX7_danced : ByteArray := prog_9_method_70_code
def yX7_danced : MethodName := ⟨RX7, "danced", "(I)I"⟩
abbrev cX7_book : ByteArray := prog_9_method_71_code
def yX7_book : MethodName := ⟨RX7, "book", "(II)I"⟩
abbrev cX7_looked : ByteArray := prog_9_method_72_code
def yX7_looked : MethodName := ⟨RX7, "looked", "()I"⟩
abbrev cX7_judge : ByteArray := prog_9_method_73_code
def yX7_judge : MethodName := ⟨RX7, "judge", "(II)I"⟩
abbrev cX7_image : ByteArray := prog_9_method_74_code
def yX7_image : MethodName := ⟨RX7, "image", "()I"⟩
abbrev cX7_undo : ByteArray := prog_9_method_75_code
def yX7_undo : MethodName := ⟨RX7, "undo", "()I"⟩
abbrev cX7_body : ByteArray := prog_9_method_76_code
def yX7_body : MethodName := ⟨RX7, "body", "(I)V"⟩
abbrev cX7_dancerSteps : ByteArray := prog_9_method_77_code
def yX7_dancerSteps : MethodName := ⟨RX7, "dancerSteps", "(II)I"⟩
abbrev cX7_stepsAct : ByteArray := prog_9_method_78_code
def yX7_stepsAct : MethodName := ⟨RX7, "stepsAct", "(II)I"⟩
abbrev cX7_dancerTurns : ByteArray := prog_9_method_79_code
def yX7_dancerTurns : MethodName := ⟨RX7, "dancerTurns", "(II)I"⟩
abbrev cX7_lateTurns : ByteArray := prog_9_method_80_code
def yX7_lateTurns : MethodName := ⟨RX7, "lateTurns", "(II)I"⟩
abbrev cX7_turnsAct : ByteArray := prog_9_method_81_code
def yX7_turnsAct : MethodName := ⟨RX7, "turnsAct", "(II)I"⟩
abbrev cX7_dancerTells : ByteArray := prog_9_method_82_code
def yX7_dancerTells : MethodName := ⟨RX7, "dancerTells", "(II)I"⟩
abbrev cX7_tellsAct : ByteArray := prog_9_method_83_code
def yX7_tellsAct : MethodName := ⟨RX7, "tellsAct", "(II)I"⟩
abbrev cX7_act : ByteArray := prog_9_method_84_code
def yX7_act : MethodName := ⟨RX7, "act", "(III)I"⟩
abbrev cX7_trace : ByteArray := prog_9_method_85_code
def yX7_trace : MethodName := ⟨RX7, "trace", "(I)I"⟩
abbrev cX7_taken : ByteArray := prog_9_method_86_code
def yX7_taken : MethodName := ⟨RX7, "taken", "(II)I"⟩
abbrev cX7_count : ByteArray := prog_9_method_87_code
def yX7_count : MethodName := ⟨RX7, "count", "(I)I"⟩
abbrev cX7_isTape : ByteArray := prog_9_method_88_code
def yX7_isTape : MethodName := ⟨RX7, "isTape", "(I)Z"⟩
abbrev cX7_tape : ByteArray := prog_9_method_89_code
def yX7_tape : MethodName := ⟨RX7, "tape", "(III)I"⟩
abbrev cX7_narrow : ByteArray := prog_9_method_90_code
def yX7_narrow : MethodName := ⟨RX7, "narrow", "(IJ)J"⟩
abbrev cX7_item : ByteArray := prog_9_method_91_code
def yX7_item : MethodName := ⟨RX7, "item", "(IIJ)I"⟩
abbrev cX7_read : ByteArray := prog_9_method_92_code
def yX7_read : MethodName := ⟨RX7, "read", "(II)J"⟩
abbrev cX7_shift : ByteArray := prog_9_method_93_code
def yX7_shift : MethodName := ⟨RX7, "shift", "(IIIII)I"⟩
def RJx145de : String := "java/io/Serializable"
def RJx9f9b0 : String := "java/lang/CharSequence"
def RJ11 : String := "java/lang/Character"
abbrev cJ11_isValidCodePoint_9a6ad : ByteArray := prog_10_method_11_code
def yJ11_isValidCodePoint_9a6ad : MethodName := ⟨RJ11, "isValidCodePoint", "(I)Z"⟩
abbrev cJ11_highSurrogate_5068e : ByteArray := prog_10_method_28_code
def yJ11_highSurrogate_5068e : MethodName := ⟨RJ11, "highSurrogate", "(I)C"⟩
abbrev cJ11_lowSurrogate_5068e : ByteArray := prog_10_method_29_code
def yJ11_lowSurrogate_5068e : MethodName := ⟨RJ11, "lowSurrogate", "(I)C"⟩
def RJxb160c : String := "java/lang/Comparable"
def RJ9 : String := "java/lang/Math"
abbrev cJ9_floorMod_7cf53 : ByteArray := prog_11_method_50_code
def yJ9_floorMod_7cf53 : MethodName := ⟨RJ9, "floorMod", "(II)I"⟩
abbrev cJ9_max_7cf53 : ByteArray := prog_11_method_65_code
def yJ9_max_7cf53 : MethodName := ⟨RJ9, "max", "(II)I"⟩
abbrev cJ9_min_7cf53 : ByteArray := prog_11_method_69_code
def yJ9_min_7cf53 : MethodName := ⟨RJ9, "min", "(II)I"⟩
def RJ0 : String := "java/lang/String"
abbrev cJ0_length_8abf5 : ByteArray := prog_12_method_54_code
def yJ0_length_8abf5 : MethodName := ⟨RJ0, "length", "()I"⟩
abbrev cJ0_charAt_5068e : ByteArray := prog_12_method_56_code
def yJ0_charAt_5068e : MethodName := ⟨RJ0, "charAt", "(I)C"⟩
abbrev cJ0_indexOf_0f7a4 : ByteArray := prog_12_method_79_code
def yJ0_indexOf_0f7a4 : MethodName := ⟨RJ0, "indexOf", "(I)I"⟩
abbrev cJ0_indexOf_7cf53 : ByteArray := prog_12_method_80_code
def yJ0_indexOf_7cf53 : MethodName := ⟨RJ0, "indexOf", "(II)I"⟩
abbrev cJ0_coder_7d493 : ByteArray := prog_12_method_152_code
def yJ0_coder_7d493 : MethodName := ⟨RJ0, "coder", "()B"⟩
abbrev cJ0_isLatin1_aae02 : ByteArray := prog_12_method_154_code
def yJ0_isLatin1_aae02 : MethodName := ⟨RJ0, "isLatin1", "()Z"⟩
abbrev cJ0_checkIndex_df160 : ByteArray := prog_12_method_155_code
def yJ0_checkIndex_df160 : MethodName := ⟨RJ0, "checkIndex", "(II)V"⟩
abbrev cJ0_checkBoundsBeginEnd_23922 : ByteArray := prog_12_method_158_code
def yJ0_checkBoundsBeginEnd_23922 : MethodName := ⟨RJ0, "checkBoundsBeginEnd", "(III)V"⟩
def RJ1 : String := "java/lang/StringLatin1"
abbrev cJ1_charAt_3b067 : ByteArray := prog_13_method_2_code
def yJ1_charAt_3b067 : MethodName := ⟨RJ1, "charAt", "([BI)C"⟩
abbrev cJ1_canEncode_9a6ad : ByteArray := prog_13_method_4_code
def yJ1_canEncode_9a6ad : MethodName := ⟨RJ1, "canEncode", "(I)Z"⟩
abbrev cJ1_indexOf_4cfef : ByteArray := prog_13_method_22_code
def yJ1_indexOf_4cfef : MethodName := ⟨RJ1, "indexOf", "([BIII)I"⟩
abbrev cJ1_indexOfChar_4cfef : ByteArray := prog_13_method_23_code
def yJ1_indexOfChar_4cfef : MethodName := ⟨RJ1, "indexOfChar", "([BIII)I"⟩
def RJ2 : String := "java/lang/StringUTF16"
abbrev cJ2_getChar_3b067 : ByteArray := prog_14_method_5_code
def yJ2_getChar_3b067 : MethodName := ⟨RJ2, "getChar", "([BI)C"⟩
abbrev cJ2_length_9d52b : ByteArray := prog_14_method_6_code
def yJ2_length_9d52b : MethodName := ⟨RJ2, "length", "([B)I"⟩
abbrev cJ2_indexOf_4cfef : ByteArray := prog_14_method_40_code
def yJ2_indexOf_4cfef : MethodName := ⟨RJ2, "indexOf", "([BIII)I"⟩
abbrev cJ2_indexOfChar_4cfef : ByteArray := prog_14_method_47_code
def yJ2_indexOfChar_4cfef : MethodName := ⟨RJ2, "indexOfChar", "([BIII)I"⟩
abbrev cJ2_indexOfCharUnsafe_4cfef : ByteArray := prog_14_method_48_code
def yJ2_indexOfCharUnsafe_4cfef : MethodName := ⟨RJ2, "indexOfCharUnsafe", "([BIII)I"⟩
abbrev cJ2_indexOfSupplementary_4cfef : ByteArray := prog_14_method_49_code
def yJ2_indexOfSupplementary_4cfef : MethodName := ⟨RJ2, "indexOfSupplementary", "([BIII)I"⟩
abbrev cJ2_charAt_3b067 : ByteArray := prog_14_method_83_code
def yJ2_charAt_3b067 : MethodName := ⟨RJ2, "charAt", "([BI)C"⟩
abbrev cJ2_checkIndex_2214a : ByteArray := prog_14_method_91_code
def yJ2_checkIndex_2214a : MethodName := ⟨RJ2, "checkIndex", "(I[B)V"⟩
abbrev cJ2_checkBoundsBeginEnd_d044e : ByteArray := prog_14_method_93_code
def yJ2_checkBoundsBeginEnd_d044e : MethodName := ⟨RJ2, "checkBoundsBeginEnd", "(II[B)V"⟩
def RJ10 : String := "java/lang/System"
def RJxfd54e : String := "java/lang/constant/Constable"
def RJx3cf43 : String := "java/lang/constant/ConstantDesc"
def RJ7 : String := "java/util/Arrays"
abbrev cJ7_fill_d0a16 : ByteArray := prog_16_method_101_code
def yJ7_fill_d0a16 : MethodName := ⟨RJ7, "fill", "([JJ)V"⟩
abbrev cJ7_fill_53178 : ByteArray := prog_16_method_103_code
def yJ7_fill_53178 : MethodName := ⟨RJ7, "fill", "([II)V"⟩
def RJ3 : String := "jdk/internal/util/Preconditions"
abbrev cJ3_checkIndex_8e157 : ByteArray := prog_17_method_11_code
def yJ3_checkIndex_8e157 : MethodName := ⟨RJ3, "checkIndex", "(IILjava/util/function/BiFunction;)I"⟩
abbrev cJ3_checkFromToIndex_8c36e : ByteArray := prog_17_method_12_code
def yJ3_checkFromToIndex_8c36e : MethodName := ⟨RJ3, "checkFromToIndex", "(IIILjava/util/function/BiFunction;)I"⟩
def RL : String := "TwoBeatsAgoLaw"
abbrev cL_law : ByteArray := code
def yL_law : MethodName := ⟨RL, "law", "([I)Z"⟩
abbrev qcl : List vw_C := [(RX0, TX0, 5), (RX1, TX1, 9), (RX2, TX2, 9), (RX3, TX3, 7), (RX4, TX4, 3), (RX5, TX5, 3), (RX6, TX6, 12), (RX7, TX7, 64)]
