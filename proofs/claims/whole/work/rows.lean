section
-- ===== PART A: goes FIRST, ahead of the names: the tables' words, and 'selects' of the private methods out of them =====
/-- a private method of a class that the tables say can be made, by its rows of tables_1 -/
def lw_okq (q : MethodName × Nat) : Prop := (q.1.cls ≠ "java/lang/invoke/MethodHandle" ∧ q.1.cls ≠ "java/lang/invoke/VarHandle") ∧ Cond.instantiable q.1.cls q.2 ∈ tables_1 ∧ Cond.privateMethod q.1 ∈ tables_1 ∧ Cond.instanceMethod q.1 ∈ tables_1
theorem lw_p0 : lw_okq (⟨"TwoBeatsAgo$Floor", "hasPlace", "(I)Z"⟩, 9) := ⟨⟨by decide +kernel, by decide +kernel⟩, List.mem_of_getElem? (i := 59) (by decide +kernel), List.mem_of_getElem? (i := 246) (by decide +kernel), List.mem_of_getElem? (i := 247) (by decide +kernel)⟩
theorem lw_p1 : lw_okq (⟨"TwoBeatsAgo$Floor", "join", "(III)I"⟩, 9) := ⟨⟨by decide +kernel, by decide +kernel⟩, List.mem_of_getElem? (i := 59) (by decide +kernel), List.mem_of_getElem? (i := 250) (by decide +kernel), List.mem_of_getElem? (i := 251) (by decide +kernel)⟩
theorem lw_p2 : lw_okq (⟨"TwoBeatsAgo$Floor", "standAt", "(II)V"⟩, 9) := ⟨⟨by decide +kernel, by decide +kernel⟩, List.mem_of_getElem? (i := 59) (by decide +kernel), List.mem_of_getElem? (i := 254) (by decide +kernel), List.mem_of_getElem? (i := 255) (by decide +kernel)⟩
theorem lw_p3 : lw_okq (⟨"TwoBeatsAgo$Floor", "has", "(I)Z"⟩, 9) := ⟨⟨by decide +kernel, by decide +kernel⟩, List.mem_of_getElem? (i := 59) (by decide +kernel), List.mem_of_getElem? (i := 258) (by decide +kernel), List.mem_of_getElem? (i := 259) (by decide +kernel)⟩
theorem lw_p4 : lw_okq (⟨"TwoBeatsAgo$Hall", "stepFor", "(LTwoBeatsAgo$Floor;I)I"⟩, 7) := ⟨⟨by decide +kernel, by decide +kernel⟩, List.mem_of_getElem? (i := 26) (by decide +kernel), List.mem_of_getElem? (i := 267) (by decide +kernel), List.mem_of_getElem? (i := 268) (by decide +kernel)⟩
theorem lw_p5 : lw_okq (⟨"TwoBeatsAgo$Hall", "holds", "(IILTwoBeatsAgo$Floor;I)Z"⟩, 7) := ⟨⟨by decide +kernel, by decide +kernel⟩, List.mem_of_getElem? (i := 26) (by decide +kernel), List.mem_of_getElem? (i := 271) (by decide +kernel), List.mem_of_getElem? (i := 272) (by decide +kernel)⟩
theorem lw_p6 : lw_okq (⟨"TwoBeatsAgo$Floor", "letterOf", "(II)I"⟩, 9) := ⟨⟨by decide +kernel, by decide +kernel⟩, List.mem_of_getElem? (i := 59) (by decide +kernel), List.mem_of_getElem? (i := 279) (by decide +kernel), List.mem_of_getElem? (i := 280) (by decide +kernel)⟩
theorem lw_p7 : lw_okq (⟨"TwoBeatsAgo$Floor", "goesOf", "(I)I"⟩, 9) := ⟨⟨by decide +kernel, by decide +kernel⟩, List.mem_of_getElem? (i := 59) (by decide +kernel), List.mem_of_getElem? (i := 283) (by decide +kernel), List.mem_of_getElem? (i := 284) (by decide +kernel)⟩
theorem lw_p8 : lw_okq (⟨"TwoBeatsAgo$Floor", "wasOf", "(II)I"⟩, 9) := ⟨⟨by decide +kernel, by decide +kernel⟩, List.mem_of_getElem? (i := 59) (by decide +kernel), List.mem_of_getElem? (i := 288) (by decide +kernel), List.mem_of_getElem? (i := 289) (by decide +kernel)⟩
theorem lw_p9 : lw_okq (⟨"TwoBeatsAgo$Floor", "isLazyNow", "(I)Z"⟩, 9) := ⟨⟨by decide +kernel, by decide +kernel⟩, List.mem_of_getElem? (i := 59) (by decide +kernel), List.mem_of_getElem? (i := 292) (by decide +kernel), List.mem_of_getElem? (i := 293) (by decide +kernel)⟩
theorem lw_p10 : lw_okq (⟨"TwoBeatsAgo$Floor", "follow", "(II)V"⟩, 9) := ⟨⟨by decide +kernel, by decide +kernel⟩, List.mem_of_getElem? (i := 59) (by decide +kernel), List.mem_of_getElem? (i := 307) (by decide +kernel), List.mem_of_getElem? (i := 308) (by decide +kernel)⟩
theorem lw_p11 : lw_okq (⟨"TwoBeatsAgo$HallText", "add", "(C)V"⟩, 3) := ⟨⟨by decide +kernel, by decide +kernel⟩, List.mem_of_getElem? (i := 141) (by decide +kernel), List.mem_of_getElem? (i := 324) (by decide +kernel), List.mem_of_getElem? (i := 325) (by decide +kernel)⟩
theorem lw_p12 : lw_okq (⟨"TwoBeatsAgo$HallText", "readInto", "(LTwoBeatsAgo$Hall;)Z"⟩, 3) := ⟨⟨by decide +kernel, by decide +kernel⟩, List.mem_of_getElem? (i := 141) (by decide +kernel), List.mem_of_getElem? (i := 332) (by decide +kernel), List.mem_of_getElem? (i := 333) (by decide +kernel)⟩
theorem lw_p13 : lw_okq (⟨"TwoBeatsAgo$Hall", "clear", "()V"⟩, 7) := ⟨⟨by decide +kernel, by decide +kernel⟩, List.mem_of_getElem? (i := 26) (by decide +kernel), List.mem_of_getElem? (i := 336) (by decide +kernel), List.mem_of_getElem? (i := 337) (by decide +kernel)⟩
theorem lw_p14 : lw_okq (⟨"TwoBeatsAgo$HallText", "readClause", "(LTwoBeatsAgo$Hall;)Z"⟩, 3) := ⟨⟨by decide +kernel, by decide +kernel⟩, List.mem_of_getElem? (i := 141) (by decide +kernel), List.mem_of_getElem? (i := 340) (by decide +kernel), List.mem_of_getElem? (i := 341) (by decide +kernel)⟩
theorem lw_p15 : lw_okq (⟨"TwoBeatsAgo$HallText", "ahead", "()C"⟩, 3) := ⟨⟨by decide +kernel, by decide +kernel⟩, List.mem_of_getElem? (i := 141) (by decide +kernel), List.mem_of_getElem? (i := 344) (by decide +kernel), List.mem_of_getElem? (i := 345) (by decide +kernel)⟩
def lw_privs_1 : List (MethodName × Nat) := [(⟨"TwoBeatsAgo$Floor", "hasPlace", "(I)Z"⟩, 9), (⟨"TwoBeatsAgo$Floor", "join", "(III)I"⟩, 9), (⟨"TwoBeatsAgo$Floor", "standAt", "(II)V"⟩, 9), (⟨"TwoBeatsAgo$Floor", "has", "(I)Z"⟩, 9), (⟨"TwoBeatsAgo$Hall", "stepFor", "(LTwoBeatsAgo$Floor;I)I"⟩, 7), (⟨"TwoBeatsAgo$Hall", "holds", "(IILTwoBeatsAgo$Floor;I)Z"⟩, 7), (⟨"TwoBeatsAgo$Floor", "letterOf", "(II)I"⟩, 9), (⟨"TwoBeatsAgo$Floor", "goesOf", "(I)I"⟩, 9), (⟨"TwoBeatsAgo$Floor", "wasOf", "(II)I"⟩, 9), (⟨"TwoBeatsAgo$Floor", "isLazyNow", "(I)Z"⟩, 9), (⟨"TwoBeatsAgo$Floor", "follow", "(II)V"⟩, 9), (⟨"TwoBeatsAgo$HallText", "add", "(C)V"⟩, 3), (⟨"TwoBeatsAgo$HallText", "readInto", "(LTwoBeatsAgo$Hall;)Z"⟩, 3), (⟨"TwoBeatsAgo$Hall", "clear", "()V"⟩, 7), (⟨"TwoBeatsAgo$HallText", "readClause", "(LTwoBeatsAgo$Hall;)Z"⟩, 3), (⟨"TwoBeatsAgo$HallText", "ahead", "()C"⟩, 3)]
theorem lw_r1 : ∀ q ∈ lw_privs_1, lw_okq q := List.forall_mem_cons.mpr ⟨lw_p0, List.forall_mem_cons.mpr ⟨lw_p1, List.forall_mem_cons.mpr ⟨lw_p2, List.forall_mem_cons.mpr ⟨lw_p3, List.forall_mem_cons.mpr ⟨lw_p4, List.forall_mem_cons.mpr ⟨lw_p5, List.forall_mem_cons.mpr ⟨lw_p6, List.forall_mem_cons.mpr ⟨lw_p7, List.forall_mem_cons.mpr ⟨lw_p8, List.forall_mem_cons.mpr ⟨lw_p9, List.forall_mem_cons.mpr ⟨lw_p10, List.forall_mem_cons.mpr ⟨lw_p11, List.forall_mem_cons.mpr ⟨lw_p12, List.forall_mem_cons.mpr ⟨lw_p13, List.forall_mem_cons.mpr ⟨lw_p14, List.forall_mem_cons.mpr ⟨lw_p15, fun _ h => absurd h List.not_mem_nil⟩⟩⟩⟩⟩⟩⟩⟩⟩⟩⟩⟩⟩⟩⟩⟩
theorem lw_p16 : lw_okq (⟨"TwoBeatsAgo$HallText", "takesAll", "(Ljava/lang/String;)Z"⟩, 3) := ⟨⟨by decide +kernel, by decide +kernel⟩, List.mem_of_getElem? (i := 141) (by decide +kernel), List.mem_of_getElem? (i := 355) (by decide +kernel), List.mem_of_getElem? (i := 356) (by decide +kernel)⟩
theorem lw_p17 : lw_okq (⟨"TwoBeatsAgo$HallText", "takes", "(C)Z"⟩, 3) := ⟨⟨by decide +kernel, by decide +kernel⟩, List.mem_of_getElem? (i := 141) (by decide +kernel), List.mem_of_getElem? (i := 407) (by decide +kernel), List.mem_of_getElem? (i := 408) (by decide +kernel)⟩
theorem lw_p18 : lw_okq (⟨"TwoBeatsAgo$HallText", "readNumber", "()I"⟩, 3) := ⟨⟨by decide +kernel, by decide +kernel⟩, List.mem_of_getElem? (i := 141) (by decide +kernel), List.mem_of_getElem? (i := 411) (by decide +kernel), List.mem_of_getElem? (i := 412) (by decide +kernel)⟩
theorem lw_p19 : lw_okq (⟨"TwoBeatsAgo$Hall", "setWide", "(I)V"⟩, 7) := ⟨⟨by decide +kernel, by decide +kernel⟩, List.mem_of_getElem? (i := 26) (by decide +kernel), List.mem_of_getElem? (i := 415) (by decide +kernel), List.mem_of_getElem? (i := 416) (by decide +kernel)⟩
theorem lw_p20 : lw_okq (⟨"TwoBeatsAgo$HallText", "readAnyOf", "(LTwoBeatsAgo$Hall;I)Z"⟩, 3) := ⟨⟨by decide +kernel, by decide +kernel⟩, List.mem_of_getElem? (i := 141) (by decide +kernel), List.mem_of_getElem? (i := 425) (by decide +kernel), List.mem_of_getElem? (i := 426) (by decide +kernel)⟩
theorem lw_p21 : lw_okq (⟨"TwoBeatsAgo$HallText", "readAllOf", "(LTwoBeatsAgo$Hall;I)Z"⟩, 3) := ⟨⟨by decide +kernel, by decide +kernel⟩, List.mem_of_getElem? (i := 141) (by decide +kernel), List.mem_of_getElem? (i := 429) (by decide +kernel), List.mem_of_getElem? (i := 430) (by decide +kernel)⟩
theorem lw_p22 : lw_okq (⟨"TwoBeatsAgo$HallText", "readOne", "(LTwoBeatsAgo$Hall;I)Z"⟩, 3) := ⟨⟨by decide +kernel, by decide +kernel⟩, List.mem_of_getElem? (i := 141) (by decide +kernel), List.mem_of_getElem? (i := 433) (by decide +kernel), List.mem_of_getElem? (i := 434) (by decide +kernel)⟩
theorem lw_p23 : lw_okq (⟨"TwoBeatsAgo$HallText", "readTest", "(LTwoBeatsAgo$Hall;)Z"⟩, 3) := ⟨⟨by decide +kernel, by decide +kernel⟩, List.mem_of_getElem? (i := 141) (by decide +kernel), List.mem_of_getElem? (i := 437) (by decide +kernel), List.mem_of_getElem? (i := 438) (by decide +kernel)⟩
theorem lw_p24 : lw_okq (⟨"TwoBeatsAgo$Hall", "addCode", "(I)V"⟩, 7) := ⟨⟨by decide +kernel, by decide +kernel⟩, List.mem_of_getElem? (i := 26) (by decide +kernel), List.mem_of_getElem? (i := 501) (by decide +kernel), List.mem_of_getElem? (i := 502) (by decide +kernel)⟩
theorem lw_p25 : lw_okq (⟨"TwoBeatsAgo$Hall", "addStep", "(I)V"⟩, 7) := ⟨⟨by decide +kernel, by decide +kernel⟩, List.mem_of_getElem? (i := 26) (by decide +kernel), List.mem_of_getElem? (i := 505) (by decide +kernel), List.mem_of_getElem? (i := 506) (by decide +kernel)⟩
theorem lw_p26 : lw_okq (⟨"TwoBeatsAgo$Floor", "wrapAll", "()V"⟩, 9) := ⟨⟨by decide +kernel, by decide +kernel⟩, List.mem_of_getElem? (i := 59) (by decide +kernel), List.mem_of_getElem? (i := 509) (by decide +kernel), List.mem_of_getElem? (i := 510) (by decide +kernel)⟩
theorem lw_p27 : lw_okq (⟨"TwoBeatsAgo$Floor", "placesTaken", "()I"⟩, 9) := ⟨⟨by decide +kernel, by decide +kernel⟩, List.mem_of_getElem? (i := 59) (by decide +kernel), List.mem_of_getElem? (i := 518) (by decide +kernel), List.mem_of_getElem? (i := 519) (by decide +kernel)⟩
theorem lw_p28 : lw_okq (⟨"TwoBeatsAgo$Floor", "goBeats", "(I)V"⟩, 9) := ⟨⟨by decide +kernel, by decide +kernel⟩, List.mem_of_getElem? (i := 59) (by decide +kernel), List.mem_of_getElem? (i := 526) (by decide +kernel), List.mem_of_getElem? (i := 527) (by decide +kernel)⟩
theorem lw_p29 : lw_okq (⟨"TwoBeatsAgo$Floor", "goBeat", "(Z)V"⟩, 9) := ⟨⟨by decide +kernel, by decide +kernel⟩, List.mem_of_getElem? (i := 59) (by decide +kernel), List.mem_of_getElem? (i := 530) (by decide +kernel), List.mem_of_getElem? (i := 531) (by decide +kernel)⟩
theorem lw_p30 : lw_okq (⟨"TwoBeatsAgo$Hall", "stopsAfter", "(I)Z"⟩, 7) := ⟨⟨by decide +kernel, by decide +kernel⟩, List.mem_of_getElem? (i := 26) (by decide +kernel), List.mem_of_getElem? (i := 534) (by decide +kernel), List.mem_of_getElem? (i := 535) (by decide +kernel)⟩
theorem lw_p31 : lw_okq (⟨"TwoBeatsAgo", "asksForPlaces", "(I)Z"⟩, 12) := ⟨⟨by decide +kernel, by decide +kernel⟩, List.mem_of_getElem? (i := 18) (by decide +kernel), List.mem_of_getElem? (i := 546) (by decide +kernel), List.mem_of_getElem? (i := 547) (by decide +kernel)⟩
def lw_privs_2 : List (MethodName × Nat) := [(⟨"TwoBeatsAgo$HallText", "takesAll", "(Ljava/lang/String;)Z"⟩, 3), (⟨"TwoBeatsAgo$HallText", "takes", "(C)Z"⟩, 3), (⟨"TwoBeatsAgo$HallText", "readNumber", "()I"⟩, 3), (⟨"TwoBeatsAgo$Hall", "setWide", "(I)V"⟩, 7), (⟨"TwoBeatsAgo$HallText", "readAnyOf", "(LTwoBeatsAgo$Hall;I)Z"⟩, 3), (⟨"TwoBeatsAgo$HallText", "readAllOf", "(LTwoBeatsAgo$Hall;I)Z"⟩, 3), (⟨"TwoBeatsAgo$HallText", "readOne", "(LTwoBeatsAgo$Hall;I)Z"⟩, 3), (⟨"TwoBeatsAgo$HallText", "readTest", "(LTwoBeatsAgo$Hall;)Z"⟩, 3), (⟨"TwoBeatsAgo$Hall", "addCode", "(I)V"⟩, 7), (⟨"TwoBeatsAgo$Hall", "addStep", "(I)V"⟩, 7), (⟨"TwoBeatsAgo$Floor", "wrapAll", "()V"⟩, 9), (⟨"TwoBeatsAgo$Floor", "placesTaken", "()I"⟩, 9), (⟨"TwoBeatsAgo$Floor", "goBeats", "(I)V"⟩, 9), (⟨"TwoBeatsAgo$Floor", "goBeat", "(Z)V"⟩, 9), (⟨"TwoBeatsAgo$Hall", "stopsAfter", "(I)Z"⟩, 7), (⟨"TwoBeatsAgo", "asksForPlaces", "(I)Z"⟩, 12)]
theorem lw_r2 : ∀ q ∈ lw_privs_2, lw_okq q := List.forall_mem_cons.mpr ⟨lw_p16, List.forall_mem_cons.mpr ⟨lw_p17, List.forall_mem_cons.mpr ⟨lw_p18, List.forall_mem_cons.mpr ⟨lw_p19, List.forall_mem_cons.mpr ⟨lw_p20, List.forall_mem_cons.mpr ⟨lw_p21, List.forall_mem_cons.mpr ⟨lw_p22, List.forall_mem_cons.mpr ⟨lw_p23, List.forall_mem_cons.mpr ⟨lw_p24, List.forall_mem_cons.mpr ⟨lw_p25, List.forall_mem_cons.mpr ⟨lw_p26, List.forall_mem_cons.mpr ⟨lw_p27, List.forall_mem_cons.mpr ⟨lw_p28, List.forall_mem_cons.mpr ⟨lw_p29, List.forall_mem_cons.mpr ⟨lw_p30, List.forall_mem_cons.mpr ⟨lw_p31, fun _ h => absurd h List.not_mem_nil⟩⟩⟩⟩⟩⟩⟩⟩⟩⟩⟩⟩⟩⟩⟩⟩
theorem lw_p32 : lw_okq (⟨"TwoBeatsAgo$Floor", "become", "(LTwoBeatsAgo$Floor;)V"⟩, 9) := ⟨⟨by decide +kernel, by decide +kernel⟩, List.mem_of_getElem? (i := 59) (by decide +kernel), List.mem_of_getElem? (i := 550) (by decide +kernel), List.mem_of_getElem? (i := 551) (by decide +kernel)⟩
theorem lw_p33 : lw_okq (⟨"TwoBeatsAgo", "placesAsked", "(I)I"⟩, 12) := ⟨⟨by decide +kernel, by decide +kernel⟩, List.mem_of_getElem? (i := 18) (by decide +kernel), List.mem_of_getElem? (i := 554) (by decide +kernel), List.mem_of_getElem? (i := 555) (by decide +kernel)⟩
theorem lw_p34 : lw_okq (⟨"TwoBeatsAgo$Floor", "standsAs", "(LTwoBeatsAgo$Floor;)Z"⟩, 9) := ⟨⟨by decide +kernel, by decide +kernel⟩, List.mem_of_getElem? (i := 59) (by decide +kernel), List.mem_of_getElem? (i := 563) (by decide +kernel), List.mem_of_getElem? (i := 564) (by decide +kernel)⟩
theorem lw_p35 : lw_okq (⟨"TwoBeatsAgo$Floor", "beatsTillTogether", "(II)I"⟩, 9) := ⟨⟨by decide +kernel, by decide +kernel⟩, List.mem_of_getElem? (i := 59) (by decide +kernel), List.mem_of_getElem? (i := 571) (by decide +kernel), List.mem_of_getElem? (i := 572) (by decide +kernel)⟩
theorem lw_p36 : lw_okq (⟨"TwoBeatsAgo$Floor", "areTogether", "()Z"⟩, 9) := ⟨⟨by decide +kernel, by decide +kernel⟩, List.mem_of_getElem? (i := 59) (by decide +kernel), List.mem_of_getElem? (i := 575) (by decide +kernel), List.mem_of_getElem? (i := 576) (by decide +kernel)⟩
theorem lw_p37 : lw_okq (⟨"TwoBeatsAgo$Floor", "nobodyMoves", "()Z"⟩, 9) := ⟨⟨by decide +kernel, by decide +kernel⟩, List.mem_of_getElem? (i := 59) (by decide +kernel), List.mem_of_getElem? (i := 583) (by decide +kernel), List.mem_of_getElem? (i := 584) (by decide +kernel)⟩
theorem lw_p38 : lw_okq (⟨"TwoBeatsAgo$Floor", "apart", "(II)I"⟩, 9) := ⟨⟨by decide +kernel, by decide +kernel⟩, List.mem_of_getElem? (i := 59) (by decide +kernel), List.mem_of_getElem? (i := 595) (by decide +kernel), List.mem_of_getElem? (i := 596) (by decide +kernel)⟩
theorem lw_p39 : lw_okq (⟨"TwoBeatsAgo$Floor", "beatsAlone", "(II)I"⟩, 9) := ⟨⟨by decide +kernel, by decide +kernel⟩, List.mem_of_getElem? (i := 59) (by decide +kernel), List.mem_of_getElem? (i := 609) (by decide +kernel), List.mem_of_getElem? (i := 610) (by decide +kernel)⟩
theorem lw_p40 : lw_okq (⟨"TwoBeatsAgo$Floor", "isAlone", "(I)Z"⟩, 9) := ⟨⟨by decide +kernel, by decide +kernel⟩, List.mem_of_getElem? (i := 59) (by decide +kernel), List.mem_of_getElem? (i := 613) (by decide +kernel), List.mem_of_getElem? (i := 614) (by decide +kernel)⟩
theorem lw_p41 : lw_okq (⟨"TwoBeatsAgo$Floor", "countStanding", "([I)V"⟩, 9) := ⟨⟨by decide +kernel, by decide +kernel⟩, List.mem_of_getElem? (i := 59) (by decide +kernel), List.mem_of_getElem? (i := 632) (by decide +kernel), List.mem_of_getElem? (i := 633) (by decide +kernel)⟩
theorem lw_p42 : lw_okq (⟨"TwoBeatsAgo$ByHand", "addSeen", "(III)I"⟩, 9) := ⟨⟨by decide +kernel, by decide +kernel⟩, List.mem_of_getElem? (i := 103) (by decide +kernel), List.mem_of_getElem? (i := 640) (by decide +kernel), List.mem_of_getElem? (i := 641) (by decide +kernel)⟩
theorem lw_p43 : lw_okq (⟨"TwoBeatsAgo$ByHand", "allSeenOn", "(LTwoBeatsAgo$Floor;)Z"⟩, 9) := ⟨⟨by decide +kernel, by decide +kernel⟩, List.mem_of_getElem? (i := 103) (by decide +kernel), List.mem_of_getElem? (i := 648) (by decide +kernel), List.mem_of_getElem? (i := 649) (by decide +kernel)⟩
theorem lw_p44 : lw_okq (⟨"TwoBeatsAgo$ByHand", "addStep", "(I)I"⟩, 9) := ⟨⟨by decide +kernel, by decide +kernel⟩, List.mem_of_getElem? (i := 103) (by decide +kernel), List.mem_of_getElem? (i := 670) (by decide +kernel), List.mem_of_getElem? (i := 671) (by decide +kernel)⟩
theorem lw_p45 : lw_okq (⟨"TwoBeatsAgo$ByHand", "danceOn", "(LTwoBeatsAgo$Floor;)V"⟩, 9) := ⟨⟨by decide +kernel, by decide +kernel⟩, List.mem_of_getElem? (i := 103) (by decide +kernel), List.mem_of_getElem? (i := 678) (by decide +kernel), List.mem_of_getElem? (i := 679) (by decide +kernel)⟩
theorem lw_p46 : lw_okq (⟨"TwoBeatsAgo$ByHand", "addRow", "(II)I"⟩, 9) := ⟨⟨by decide +kernel, by decide +kernel⟩, List.mem_of_getElem? (i := 103) (by decide +kernel), List.mem_of_getElem? (i := 690) (by decide +kernel), List.mem_of_getElem? (i := 691) (by decide +kernel)⟩
theorem lw_p47 : lw_okq (⟨"TwoBeatsAgo$ByHand", "firstWrongRow", "(LTwoBeatsAgo$Floor;)I"⟩, 9) := ⟨⟨by decide +kernel, by decide +kernel⟩, List.mem_of_getElem? (i := 103) (by decide +kernel), List.mem_of_getElem? (i := 698) (by decide +kernel), List.mem_of_getElem? (i := 699) (by decide +kernel)⟩
def lw_privs_3 : List (MethodName × Nat) := [(⟨"TwoBeatsAgo$Floor", "become", "(LTwoBeatsAgo$Floor;)V"⟩, 9), (⟨"TwoBeatsAgo", "placesAsked", "(I)I"⟩, 12), (⟨"TwoBeatsAgo$Floor", "standsAs", "(LTwoBeatsAgo$Floor;)Z"⟩, 9), (⟨"TwoBeatsAgo$Floor", "beatsTillTogether", "(II)I"⟩, 9), (⟨"TwoBeatsAgo$Floor", "areTogether", "()Z"⟩, 9), (⟨"TwoBeatsAgo$Floor", "nobodyMoves", "()Z"⟩, 9), (⟨"TwoBeatsAgo$Floor", "apart", "(II)I"⟩, 9), (⟨"TwoBeatsAgo$Floor", "beatsAlone", "(II)I"⟩, 9), (⟨"TwoBeatsAgo$Floor", "isAlone", "(I)Z"⟩, 9), (⟨"TwoBeatsAgo$Floor", "countStanding", "([I)V"⟩, 9), (⟨"TwoBeatsAgo$ByHand", "addSeen", "(III)I"⟩, 9), (⟨"TwoBeatsAgo$ByHand", "allSeenOn", "(LTwoBeatsAgo$Floor;)Z"⟩, 9), (⟨"TwoBeatsAgo$ByHand", "addStep", "(I)I"⟩, 9), (⟨"TwoBeatsAgo$ByHand", "danceOn", "(LTwoBeatsAgo$Floor;)V"⟩, 9), (⟨"TwoBeatsAgo$ByHand", "addRow", "(II)I"⟩, 9), (⟨"TwoBeatsAgo$ByHand", "firstWrongRow", "(LTwoBeatsAgo$Floor;)I"⟩, 9)]
theorem lw_r3 : ∀ q ∈ lw_privs_3, lw_okq q := List.forall_mem_cons.mpr ⟨lw_p32, List.forall_mem_cons.mpr ⟨lw_p33, List.forall_mem_cons.mpr ⟨lw_p34, List.forall_mem_cons.mpr ⟨lw_p35, List.forall_mem_cons.mpr ⟨lw_p36, List.forall_mem_cons.mpr ⟨lw_p37, List.forall_mem_cons.mpr ⟨lw_p38, List.forall_mem_cons.mpr ⟨lw_p39, List.forall_mem_cons.mpr ⟨lw_p40, List.forall_mem_cons.mpr ⟨lw_p41, List.forall_mem_cons.mpr ⟨lw_p42, List.forall_mem_cons.mpr ⟨lw_p43, List.forall_mem_cons.mpr ⟨lw_p44, List.forall_mem_cons.mpr ⟨lw_p45, List.forall_mem_cons.mpr ⟨lw_p46, List.forall_mem_cons.mpr ⟨lw_p47, fun _ h => absurd h List.not_mem_nil⟩⟩⟩⟩⟩⟩⟩⟩⟩⟩⟩⟩⟩⟩⟩⟩
theorem lw_p48 : lw_okq (⟨"TwoBeatsAgo$ByHand", "become", "(LTwoBeatsAgo$ByHand;)V"⟩, 9) := ⟨⟨by decide +kernel, by decide +kernel⟩, List.mem_of_getElem? (i := 103) (by decide +kernel), List.mem_of_getElem? (i := 713) (by decide +kernel), List.mem_of_getElem? (i := 714) (by decide +kernel)⟩
theorem lw_p49 : lw_okq (⟨"TwoBeatsAgo$Acts", "forgetTrace", "()V"⟩, 5) := ⟨⟨by decide +kernel, by decide +kernel⟩, List.mem_of_getElem? (i := 160) (by decide +kernel), List.mem_of_getElem? (i := 726) (by decide +kernel), List.mem_of_getElem? (i := 727) (by decide +kernel)⟩
theorem lw_p50 : lw_okq (⟨"TwoBeatsAgo$Acts", "play", "(LTwoBeatsAgo$Floor;III)I"⟩, 5) := ⟨⟨by decide +kernel, by decide +kernel⟩, List.mem_of_getElem? (i := 160) (by decide +kernel), List.mem_of_getElem? (i := 730) (by decide +kernel), List.mem_of_getElem? (i := 731) (by decide +kernel)⟩
theorem lw_p51 : lw_okq (⟨"TwoBeatsAgo$Acts", "run", "(IIII)I"⟩, 5) := ⟨⟨by decide +kernel, by decide +kernel⟩, List.mem_of_getElem? (i := 160) (by decide +kernel), List.mem_of_getElem? (i := 735) (by decide +kernel), List.mem_of_getElem? (i := 736) (by decide +kernel)⟩
theorem lw_p52 : lw_okq (⟨"TwoBeatsAgo$Acts", "runBody", "(III)I"⟩, 5) := ⟨⟨by decide +kernel, by decide +kernel⟩, List.mem_of_getElem? (i := 160) (by decide +kernel), List.mem_of_getElem? (i := 746) (by decide +kernel), List.mem_of_getElem? (i := 747) (by decide +kernel)⟩
theorem lw_p53 : lw_okq (⟨"TwoBeatsAgo$Tape", "become", "(II)V"⟩, 3) := ⟨⟨by decide +kernel, by decide +kernel⟩, List.mem_of_getElem? (i := 185) (by decide +kernel), List.mem_of_getElem? (i := 767) (by decide +kernel), List.mem_of_getElem? (i := 768) (by decide +kernel)⟩
theorem lw_p54 : lw_okq (⟨"TwoBeatsAgo$Tape", "fitted", "(J)J"⟩, 3) := ⟨⟨by decide +kernel, by decide +kernel⟩, List.mem_of_getElem? (i := 185) (by decide +kernel), List.mem_of_getElem? (i := 780) (by decide +kernel), List.mem_of_getElem? (i := 781) (by decide +kernel)⟩
theorem lw_p55 : lw_okq (⟨"TwoBeatsAgo$Tape", "hasStretch", "(II)Z"⟩, 3) := ⟨⟨by decide +kernel, by decide +kernel⟩, List.mem_of_getElem? (i := 185) (by decide +kernel), List.mem_of_getElem? (i := 792) (by decide +kernel), List.mem_of_getElem? (i := 793) (by decide +kernel)⟩
theorem lw_p56 : lw_okq (⟨"TwoBeatsAgoModel", "in", "(III)Z"⟩, 64) := ⟨⟨by decide +kernel, by decide +kernel⟩, List.mem_of_getElem? (i := 797) (by decide +kernel), List.mem_of_getElem? (i := 1001) (by decide +kernel), List.mem_of_getElem? (i := 1002) (by decide +kernel)⟩
theorem lw_p57 : lw_okq (⟨"TwoBeatsAgoModel", "wide", "()I"⟩, 64) := ⟨⟨by decide +kernel, by decide +kernel⟩, List.mem_of_getElem? (i := 797) (by decide +kernel), List.mem_of_getElem? (i := 1005) (by decide +kernel), List.mem_of_getElem? (i := 1006) (by decide +kernel)⟩
theorem lw_p58 : lw_okq (⟨"TwoBeatsAgoModel", "lastOf", "(II)I"⟩, 64) := ⟨⟨by decide +kernel, by decide +kernel⟩, List.mem_of_getElem? (i := 797) (by decide +kernel), List.mem_of_getElem? (i := 1009) (by decide +kernel), List.mem_of_getElem? (i := 1010) (by decide +kernel)⟩
theorem lw_p59 : lw_okq (⟨"TwoBeatsAgoModel", "firstClause", "()I"⟩, 64) := ⟨⟨by decide +kernel, by decide +kernel⟩, List.mem_of_getElem? (i := 797) (by decide +kernel), List.mem_of_getElem? (i := 1013) (by decide +kernel), List.mem_of_getElem? (i := 1014) (by decide +kernel)⟩
theorem lw_p60 : lw_okq (⟨"TwoBeatsAgoModel", "behindClauses", "()I"⟩, 64) := ⟨⟨by decide +kernel, by decide +kernel⟩, List.mem_of_getElem? (i := 797) (by decide +kernel), List.mem_of_getElem? (i := 1017) (by decide +kernel), List.mem_of_getElem? (i := 1018) (by decide +kernel)⟩
theorem lw_p61 : lw_okq (⟨"TwoBeatsAgoModel", "laysAll", "(II)V"⟩, 64) := ⟨⟨by decide +kernel, by decide +kernel⟩, List.mem_of_getElem? (i := 797) (by decide +kernel), List.mem_of_getElem? (i := 1021) (by decide +kernel), List.mem_of_getElem? (i := 1022) (by decide +kernel)⟩
theorem lw_p62 : lw_okq (⟨"TwoBeatsAgoModel", "isDancer", "(I)Z"⟩, 64) := ⟨⟨by decide +kernel, by decide +kernel⟩, List.mem_of_getElem? (i := 797) (by decide +kernel), List.mem_of_getElem? (i := 1029) (by decide +kernel), List.mem_of_getElem? (i := 1030) (by decide +kernel)⟩
theorem lw_p63 : lw_okq (⟨"TwoBeatsAgoModel", "goesText", "(I)Z"⟩, 64) := ⟨⟨by decide +kernel, by decide +kernel⟩, List.mem_of_getElem? (i := 797) (by decide +kernel), List.mem_of_getElem? (i := 1049) (by decide +kernel), List.mem_of_getElem? (i := 1050) (by decide +kernel)⟩
def lw_privs_4 : List (MethodName × Nat) := [(⟨"TwoBeatsAgo$ByHand", "become", "(LTwoBeatsAgo$ByHand;)V"⟩, 9), (⟨"TwoBeatsAgo$Acts", "forgetTrace", "()V"⟩, 5), (⟨"TwoBeatsAgo$Acts", "play", "(LTwoBeatsAgo$Floor;III)I"⟩, 5), (⟨"TwoBeatsAgo$Acts", "run", "(IIII)I"⟩, 5), (⟨"TwoBeatsAgo$Acts", "runBody", "(III)I"⟩, 5), (⟨"TwoBeatsAgo$Tape", "become", "(II)V"⟩, 3), (⟨"TwoBeatsAgo$Tape", "fitted", "(J)J"⟩, 3), (⟨"TwoBeatsAgo$Tape", "hasStretch", "(II)Z"⟩, 3), (⟨"TwoBeatsAgoModel", "in", "(III)Z"⟩, 64), (⟨"TwoBeatsAgoModel", "wide", "()I"⟩, 64), (⟨"TwoBeatsAgoModel", "lastOf", "(II)I"⟩, 64), (⟨"TwoBeatsAgoModel", "firstClause", "()I"⟩, 64), (⟨"TwoBeatsAgoModel", "behindClauses", "()I"⟩, 64), (⟨"TwoBeatsAgoModel", "laysAll", "(II)V"⟩, 64), (⟨"TwoBeatsAgoModel", "isDancer", "(I)Z"⟩, 64), (⟨"TwoBeatsAgoModel", "goesText", "(I)Z"⟩, 64)]
theorem lw_r4 : ∀ q ∈ lw_privs_4, lw_okq q := List.forall_mem_cons.mpr ⟨lw_p48, List.forall_mem_cons.mpr ⟨lw_p49, List.forall_mem_cons.mpr ⟨lw_p50, List.forall_mem_cons.mpr ⟨lw_p51, List.forall_mem_cons.mpr ⟨lw_p52, List.forall_mem_cons.mpr ⟨lw_p53, List.forall_mem_cons.mpr ⟨lw_p54, List.forall_mem_cons.mpr ⟨lw_p55, List.forall_mem_cons.mpr ⟨lw_p56, List.forall_mem_cons.mpr ⟨lw_p57, List.forall_mem_cons.mpr ⟨lw_p58, List.forall_mem_cons.mpr ⟨lw_p59, List.forall_mem_cons.mpr ⟨lw_p60, List.forall_mem_cons.mpr ⟨lw_p61, List.forall_mem_cons.mpr ⟨lw_p62, List.forall_mem_cons.mpr ⟨lw_p63, fun _ h => absurd h List.not_mem_nil⟩⟩⟩⟩⟩⟩⟩⟩⟩⟩⟩⟩⟩⟩⟩⟩
theorem lw_p64 : lw_okq (⟨"TwoBeatsAgoModel", "takesClause", "(I)Z"⟩, 64) := ⟨⟨by decide +kernel, by decide +kernel⟩, List.mem_of_getElem? (i := 797) (by decide +kernel), List.mem_of_getElem? (i := 1053) (by decide +kernel), List.mem_of_getElem? (i := 1054) (by decide +kernel)⟩
theorem lw_p65 : lw_okq (⟨"TwoBeatsAgoModel", "takesHead", "(I)Z"⟩, 64) := ⟨⟨by decide +kernel, by decide +kernel⟩, List.mem_of_getElem? (i := 797) (by decide +kernel), List.mem_of_getElem? (i := 1057) (by decide +kernel), List.mem_of_getElem? (i := 1058) (by decide +kernel)⟩
theorem lw_p66 : lw_okq (⟨"TwoBeatsAgoModel", "next", "()I"⟩, 64) := ⟨⟨by decide +kernel, by decide +kernel⟩, List.mem_of_getElem? (i := 797) (by decide +kernel), List.mem_of_getElem? (i := 1061) (by decide +kernel), List.mem_of_getElem? (i := 1062) (by decide +kernel)⟩
theorem lw_p67 : lw_okq (⟨"TwoBeatsAgoModel", "takesWord", "(II)Z"⟩, 64) := ⟨⟨by decide +kernel, by decide +kernel⟩, List.mem_of_getElem? (i := 797) (by decide +kernel), List.mem_of_getElem? (i := 1065) (by decide +kernel), List.mem_of_getElem? (i := 1066) (by decide +kernel)⟩
theorem lw_p68 : lw_okq (⟨"TwoBeatsAgoModel", "takes", "(I)Z"⟩, 64) := ⟨⟨by decide +kernel, by decide +kernel⟩, List.mem_of_getElem? (i := 797) (by decide +kernel), List.mem_of_getElem? (i := 1069) (by decide +kernel), List.mem_of_getElem? (i := 1070) (by decide +kernel)⟩
theorem lw_p69 : lw_okq (⟨"TwoBeatsAgoModel", "takesNumber", "()Z"⟩, 64) := ⟨⟨by decide +kernel, by decide +kernel⟩, List.mem_of_getElem? (i := 797) (by decide +kernel), List.mem_of_getElem? (i := 1073) (by decide +kernel), List.mem_of_getElem? (i := 1074) (by decide +kernel)⟩
theorem lw_p70 : lw_okq (⟨"TwoBeatsAgoModel", "isDigit", "()Z"⟩, 64) := ⟨⟨by decide +kernel, by decide +kernel⟩, List.mem_of_getElem? (i := 797) (by decide +kernel), List.mem_of_getElem? (i := 1077) (by decide +kernel), List.mem_of_getElem? (i := 1078) (by decide +kernel)⟩
theorem lw_p71 : lw_okq (⟨"TwoBeatsAgoModel", "takesE", "(I)Z"⟩, 64) := ⟨⟨by decide +kernel, by decide +kernel⟩, List.mem_of_getElem? (i := 797) (by decide +kernel), List.mem_of_getElem? (i := 1081) (by decide +kernel), List.mem_of_getElem? (i := 1082) (by decide +kernel)⟩
theorem lw_p72 : lw_okq (⟨"TwoBeatsAgoModel", "takesTest", "()Z"⟩, 64) := ⟨⟨by decide +kernel, by decide +kernel⟩, List.mem_of_getElem? (i := 797) (by decide +kernel), List.mem_of_getElem? (i := 1085) (by decide +kernel), List.mem_of_getElem? (i := 1086) (by decide +kernel)⟩
theorem lw_p73 : lw_okq (⟨"TwoBeatsAgoModel", "place", "(I)I"⟩, 64) := ⟨⟨by decide +kernel, by decide +kernel⟩, List.mem_of_getElem? (i := 797) (by decide +kernel), List.mem_of_getElem? (i := 1089) (by decide +kernel), List.mem_of_getElem? (i := 1090) (by decide +kernel)⟩
theorem lw_p74 : lw_okq (⟨"TwoBeatsAgoModel", "emits", "(I)V"⟩, 64) := ⟨⟨by decide +kernel, by decide +kernel⟩, List.mem_of_getElem? (i := 797) (by decide +kernel), List.mem_of_getElem? (i := 1093) (by decide +kernel), List.mem_of_getElem? (i := 1094) (by decide +kernel)⟩
theorem lw_p75 : lw_okq (⟨"TwoBeatsAgoModel", "whole", "()V"⟩, 64) := ⟨⟨by decide +kernel, by decide +kernel⟩, List.mem_of_getElem? (i := 797) (by decide +kernel), List.mem_of_getElem? (i := 1097) (by decide +kernel), List.mem_of_getElem? (i := 1098) (by decide +kernel)⟩
theorem lw_p76 : lw_okq (⟨"TwoBeatsAgoModel", "settle", "(I)V"⟩, 64) := ⟨⟨by decide +kernel, by decide +kernel⟩, List.mem_of_getElem? (i := 797) (by decide +kernel), List.mem_of_getElem? (i := 1101) (by decide +kernel), List.mem_of_getElem? (i := 1102) (by decide +kernel)⟩
theorem lw_p77 : lw_okq (⟨"TwoBeatsAgoModel", "step", "(I)I"⟩, 64) := ⟨⟨by decide +kernel, by decide +kernel⟩, List.mem_of_getElem? (i := 797) (by decide +kernel), List.mem_of_getElem? (i := 1109) (by decide +kernel), List.mem_of_getElem? (i := 1110) (by decide +kernel)⟩
theorem lw_p78 : lw_okq (⟨"TwoBeatsAgoModel", "holds", "(II)Z"⟩, 64) := ⟨⟨by decide +kernel, by decide +kernel⟩, List.mem_of_getElem? (i := 797) (by decide +kernel), List.mem_of_getElem? (i := 1113) (by decide +kernel), List.mem_of_getElem? (i := 1114) (by decide +kernel)⟩
theorem lw_p79 : lw_okq (⟨"TwoBeatsAgoModel", "factOf", "(II)I"⟩, 64) := ⟨⟨by decide +kernel, by decide +kernel⟩, List.mem_of_getElem? (i := 797) (by decide +kernel), List.mem_of_getElem? (i := 1117) (by decide +kernel), List.mem_of_getElem? (i := 1118) (by decide +kernel)⟩
def lw_privs_5 : List (MethodName × Nat) := [(⟨"TwoBeatsAgoModel", "takesClause", "(I)Z"⟩, 64), (⟨"TwoBeatsAgoModel", "takesHead", "(I)Z"⟩, 64), (⟨"TwoBeatsAgoModel", "next", "()I"⟩, 64), (⟨"TwoBeatsAgoModel", "takesWord", "(II)Z"⟩, 64), (⟨"TwoBeatsAgoModel", "takes", "(I)Z"⟩, 64), (⟨"TwoBeatsAgoModel", "takesNumber", "()Z"⟩, 64), (⟨"TwoBeatsAgoModel", "isDigit", "()Z"⟩, 64), (⟨"TwoBeatsAgoModel", "takesE", "(I)Z"⟩, 64), (⟨"TwoBeatsAgoModel", "takesTest", "()Z"⟩, 64), (⟨"TwoBeatsAgoModel", "place", "(I)I"⟩, 64), (⟨"TwoBeatsAgoModel", "emits", "(I)V"⟩, 64), (⟨"TwoBeatsAgoModel", "whole", "()V"⟩, 64), (⟨"TwoBeatsAgoModel", "settle", "(I)V"⟩, 64), (⟨"TwoBeatsAgoModel", "step", "(I)I"⟩, 64), (⟨"TwoBeatsAgoModel", "holds", "(II)Z"⟩, 64), (⟨"TwoBeatsAgoModel", "factOf", "(II)I"⟩, 64)]
theorem lw_r5 : ∀ q ∈ lw_privs_5, lw_okq q := List.forall_mem_cons.mpr ⟨lw_p64, List.forall_mem_cons.mpr ⟨lw_p65, List.forall_mem_cons.mpr ⟨lw_p66, List.forall_mem_cons.mpr ⟨lw_p67, List.forall_mem_cons.mpr ⟨lw_p68, List.forall_mem_cons.mpr ⟨lw_p69, List.forall_mem_cons.mpr ⟨lw_p70, List.forall_mem_cons.mpr ⟨lw_p71, List.forall_mem_cons.mpr ⟨lw_p72, List.forall_mem_cons.mpr ⟨lw_p73, List.forall_mem_cons.mpr ⟨lw_p74, List.forall_mem_cons.mpr ⟨lw_p75, List.forall_mem_cons.mpr ⟨lw_p76, List.forall_mem_cons.mpr ⟨lw_p77, List.forall_mem_cons.mpr ⟨lw_p78, List.forall_mem_cons.mpr ⟨lw_p79, fun _ h => absurd h List.not_mem_nil⟩⟩⟩⟩⟩⟩⟩⟩⟩⟩⟩⟩⟩⟩⟩⟩
theorem lw_p80 : lw_okq (⟨"TwoBeatsAgoModel", "goes", "(I)I"⟩, 64) := ⟨⟨by decide +kernel, by decide +kernel⟩, List.mem_of_getElem? (i := 797) (by decide +kernel), List.mem_of_getElem? (i := 1121) (by decide +kernel), List.mem_of_getElem? (i := 1122) (by decide +kernel)⟩
theorem lw_p81 : lw_okq (⟨"TwoBeatsAgoModel", "round", "(I)I"⟩, 64) := ⟨⟨by decide +kernel, by decide +kernel⟩, List.mem_of_getElem? (i := 797) (by decide +kernel), List.mem_of_getElem? (i := 1125) (by decide +kernel), List.mem_of_getElem? (i := 1126) (by decide +kernel)⟩
theorem lw_p82 : lw_okq (⟨"TwoBeatsAgoModel", "skip", "()I"⟩, 64) := ⟨⟨by decide +kernel, by decide +kernel⟩, List.mem_of_getElem? (i := 797) (by decide +kernel), List.mem_of_getElem? (i := 1133) (by decide +kernel), List.mem_of_getElem? (i := 1134) (by decide +kernel)⟩
theorem lw_p83 : lw_okq (⟨"TwoBeatsAgoModel", "many", "()I"⟩, 64) := ⟨⟨by decide +kernel, by decide +kernel⟩, List.mem_of_getElem? (i := 797) (by decide +kernel), List.mem_of_getElem? (i := 1137) (by decide +kernel), List.mem_of_getElem? (i := 1138) (by decide +kernel)⟩
theorem lw_p84 : lw_okq (⟨"TwoBeatsAgoModel", "isBeats", "(I)Z"⟩, 64) := ⟨⟨by decide +kernel, by decide +kernel⟩, List.mem_of_getElem? (i := 797) (by decide +kernel), List.mem_of_getElem? (i := 1145) (by decide +kernel), List.mem_of_getElem? (i := 1146) (by decide +kernel)⟩
theorem lw_p85 : lw_okq (⟨"TwoBeatsAgoModel", "go", "()V"⟩, 64) := ⟨⟨by decide +kernel, by decide +kernel⟩, List.mem_of_getElem? (i := 797) (by decide +kernel), List.mem_of_getElem? (i := 1149) (by decide +kernel), List.mem_of_getElem? (i := 1150) (by decide +kernel)⟩
theorem lw_p86 : lw_okq (⟨"TwoBeatsAgoModel", "goBeat", "(Z)V"⟩, 64) := ⟨⟨by decide +kernel, by decide +kernel⟩, List.mem_of_getElem? (i := 797) (by decide +kernel), List.mem_of_getElem? (i := 1153) (by decide +kernel), List.mem_of_getElem? (i := 1154) (by decide +kernel)⟩
theorem lw_p87 : lw_okq (⟨"TwoBeatsAgoModel", "save", "()V"⟩, 64) := ⟨⟨by decide +kernel, by decide +kernel⟩, List.mem_of_getElem? (i := 797) (by decide +kernel), List.mem_of_getElem? (i := 1161) (by decide +kernel), List.mem_of_getElem? (i := 1162) (by decide +kernel)⟩
theorem lw_p88 : lw_okq (⟨"TwoBeatsAgoModel", "putBack", "()V"⟩, 64) := ⟨⟨by decide +kernel, by decide +kernel⟩, List.mem_of_getElem? (i := 797) (by decide +kernel), List.mem_of_getElem? (i := 1165) (by decide +kernel), List.mem_of_getElem? (i := 1166) (by decide +kernel)⟩
theorem lw_p89 : lw_okq (⟨"TwoBeatsAgoModel", "isAsKept", "()Z"⟩, 64) := ⟨⟨by decide +kernel, by decide +kernel⟩, List.mem_of_getElem? (i := 797) (by decide +kernel), List.mem_of_getElem? (i := 1173) (by decide +kernel), List.mem_of_getElem? (i := 1174) (by decide +kernel)⟩
theorem lw_p90 : lw_okq (⟨"TwoBeatsAgoModel", "togetherBy", "(I)I"⟩, 64) := ⟨⟨by decide +kernel, by decide +kernel⟩, List.mem_of_getElem? (i := 797) (by decide +kernel), List.mem_of_getElem? (i := 1181) (by decide +kernel), List.mem_of_getElem? (i := 1182) (by decide +kernel)⟩
theorem lw_p91 : lw_okq (⟨"TwoBeatsAgoModel", "isStill", "()Z"⟩, 64) := ⟨⟨by decide +kernel, by decide +kernel⟩, List.mem_of_getElem? (i := 797) (by decide +kernel), List.mem_of_getElem? (i := 1189) (by decide +kernel), List.mem_of_getElem? (i := 1190) (by decide +kernel)⟩
theorem lw_p92 : lw_okq (⟨"TwoBeatsAgoModel", "apart", "(II)I"⟩, 64) := ⟨⟨by decide +kernel, by decide +kernel⟩, List.mem_of_getElem? (i := 797) (by decide +kernel), List.mem_of_getElem? (i := 1201) (by decide +kernel), List.mem_of_getElem? (i := 1202) (by decide +kernel)⟩
theorem lw_p93 : lw_okq (⟨"TwoBeatsAgoModel", "isAlone", "(I)Z"⟩, 64) := ⟨⟨by decide +kernel, by decide +kernel⟩, List.mem_of_getElem? (i := 797) (by decide +kernel), List.mem_of_getElem? (i := 1213) (by decide +kernel), List.mem_of_getElem? (i := 1214) (by decide +kernel)⟩
theorem lw_p94 : lw_okq (⟨"TwoBeatsAgoModel", "counts", "()V"⟩, 64) := ⟨⟨by decide +kernel, by decide +kernel⟩, List.mem_of_getElem? (i := 797) (by decide +kernel), List.mem_of_getElem? (i := 1229) (by decide +kernel), List.mem_of_getElem? (i := 1230) (by decide +kernel)⟩
theorem lw_p95 : lw_okq (⟨"TwoBeatsAgoModel", "isPlace", "(I)Z"⟩, 64) := ⟨⟨by decide +kernel, by decide +kernel⟩, List.mem_of_getElem? (i := 797) (by decide +kernel), List.mem_of_getElem? (i := 1237) (by decide +kernel), List.mem_of_getElem? (i := 1238) (by decide +kernel)⟩
def lw_privs_6 : List (MethodName × Nat) := [(⟨"TwoBeatsAgoModel", "goes", "(I)I"⟩, 64), (⟨"TwoBeatsAgoModel", "round", "(I)I"⟩, 64), (⟨"TwoBeatsAgoModel", "skip", "()I"⟩, 64), (⟨"TwoBeatsAgoModel", "many", "()I"⟩, 64), (⟨"TwoBeatsAgoModel", "isBeats", "(I)Z"⟩, 64), (⟨"TwoBeatsAgoModel", "go", "()V"⟩, 64), (⟨"TwoBeatsAgoModel", "goBeat", "(Z)V"⟩, 64), (⟨"TwoBeatsAgoModel", "save", "()V"⟩, 64), (⟨"TwoBeatsAgoModel", "putBack", "()V"⟩, 64), (⟨"TwoBeatsAgoModel", "isAsKept", "()Z"⟩, 64), (⟨"TwoBeatsAgoModel", "togetherBy", "(I)I"⟩, 64), (⟨"TwoBeatsAgoModel", "isStill", "()Z"⟩, 64), (⟨"TwoBeatsAgoModel", "apart", "(II)I"⟩, 64), (⟨"TwoBeatsAgoModel", "isAlone", "(I)Z"⟩, 64), (⟨"TwoBeatsAgoModel", "counts", "()V"⟩, 64), (⟨"TwoBeatsAgoModel", "isPlace", "(I)Z"⟩, 64)]
theorem lw_r6 : ∀ q ∈ lw_privs_6, lw_okq q := List.forall_mem_cons.mpr ⟨lw_p80, List.forall_mem_cons.mpr ⟨lw_p81, List.forall_mem_cons.mpr ⟨lw_p82, List.forall_mem_cons.mpr ⟨lw_p83, List.forall_mem_cons.mpr ⟨lw_p84, List.forall_mem_cons.mpr ⟨lw_p85, List.forall_mem_cons.mpr ⟨lw_p86, List.forall_mem_cons.mpr ⟨lw_p87, List.forall_mem_cons.mpr ⟨lw_p88, List.forall_mem_cons.mpr ⟨lw_p89, List.forall_mem_cons.mpr ⟨lw_p90, List.forall_mem_cons.mpr ⟨lw_p91, List.forall_mem_cons.mpr ⟨lw_p92, List.forall_mem_cons.mpr ⟨lw_p93, List.forall_mem_cons.mpr ⟨lw_p94, List.forall_mem_cons.mpr ⟨lw_p95, fun _ h => absurd h List.not_mem_nil⟩⟩⟩⟩⟩⟩⟩⟩⟩⟩⟩⟩⟩⟩⟩⟩
theorem lw_p96 : lw_okq (⟨"TwoBeatsAgoModel", "isSeen", "()Z"⟩, 64) := ⟨⟨by decide +kernel, by decide +kernel⟩, List.mem_of_getElem? (i := 797) (by decide +kernel), List.mem_of_getElem? (i := 1245) (by decide +kernel), List.mem_of_getElem? (i := 1246) (by decide +kernel)⟩
theorem lw_p97 : lw_okq (⟨"TwoBeatsAgoModel", "lowest", "(III)J"⟩, 64) := ⟨⟨by decide +kernel, by decide +kernel⟩, List.mem_of_getElem? (i := 797) (by decide +kernel), List.mem_of_getElem? (i := 1254) (by decide +kernel), List.mem_of_getElem? (i := 1255) (by decide +kernel)⟩
theorem lw_p98 : lw_okq (⟨"TwoBeatsAgoModel", "divisor", "(II)I"⟩, 64) := ⟨⟨by decide +kernel, by decide +kernel⟩, List.mem_of_getElem? (i := 797) (by decide +kernel), List.mem_of_getElem? (i := 1258) (by decide +kernel), List.mem_of_getElem? (i := 1259) (by decide +kernel)⟩
theorem lw_p99 : lw_okq (⟨"TwoBeatsAgoModel", "isTape", "(I)Z"⟩, 64) := ⟨⟨by decide +kernel, by decide +kernel⟩, List.mem_of_getElem? (i := 797) (by decide +kernel), List.mem_of_getElem? (i := 1286) (by decide +kernel), List.mem_of_getElem? (i := 1287) (by decide +kernel)⟩
theorem lw_p100 : lw_okq (⟨"TwoBeatsAgoModel", "stepsAct", "(II)I"⟩, 64) := ⟨⟨by decide +kernel, by decide +kernel⟩, List.mem_of_getElem? (i := 797) (by decide +kernel), List.mem_of_getElem? (i := 1302) (by decide +kernel), List.mem_of_getElem? (i := 1303) (by decide +kernel)⟩
theorem lw_p101 : lw_okq (⟨"TwoBeatsAgoModel", "body", "(I)V"⟩, 64) := ⟨⟨by decide +kernel, by decide +kernel⟩, List.mem_of_getElem? (i := 797) (by decide +kernel), List.mem_of_getElem? (i := 1306) (by decide +kernel), List.mem_of_getElem? (i := 1307) (by decide +kernel)⟩
theorem lw_p102 : lw_okq (⟨"TwoBeatsAgoModel", "dancerSteps", "(II)I"⟩, 64) := ⟨⟨by decide +kernel, by decide +kernel⟩, List.mem_of_getElem? (i := 797) (by decide +kernel), List.mem_of_getElem? (i := 1310) (by decide +kernel), List.mem_of_getElem? (i := 1311) (by decide +kernel)⟩
theorem lw_p103 : lw_okq (⟨"TwoBeatsAgoModel", "turnsAct", "(II)I"⟩, 64) := ⟨⟨by decide +kernel, by decide +kernel⟩, List.mem_of_getElem? (i := 797) (by decide +kernel), List.mem_of_getElem? (i := 1314) (by decide +kernel), List.mem_of_getElem? (i := 1315) (by decide +kernel)⟩
theorem lw_p104 : lw_okq (⟨"TwoBeatsAgoModel", "lateTurns", "(II)I"⟩, 64) := ⟨⟨by decide +kernel, by decide +kernel⟩, List.mem_of_getElem? (i := 797) (by decide +kernel), List.mem_of_getElem? (i := 1318) (by decide +kernel), List.mem_of_getElem? (i := 1319) (by decide +kernel)⟩
theorem lw_p105 : lw_okq (⟨"TwoBeatsAgoModel", "dancerTurns", "(II)I"⟩, 64) := ⟨⟨by decide +kernel, by decide +kernel⟩, List.mem_of_getElem? (i := 797) (by decide +kernel), List.mem_of_getElem? (i := 1322) (by decide +kernel), List.mem_of_getElem? (i := 1323) (by decide +kernel)⟩
theorem lw_p106 : lw_okq (⟨"TwoBeatsAgoModel", "tellsAct", "(II)I"⟩, 64) := ⟨⟨by decide +kernel, by decide +kernel⟩, List.mem_of_getElem? (i := 797) (by decide +kernel), List.mem_of_getElem? (i := 1326) (by decide +kernel), List.mem_of_getElem? (i := 1327) (by decide +kernel)⟩
theorem lw_p107 : lw_okq (⟨"TwoBeatsAgoModel", "dancerTells", "(II)I"⟩, 64) := ⟨⟨by decide +kernel, by decide +kernel⟩, List.mem_of_getElem? (i := 797) (by decide +kernel), List.mem_of_getElem? (i := 1330) (by decide +kernel), List.mem_of_getElem? (i := 1331) (by decide +kernel)⟩
theorem lw_p108 : lw_okq (⟨"TwoBeatsAgoModel", "narrow", "(IJ)J"⟩, 64) := ⟨⟨by decide +kernel, by decide +kernel⟩, List.mem_of_getElem? (i := 797) (by decide +kernel), List.mem_of_getElem? (i := 1354) (by decide +kernel), List.mem_of_getElem? (i := 1355) (by decide +kernel)⟩
def lw_privs_7 : List (MethodName × Nat) := [(⟨"TwoBeatsAgoModel", "isSeen", "()Z"⟩, 64), (⟨"TwoBeatsAgoModel", "lowest", "(III)J"⟩, 64), (⟨"TwoBeatsAgoModel", "divisor", "(II)I"⟩, 64), (⟨"TwoBeatsAgoModel", "isTape", "(I)Z"⟩, 64), (⟨"TwoBeatsAgoModel", "stepsAct", "(II)I"⟩, 64), (⟨"TwoBeatsAgoModel", "body", "(I)V"⟩, 64), (⟨"TwoBeatsAgoModel", "dancerSteps", "(II)I"⟩, 64), (⟨"TwoBeatsAgoModel", "turnsAct", "(II)I"⟩, 64), (⟨"TwoBeatsAgoModel", "lateTurns", "(II)I"⟩, 64), (⟨"TwoBeatsAgoModel", "dancerTurns", "(II)I"⟩, 64), (⟨"TwoBeatsAgoModel", "tellsAct", "(II)I"⟩, 64), (⟨"TwoBeatsAgoModel", "dancerTells", "(II)I"⟩, 64), (⟨"TwoBeatsAgoModel", "narrow", "(IJ)J"⟩, 64)]
theorem lw_r7 : ∀ q ∈ lw_privs_7, lw_okq q := List.forall_mem_cons.mpr ⟨lw_p96, List.forall_mem_cons.mpr ⟨lw_p97, List.forall_mem_cons.mpr ⟨lw_p98, List.forall_mem_cons.mpr ⟨lw_p99, List.forall_mem_cons.mpr ⟨lw_p100, List.forall_mem_cons.mpr ⟨lw_p101, List.forall_mem_cons.mpr ⟨lw_p102, List.forall_mem_cons.mpr ⟨lw_p103, List.forall_mem_cons.mpr ⟨lw_p104, List.forall_mem_cons.mpr ⟨lw_p105, List.forall_mem_cons.mpr ⟨lw_p106, List.forall_mem_cons.mpr ⟨lw_p107, List.forall_mem_cons.mpr ⟨lw_p108, fun _ h => absurd h List.not_mem_nil⟩⟩⟩⟩⟩⟩⟩⟩⟩⟩⟩⟩⟩
def lw_privs : List (MethodName × Nat) := lw_privs_1 ++ (lw_privs_2 ++ (lw_privs_3 ++ (lw_privs_4 ++ (lw_privs_5 ++ (lw_privs_6 ++ (lw_privs_7))))))
def lw_tbl : List Cond := k2_sels lw_privs ++ tables_1
theorem lw_privs_ok : ∀ q ∈ lw_privs, lw_okq q := by
  show ∀ q ∈ lw_privs_1 ++ (lw_privs_2 ++ (lw_privs_3 ++ (lw_privs_4 ++ (lw_privs_5 ++ (lw_privs_6 ++ (lw_privs_7)))))), lw_okq q
  exact List.forall_mem_append.mpr ⟨lw_r1, List.forall_mem_append.mpr ⟨lw_r2, List.forall_mem_append.mpr ⟨lw_r3, List.forall_mem_append.mpr ⟨lw_r4, List.forall_mem_append.mpr ⟨lw_r5, List.forall_mem_append.mpr ⟨lw_r6, lw_r7⟩⟩⟩⟩⟩⟩
def RX0 : String := "TwoBeatsAgo$Acts"
def TX0 : u_T := fun k => match k with
  | 0 => ("TwoBeatsAgo$Acts", "ran", "I", false)
  | 1 => ("TwoBeatsAgo$Acts", "bodies", "[I", true)
  | 2 => ("TwoBeatsAgo$Acts", "kind", "I", false)
  | 3 => ("TwoBeatsAgo$Acts", "v", "I", false)
  | _ => ("TwoBeatsAgo$Acts", "number", "I", false)
def tyX0 : Nat → FieldType := fun k => match k with
  | 0 => .int
  | 1 => .array .int
  | 2 => .int
  | 3 => .int
  | _ => .int
theorem nmX0 : ∀ a, a < 5 → ∀ b, b < 5 → a ≠ b → (TX0 a).2.1 ≠ (TX0 b).2.1 := by decide +kernel
theorem tyX0_ok : ∀ k, k < 5 → parseFieldDescriptor (TX0 k).2.2.1 = some (tyX0 k) := by decide +kernel
abbrev cX0_init : ByteArray := prog_2_method_1_code
def yX0_init : MethodName := ⟨RX0, "<init>", "()V"⟩
abbrev cX0_forgetTrace : ByteArray := prog_2_method_2_code
def yX0_forgetTrace : MethodName := ⟨RX0, "forgetTrace", "()V"⟩
abbrev cX0_play : ByteArray := prog_2_method_3_code
def yX0_play : MethodName := ⟨RX0, "play", "(LTwoBeatsAgo$Floor;III)I"⟩
abbrev cX0_run : ByteArray := prog_2_method_4_code
def yX0_run : MethodName := ⟨RX0, "run", "(IIII)I"⟩
abbrev cX0_runBody : ByteArray := prog_2_method_5_code
def yX0_runBody : MethodName := ⟨RX0, "runBody", "(III)I"⟩
abbrev cX0_bodyOf : ByteArray := prog_2_method_6_code
def yX0_bodyOf : MethodName := ⟨RX0, "bodyOf", "(II)I"⟩
def RX1 : String := "TwoBeatsAgo$ByHand"
def TX1 : u_T := fun k => match k with
  | 0 => ("TwoBeatsAgo$ByHand", "seen", "I", false)
  | 1 => ("TwoBeatsAgo$ByHand", "seenDancers", "[I", true)
  | 2 => ("TwoBeatsAgo$ByHand", "seenPlaces", "[I", true)
  | 3 => ("TwoBeatsAgo$ByHand", "seenBehind", "[I", true)
  | 4 => ("TwoBeatsAgo$ByHand", "steps", "I", false)
  | 5 => ("TwoBeatsAgo$ByHand", "dance", "[I", true)
  | 6 => ("TwoBeatsAgo$ByHand", "rows", "I", false)
  | 7 => ("TwoBeatsAgo$ByHand", "rowDancers", "[I", true)
  | _ => ("TwoBeatsAgo$ByHand", "rowPlaces", "[I", true)
def tyX1 : Nat → FieldType := fun k => match k with
  | 0 => .int
  | 1 => .array .int
  | 2 => .array .int
  | 3 => .array .int
  | 4 => .int
  | 5 => .array .int
  | 6 => .int
  | 7 => .array .int
  | _ => .array .int
theorem nmX1 : ∀ a, a < 9 → ∀ b, b < 9 → a ≠ b → (TX1 a).2.1 ≠ (TX1 b).2.1 := by decide +kernel
theorem tyX1_ok : ∀ k, k < 9 → parseFieldDescriptor (TX1 k).2.2.1 = some (tyX1 k) := by decide +kernel
abbrev cX1_init : ByteArray := prog_3_method_1_code
def yX1_init : MethodName := ⟨RX1, "<init>", "()V"⟩
abbrev cX1_become : ByteArray := prog_3_method_2_code
def yX1_become : MethodName := ⟨RX1, "become", "(LTwoBeatsAgo$ByHand;)V"⟩
abbrev cX1_addSeen : ByteArray := prog_3_method_3_code
def yX1_addSeen : MethodName := ⟨RX1, "addSeen", "(III)I"⟩
abbrev cX1_addStep : ByteArray := prog_3_method_4_code
def yX1_addStep : MethodName := ⟨RX1, "addStep", "(I)I"⟩
abbrev cX1_addRow : ByteArray := prog_3_method_5_code
def yX1_addRow : MethodName := ⟨RX1, "addRow", "(II)I"⟩
abbrev cX1_allSeenOn : ByteArray := prog_3_method_6_code
def yX1_allSeenOn : MethodName := ⟨RX1, "allSeenOn", "(LTwoBeatsAgo$Floor;)Z"⟩
abbrev cX1_danceOn : ByteArray := prog_3_method_7_code
def yX1_danceOn : MethodName := ⟨RX1, "danceOn", "(LTwoBeatsAgo$Floor;)V"⟩
abbrev cX1_followRound : ByteArray := prog_3_method_8_code
def yX1_followRound : MethodName := ⟨RX1, "followRound", "(LTwoBeatsAgo$Floor;)V"⟩
abbrev cX1_firstWrongRow : ByteArray := prog_3_method_9_code
def yX1_firstWrongRow : MethodName := ⟨RX1, "firstWrongRow", "(LTwoBeatsAgo$Floor;)I"⟩
def RX2 : String := "TwoBeatsAgo$Floor"
def TX2 : u_T := fun k => match k with
  | 0 => ("TwoBeatsAgo$Floor", "dancers", "I", false)
  | 1 => ("TwoBeatsAgo$Floor", "beat", "I", false)
  | 2 => ("TwoBeatsAgo$Floor", "hall", "LTwoBeatsAgo$Hall;", false)
  | 3 => ("TwoBeatsAgo$Floor", "kind", "[I", true)
  | 4 => ("TwoBeatsAgo$Floor", "v", "[I", true)
  | 5 => ("TwoBeatsAgo$Floor", "follows", "[I", true)
  | 6 => ("TwoBeatsAgo$Floor", "was", "[I", true)
  | 7 => ("TwoBeatsAgo$Floor", "rows", "[I", true)
  | _ => ("TwoBeatsAgo$Floor", "next", "[I", true)
def tyX2 : Nat → FieldType := fun k => match k with
  | 0 => .int
  | 1 => .int
  | 2 => .object "TwoBeatsAgo$Hall"
  | 3 => .array .int
  | 4 => .array .int
  | 5 => .array .int
  | 6 => .array .int
  | 7 => .array .int
  | _ => .array .int
theorem nmX2 : ∀ a, a < 9 → ∀ b, b < 9 → a ≠ b → (TX2 a).2.1 ≠ (TX2 b).2.1 := by decide +kernel
theorem tyX2_ok : ∀ k, k < 9 → parseFieldDescriptor (TX2 k).2.2.1 = some (tyX2 k) := by decide +kernel
abbrev cX2_init : ByteArray := prog_4_method_1_code
def yX2_init : MethodName := ⟨RX2, "<init>", "(LTwoBeatsAgo$Hall;)V"⟩
abbrev cX2_become : ByteArray := prog_4_method_2_code
def yX2_become : MethodName := ⟨RX2, "become", "(LTwoBeatsAgo$Floor;)V"⟩
abbrev cX2_has : ByteArray := prog_4_method_3_code
def yX2_has : MethodName := ⟨RX2, "has", "(I)Z"⟩
abbrev cX2_hasPlace : ByteArray := prog_4_method_4_code
def yX2_hasPlace : MethodName := ⟨RX2, "hasPlace", "(I)Z"⟩
abbrev cX2_wasOf : ByteArray := prog_4_method_5_code
def yX2_wasOf : MethodName := ⟨RX2, "wasOf", "(II)I"⟩
abbrev cX2_join : ByteArray := prog_4_method_6_code
def yX2_join : MethodName := ⟨RX2, "join", "(III)I"⟩
abbrev cX2_follow : ByteArray := prog_4_method_7_code
def yX2_follow : MethodName := ⟨RX2, "follow", "(II)V"⟩
abbrev cX2_standAt : ByteArray := prog_4_method_8_code
def yX2_standAt : MethodName := ⟨RX2, "standAt", "(II)V"⟩
abbrev cX2_wrapAll : ByteArray := prog_4_method_9_code
def yX2_wrapAll : MethodName := ⟨RX2, "wrapAll", "()V"⟩
abbrev cX2_letterOf : ByteArray := prog_4_method_10_code
def yX2_letterOf : MethodName := ⟨RX2, "letterOf", "(II)I"⟩
abbrev cX2_goesOf : ByteArray := prog_4_method_11_code
def yX2_goesOf : MethodName := ⟨RX2, "goesOf", "(I)I"⟩
abbrev cX2_isLazyNow : ByteArray := prog_4_method_12_code
def yX2_isLazyNow : MethodName := ⟨RX2, "isLazyNow", "(I)Z"⟩
abbrev cX2_goBeat : ByteArray := prog_4_method_13_code
def yX2_goBeat : MethodName := ⟨RX2, "goBeat", "(Z)V"⟩
abbrev cX2_goBeats : ByteArray := prog_4_method_14_code
def yX2_goBeats : MethodName := ⟨RX2, "goBeats", "(I)V"⟩
abbrev cX2_beatsTillTogether : ByteArray := prog_4_method_15_code
def yX2_beatsTillTogether : MethodName := ⟨RX2, "beatsTillTogether", "(II)I"⟩
abbrev cX2_beatsAlone : ByteArray := prog_4_method_16_code
def yX2_beatsAlone : MethodName := ⟨RX2, "beatsAlone", "(II)I"⟩
abbrev cX2_areTogether : ByteArray := prog_4_method_17_code
def yX2_areTogether : MethodName := ⟨RX2, "areTogether", "()Z"⟩
abbrev cX2_isAlone : ByteArray := prog_4_method_18_code
def yX2_isAlone : MethodName := ⟨RX2, "isAlone", "(I)Z"⟩
abbrev cX2_nobodyMoves : ByteArray := prog_4_method_19_code
def yX2_nobodyMoves : MethodName := ⟨RX2, "nobodyMoves", "()Z"⟩
abbrev cX2_standsAs : ByteArray := prog_4_method_20_code
def yX2_standsAs : MethodName := ⟨RX2, "standsAs", "(LTwoBeatsAgo$Floor;)Z"⟩
abbrev cX2_placesTaken : ByteArray := prog_4_method_21_code
def yX2_placesTaken : MethodName := ⟨RX2, "placesTaken", "()I"⟩
abbrev cX2_apart : ByteArray := prog_4_method_22_code
def yX2_apart : MethodName := ⟨RX2, "apart", "(II)I"⟩
abbrev cX2_countStanding : ByteArray := prog_4_method_23_code
def yX2_countStanding : MethodName := ⟨RX2, "countStanding", "([I)V"⟩
def RX3 : String := "TwoBeatsAgo$Hall"
def TX3 : u_T := fun k => match k with
  | 0 => ("TwoBeatsAgo$Hall", "wide", "I", false)
  | 1 => ("TwoBeatsAgo$Hall", "skip", "I", false)
  | 2 => ("TwoBeatsAgo$Hall", "steps", "I", false)
  | 3 => ("TwoBeatsAgo$Hall", "codeCount", "I", false)
  | 4 => ("TwoBeatsAgo$Hall", "amounts", "[I", true)
  | 5 => ("TwoBeatsAgo$Hall", "ends", "[I", true)
  | _ => ("TwoBeatsAgo$Hall", "codes", "[I", true)
def tyX3 : Nat → FieldType := fun k => match k with
  | 0 => .int
  | 1 => .int
  | 2 => .int
  | 3 => .int
  | 4 => .array .int
  | 5 => .array .int
  | _ => .array .int
theorem nmX3 : ∀ a, a < 7 → ∀ b, b < 7 → a ≠ b → (TX3 a).2.1 ≠ (TX3 b).2.1 := by decide +kernel
theorem tyX3_ok : ∀ k, k < 7 → parseFieldDescriptor (TX3 k).2.2.1 = some (tyX3 k) := by decide +kernel
abbrev cX3_init : ByteArray := prog_5_method_1_code
def yX3_init : MethodName := ⟨RX3, "<init>", "()V"⟩
abbrev cX3_clear : ByteArray := prog_5_method_2_code
def yX3_clear : MethodName := ⟨RX3, "clear", "()V"⟩
abbrev cX3_setWide : ByteArray := prog_5_method_3_code
def yX3_setWide : MethodName := ⟨RX3, "setWide", "(I)V"⟩
abbrev cX3_addCode : ByteArray := prog_5_method_4_code
def yX3_addCode : MethodName := ⟨RX3, "addCode", "(I)V"⟩
abbrev cX3_testCode : ByteArray := prog_5_method_5_code
def yX3_testCode : MethodName := ⟨RX3, "testCode", "(III)I"⟩
abbrev cX3_addStep : ByteArray := prog_5_method_6_code
def yX3_addStep : MethodName := ⟨RX3, "addStep", "(I)V"⟩
abbrev cX3_stopsAfter : ByteArray := prog_5_method_7_code
def yX3_stopsAfter : MethodName := ⟨RX3, "stopsAfter", "(I)Z"⟩
abbrev cX3_stepFor : ByteArray := prog_5_method_8_code
def yX3_stepFor : MethodName := ⟨RX3, "stepFor", "(LTwoBeatsAgo$Floor;I)I"⟩
abbrev cX3_holds : ByteArray := prog_5_method_9_code
def yX3_holds : MethodName := ⟨RX3, "holds", "(IILTwoBeatsAgo$Floor;I)Z"⟩
abbrev cX3_passes : ByteArray := prog_5_method_10_code
def yX3_passes : MethodName := ⟨RX3, "passes", "(ILTwoBeatsAgo$Floor;I)Z"⟩
def RX4 : String := "TwoBeatsAgo$HallText"
def TX4 : u_T := fun k => match k with
  | 0 => ("TwoBeatsAgo$HallText", "signs", "[C", true)
  | 1 => ("TwoBeatsAgo$HallText", "length", "I", false)
  | _ => ("TwoBeatsAgo$HallText", "at", "I", false)
def tyX4 : Nat → FieldType := fun k => match k with
  | 0 => .array .char
  | 1 => .int
  | _ => .int
theorem nmX4 : ∀ a, a < 3 → ∀ b, b < 3 → a ≠ b → (TX4 a).2.1 ≠ (TX4 b).2.1 := by decide +kernel
theorem tyX4_ok : ∀ k, k < 3 → parseFieldDescriptor (TX4 k).2.2.1 = some (tyX4 k) := by decide +kernel
abbrev cX4_init : ByteArray := prog_6_method_1_code
def yX4_init : MethodName := ⟨RX4, "<init>", "()V"⟩
abbrev cX4_add : ByteArray := prog_6_method_2_code
def yX4_add : MethodName := ⟨RX4, "add", "(C)V"⟩
abbrev cX4_readInto : ByteArray := prog_6_method_3_code
def yX4_readInto : MethodName := ⟨RX4, "readInto", "(LTwoBeatsAgo$Hall;)Z"⟩
abbrev cX4_readClause : ByteArray := prog_6_method_4_code
def yX4_readClause : MethodName := ⟨RX4, "readClause", "(LTwoBeatsAgo$Hall;)Z"⟩
abbrev cX4_wordOf : ByteArray := prog_6_method_5_code
def yX4_wordOf : MethodName := ⟨RX4, "wordOf", "(C)Ljava/lang/String;"⟩
abbrev cX4_readAnyOf : ByteArray := prog_6_method_6_code
def yX4_readAnyOf : MethodName := ⟨RX4, "readAnyOf", "(LTwoBeatsAgo$Hall;I)Z"⟩
abbrev cX4_readAllOf : ByteArray := prog_6_method_7_code
def yX4_readAllOf : MethodName := ⟨RX4, "readAllOf", "(LTwoBeatsAgo$Hall;I)Z"⟩
abbrev cX4_readOne : ByteArray := prog_6_method_8_code
def yX4_readOne : MethodName := ⟨RX4, "readOne", "(LTwoBeatsAgo$Hall;I)Z"⟩
abbrev cX4_readTest : ByteArray := prog_6_method_9_code
def yX4_readTest : MethodName := ⟨RX4, "readTest", "(LTwoBeatsAgo$Hall;)Z"⟩
abbrev cX4_readNumber : ByteArray := prog_6_method_10_code
def yX4_readNumber : MethodName := ⟨RX4, "readNumber", "()I"⟩
abbrev cX4_takesAll : ByteArray := prog_6_method_11_code
def yX4_takesAll : MethodName := ⟨RX4, "takesAll", "(Ljava/lang/String;)Z"⟩
abbrev cX4_takes : ByteArray := prog_6_method_12_code
def yX4_takes : MethodName := ⟨RX4, "takes", "(C)Z"⟩
abbrev cX4_ahead : ByteArray := prog_6_method_13_code
def yX4_ahead : MethodName := ⟨RX4, "ahead", "()C"⟩
def RX5 : String := "TwoBeatsAgo$Tape"
def TX5 : u_T := fun k => match k with
  | 0 => ("TwoBeatsAgo$Tape", "sort", "I", false)
  | 1 => ("TwoBeatsAgo$Tape", "length", "I", false)
  | _ => ("TwoBeatsAgo$Tape", "items", "[J", true)
def tyX5 : Nat → FieldType := fun k => match k with
  | 0 => .int
  | 1 => .int
  | _ => .array .long
theorem nmX5 : ∀ a, a < 3 → ∀ b, b < 3 → a ≠ b → (TX5 a).2.1 ≠ (TX5 b).2.1 := by decide +kernel
theorem tyX5_ok : ∀ k, k < 3 → parseFieldDescriptor (TX5 k).2.2.1 = some (tyX5 k) := by decide +kernel
abbrev cX5_init : ByteArray := prog_7_method_1_code
def yX5_init : MethodName := ⟨RX5, "<init>", "()V"⟩
abbrev cX5_become : ByteArray := prog_7_method_2_code
def yX5_become : MethodName := ⟨RX5, "become", "(II)V"⟩
abbrev cX5_fitted : ByteArray := prog_7_method_3_code
def yX5_fitted : MethodName := ⟨RX5, "fitted", "(J)J"⟩
abbrev cX5_hasStretch : ByteArray := prog_7_method_4_code
def yX5_hasStretch : MethodName := ⟨RX5, "hasStretch", "(II)Z"⟩
def RX6 : String := "TwoBeatsAgo"
def TX6 : u_T := fun k => match k with
  | 0 => ("TwoBeatsAgo", "now", "LTwoBeatsAgo$Floor;", true)
  | 1 => ("TwoBeatsAgo", "trial", "LTwoBeatsAgo$Floor;", true)
  | 2 => ("TwoBeatsAgo", "kept", "LTwoBeatsAgo$Floor;", true)
  | 3 => ("TwoBeatsAgo", "hand", "LTwoBeatsAgo$ByHand;", true)
  | 4 => ("TwoBeatsAgo", "keptHand", "LTwoBeatsAgo$ByHand;", true)
  | 5 => ("TwoBeatsAgo", "imageTaken", "Z", false)
  | 6 => ("TwoBeatsAgo", "halls", "[LTwoBeatsAgo$Hall;", true)
  | 7 => ("TwoBeatsAgo", "hallCount", "I", false)
  | 8 => ("TwoBeatsAgo", "text", "LTwoBeatsAgo$HallText;", true)
  | 9 => ("TwoBeatsAgo", "acts", "LTwoBeatsAgo$Acts;", true)
  | 10 => ("TwoBeatsAgo", "tapes", "[LTwoBeatsAgo$Tape;", true)
  | _ => ("TwoBeatsAgo", "stood", "[I", true)
def tyX6 : Nat → FieldType := fun k => match k with
  | 0 => .object "TwoBeatsAgo$Floor"
  | 1 => .object "TwoBeatsAgo$Floor"
  | 2 => .object "TwoBeatsAgo$Floor"
  | 3 => .object "TwoBeatsAgo$ByHand"
  | 4 => .object "TwoBeatsAgo$ByHand"
  | 5 => .boolean
  | 6 => .array (.object "TwoBeatsAgo$Hall")
  | 7 => .int
  | 8 => .object "TwoBeatsAgo$HallText"
  | 9 => .object "TwoBeatsAgo$Acts"
  | 10 => .array (.object "TwoBeatsAgo$Tape")
  | _ => .array .int
theorem nmX6 : ∀ a, a < 12 → ∀ b, b < 12 → a ≠ b → (TX6 a).2.1 ≠ (TX6 b).2.1 := by decide +kernel
theorem tyX6_ok : ∀ k, k < 12 → parseFieldDescriptor (TX6 k).2.2.1 = some (tyX6 k) := by decide +kernel
abbrev cX6_init : ByteArray := prog_1_method_1_code
def yX6_init : MethodName := ⟨RX6, "<init>", "()V"⟩
abbrev cX6_dancer : ByteArray := prog_1_method_2_code
def yX6_dancer : MethodName := ⟨RX6, "dancer", "(III)I"⟩
abbrev cX6_of : ByteArray := prog_1_method_3_code
def yX6_of : MethodName := ⟨RX6, "of", "(II)I"⟩
abbrev cX6_after : ByteArray := prog_1_method_4_code
def yX6_after : MethodName := ⟨RX6, "after", "(II)I"⟩
abbrev cX6_begin : ByteArray := prog_1_method_5_code
def yX6_begin : MethodName := ⟨RX6, "begin", "(II)I"⟩
abbrev cX6_row : ByteArray := prog_1_method_6_code
def yX6_row : MethodName := ⟨RX6, "row", "(III)I"⟩
abbrev cX6_feed : ByteArray := prog_1_method_7_code
def yX6_feed : MethodName := ⟨RX6, "feed", "(I)I"⟩
abbrev cX6_hall : ByteArray := prog_1_method_8_code
def yX6_hall : MethodName := ⟨RX6, "hall", "()I"⟩
abbrev cX6_told : ByteArray := prog_1_method_9_code
def yX6_told : MethodName := ⟨RX6, "told", "(I)I"⟩
abbrev cX6_pass : ByteArray := prog_1_method_10_code
def yX6_pass : MethodName := ⟨RX6, "pass", "(I)I"⟩
abbrev cX6_on : ByteArray := prog_1_method_11_code
def yX6_on : MethodName := ⟨RX6, "on", "(II)I"⟩
abbrev cX6_again : ByteArray := prog_1_method_12_code
def yX6_again : MethodName := ⟨RX6, "again", "()I"⟩
abbrev cX6_together : ByteArray := prog_1_method_13_code
def yX6_together : MethodName := ⟨RX6, "together", "()I"⟩
abbrev cX6_still : ByteArray := prog_1_method_14_code
def yX6_still : MethodName := ⟨RX6, "still", "()I"⟩
abbrev cX6_meet : ByteArray := prog_1_method_15_code
def yX6_meet : MethodName := ⟨RX6, "meet", "(II)I"⟩
abbrev cX6_far : ByteArray := prog_1_method_16_code
def yX6_far : MethodName := ⟨RX6, "far", "(III)I"⟩
abbrev cX6_whom : ByteArray := prog_1_method_17_code
def yX6_whom : MethodName := ⟨RX6, "whom", "(I)I"⟩
abbrev cX6_alone : ByteArray := prog_1_method_18_code
def yX6_alone : MethodName := ⟨RX6, "alone", "(III)I"⟩
abbrev cX6_stop : ByteArray := prog_1_method_19_code
def yX6_stop : MethodName := ⟨RX6, "stop", "()I"⟩
abbrev cX6_begins : ByteArray := prog_1_method_20_code
def yX6_begins : MethodName := ⟨RX6, "begins", "(III)I"⟩
abbrev cX6_crowd : ByteArray := prog_1_method_21_code
def yX6_crowd : MethodName := ⟨RX6, "crowd", "(I)I"⟩
abbrev cX6_see : ByteArray := prog_1_method_22_code
def yX6_see : MethodName := ⟨RX6, "see", "(III)I"⟩
abbrev cX6_can : ByteArray := prog_1_method_23_code
def yX6_can : MethodName := ⟨RX6, "can", "(I)I"⟩
abbrev cX6_odds : ByteArray := prog_1_method_24_code
def yX6_odds : MethodName := ⟨RX6, "odds", "(II)J"⟩
abbrev cX6_mean : ByteArray := prog_1_method_25_code
def yX6_mean : MethodName := ⟨RX6, "mean", "(II)J"⟩
abbrev cX6_dance : ByteArray := prog_1_method_26_code
def yX6_dance : MethodName := ⟨RX6, "dance", "(I)I"⟩
abbrev cX6_danced : ByteArray := prog_1_method_27_code
def yX6_danced : MethodName := ⟨RX6, "danced", "(I)I"⟩
abbrev cX6_book : ByteArray := prog_1_method_28_code
def yX6_book : MethodName := ⟨RX6, "book", "(II)I"⟩
abbrev cX6_looked : ByteArray := prog_1_method_29_code
def yX6_looked : MethodName := ⟨RX6, "looked", "()I"⟩
abbrev cX6_judge : ByteArray := prog_1_method_30_code
def yX6_judge : MethodName := ⟨RX6, "judge", "(II)I"⟩
abbrev cX6_image : ByteArray := prog_1_method_31_code
def yX6_image : MethodName := ⟨RX6, "image", "()I"⟩
abbrev cX6_undo : ByteArray := prog_1_method_32_code
def yX6_undo : MethodName := ⟨RX6, "undo", "()I"⟩
abbrev cX6_act : ByteArray := prog_1_method_33_code
def yX6_act : MethodName := ⟨RX6, "act", "(III)I"⟩
abbrev cX6_trace : ByteArray := prog_1_method_34_code
def yX6_trace : MethodName := ⟨RX6, "trace", "(I)I"⟩
abbrev cX6_taken : ByteArray := prog_1_method_35_code
def yX6_taken : MethodName := ⟨RX6, "taken", "(II)I"⟩
abbrev cX6_count : ByteArray := prog_1_method_36_code
def yX6_count : MethodName := ⟨RX6, "count", "(I)I"⟩
abbrev cX6_tape : ByteArray := prog_1_method_37_code
def yX6_tape : MethodName := ⟨RX6, "tape", "(III)I"⟩
abbrev cX6_item : ByteArray := prog_1_method_38_code
def yX6_item : MethodName := ⟨RX6, "item", "(IIJ)I"⟩
abbrev cX6_read : ByteArray := prog_1_method_39_code
def yX6_read : MethodName := ⟨RX6, "read", "(II)J"⟩
abbrev cX6_shift : ByteArray := prog_1_method_40_code
def yX6_shift : MethodName := ⟨RX6, "shift", "(IIIII)I"⟩
abbrev cX6_asksForPlaces : ByteArray := prog_1_method_41_code
def yX6_asksForPlaces : MethodName := ⟨RX6, "asksForPlaces", "(I)Z"⟩
abbrev cX6_placesAsked : ByteArray := prog_1_method_42_code
def yX6_placesAsked : MethodName := ⟨RX6, "placesAsked", "(I)I"⟩
abbrev cX6_isTape : ByteArray := prog_1_method_43_code
def yX6_isTape : MethodName := ⟨RX6, "isTape", "(I)Z"⟩
abbrev cX6_partOfFraction : ByteArray := prog_1_method_44_code
def yX6_partOfFraction : MethodName := ⟨RX6, "partOfFraction", "(III)J"⟩
abbrev cX6_modulo : ByteArray := prog_1_method_45_code
def yX6_modulo : MethodName := ⟨RX6, "modulo", "(II)I"⟩
def RX7 : String := "TwoBeatsAgoModel"
def TX7 : u_T := fun k => match k with
  | 0 => ("TwoBeatsAgoModel", "dancers", "I", false)
  | 1 => ("TwoBeatsAgoModel", "beats", "I", false)
  | 2 => ("TwoBeatsAgoModel", "kind", "[I", true)
  | 3 => ("TwoBeatsAgoModel", "v", "[I", true)
  | 4 => ("TwoBeatsAgoModel", "follows", "[I", true)
  | 5 => ("TwoBeatsAgoModel", "rows", "[I", true)
  | 6 => ("TwoBeatsAgoModel", "was", "[I", true)
  | 7 => ("TwoBeatsAgoModel", "halls", "I", false)
  | 8 => ("TwoBeatsAgoModel", "the", "I", false)
  | 9 => ("TwoBeatsAgoModel", "fed", "I", false)
  | 10 => ("TwoBeatsAgoModel", "at", "I", false)
  | 11 => ("TwoBeatsAgoModel", "digits", "I", false)
  | 12 => ("TwoBeatsAgoModel", "text", "[I", true)
  | 13 => ("TwoBeatsAgoModel", "clauses", "[I", true)
  | 14 => ("TwoBeatsAgoModel", "word", "[I", true)
  | 15 => ("TwoBeatsAgoModel", "number", "[I", true)
  | 16 => ("TwoBeatsAgoModel", "from", "[I", true)
  | 17 => ("TwoBeatsAgoModel", "to", "[I", true)
  | 18 => ("TwoBeatsAgoModel", "sign", "[I", true)
  | 19 => ("TwoBeatsAgoModel", "waits", "[I", true)
  | 20 => ("TwoBeatsAgoModel", "signs", "I", false)
  | 21 => ("TwoBeatsAgoModel", "waiting", "I", false)
  | 22 => ("TwoBeatsAgoModel", "open", "I", false)
  | 23 => ("TwoBeatsAgoModel", "letters", "[I", true)
  | 24 => ("TwoBeatsAgoModel", "pile", "[Z", true)
  | 25 => ("TwoBeatsAgoModel", "taken0", "[Z", true)
  | 26 => ("TwoBeatsAgoModel", "going", "[I", true)
  | 27 => ("TwoBeatsAgoModel", "keptBeats", "I", false)
  | 28 => ("TwoBeatsAgoModel", "keptWas", "[I", true)
  | 29 => ("TwoBeatsAgoModel", "keptFollows", "[I", true)
  | 30 => ("TwoBeatsAgoModel", "been", "[I", true)
  | 31 => ("TwoBeatsAgoModel", "seen", "I", false)
  | 32 => ("TwoBeatsAgoModel", "seenWho", "[I", true)
  | 33 => ("TwoBeatsAgoModel", "seenWhere", "[I", true)
  | 34 => ("TwoBeatsAgoModel", "seenWhen", "[I", true)
  | 35 => ("TwoBeatsAgoModel", "dances", "I", false)
  | 36 => ("TwoBeatsAgoModel", "books", "I", false)
  | 37 => ("TwoBeatsAgoModel", "danceWhat", "[I", true)
  | 38 => ("TwoBeatsAgoModel", "bookWho", "[I", true)
  | 39 => ("TwoBeatsAgoModel", "bookWhere", "[I", true)
  | 40 => ("TwoBeatsAgoModel", "hasImage", "Z", false)
  | 41 => ("TwoBeatsAgoModel", "imageThe", "I", false)
  | 42 => ("TwoBeatsAgoModel", "imageDancers", "I", false)
  | 43 => ("TwoBeatsAgoModel", "imageBeats", "I", false)
  | 44 => ("TwoBeatsAgoModel", "imageSeen", "I", false)
  | 45 => ("TwoBeatsAgoModel", "imageDances", "I", false)
  | 46 => ("TwoBeatsAgoModel", "imageBooks", "I", false)
  | 47 => ("TwoBeatsAgoModel", "imageKind", "[I", true)
  | 48 => ("TwoBeatsAgoModel", "imageV", "[I", true)
  | 49 => ("TwoBeatsAgoModel", "imageFollows", "[I", true)
  | 50 => ("TwoBeatsAgoModel", "imageRows", "[I", true)
  | 51 => ("TwoBeatsAgoModel", "imageWas", "[I", true)
  | 52 => ("TwoBeatsAgoModel", "imageWho", "[I", true)
  | 53 => ("TwoBeatsAgoModel", "imageWhere", "[I", true)
  | 54 => ("TwoBeatsAgoModel", "imageWhen", "[I", true)
  | 55 => ("TwoBeatsAgoModel", "imageDance", "[I", true)
  | 56 => ("TwoBeatsAgoModel", "imageBookWho", "[I", true)
  | 57 => ("TwoBeatsAgoModel", "imageBookWhere", "[I", true)
  | 58 => ("TwoBeatsAgoModel", "ran", "I", false)
  | 59 => ("TwoBeatsAgoModel", "bodies", "[I", true)
  | 60 => ("TwoBeatsAgoModel", "sort", "[I", true)
  | 61 => ("TwoBeatsAgoModel", "length", "[I", true)
  | 62 => ("TwoBeatsAgoModel", "item", "[J", true)
  | _ => ("TwoBeatsAgoModel", "aside", "[J", true)
def tyX7 : Nat → FieldType := fun k => match k with
  | 0 => .int
  | 1 => .int
  | 2 => .array .int
  | 3 => .array .int
  | 4 => .array .int
  | 5 => .array .int
  | 6 => .array .int
  | 7 => .int
  | 8 => .int
  | 9 => .int
  | 10 => .int
  | 11 => .int
  | 12 => .array .int
  | 13 => .array .int
  | 14 => .array .int
  | 15 => .array .int
  | 16 => .array .int
  | 17 => .array .int
  | 18 => .array .int
  | 19 => .array .int
  | 20 => .int
  | 21 => .int
  | 22 => .int
  | 23 => .array .int
  | 24 => .array .boolean
  | 25 => .array .boolean
  | 26 => .array .int
  | 27 => .int
  | 28 => .array .int
  | 29 => .array .int
  | 30 => .array .int
  | 31 => .int
  | 32 => .array .int
  | 33 => .array .int
  | 34 => .array .int
  | 35 => .int
  | 36 => .int
  | 37 => .array .int
  | 38 => .array .int
  | 39 => .array .int
  | 40 => .boolean
  | 41 => .int
  | 42 => .int
  | 43 => .int
  | 44 => .int
  | 45 => .int
  | 46 => .int
  | 47 => .array .int
  | 48 => .array .int
  | 49 => .array .int
  | 50 => .array .int
  | 51 => .array .int
  | 52 => .array .int
  | 53 => .array .int
  | 54 => .array .int
  | 55 => .array .int
  | 56 => .array .int
  | 57 => .array .int
  | 58 => .int
  | 59 => .array .int
  | 60 => .array .int
  | 61 => .array .int
  | 62 => .array .long
  | _ => .array .long
theorem nmX7 : ∀ a, a < 64 → ∀ b, b < 64 → a ≠ b → (TX7 a).2.1 ≠ (TX7 b).2.1 := by decide +kernel
theorem tyX7_ok : ∀ k, k < 64 → parseFieldDescriptor (TX7 k).2.2.1 = some (tyX7 k) := by decide +kernel
abbrev cX7_init : ByteArray := prog_9_method_1_code
def yX7_init : MethodName := ⟨RX7, "<init>", "()V"⟩
abbrev cX7_in : ByteArray := prog_9_method_2_code
def yX7_in : MethodName := ⟨RX7, "in", "(III)Z"⟩
abbrev cX7_isDancer : ByteArray := prog_9_method_3_code
def yX7_isDancer : MethodName := ⟨RX7, "isDancer", "(I)Z"⟩
abbrev cX7_isPlace : ByteArray := prog_9_method_4_code
def yX7_isPlace : MethodName := ⟨RX7, "isPlace", "(I)Z"⟩
abbrev cX7_isBeats : ByteArray := prog_9_method_5_code
def yX7_isBeats : MethodName := ⟨RX7, "isBeats", "(I)Z"⟩
abbrev cX7_laysAll : ByteArray := prog_9_method_6_code
def yX7_laysAll : MethodName := ⟨RX7, "laysAll", "(II)V"⟩
abbrev cX7_dancer : ByteArray := prog_9_method_7_code
def yX7_dancer : MethodName := ⟨RX7, "dancer", "(III)I"⟩
abbrev cX7_after : ByteArray := prog_9_method_8_code
def yX7_after : MethodName := ⟨RX7, "after", "(II)I"⟩
abbrev cX7_begin : ByteArray := prog_9_method_9_code
def yX7_begin : MethodName := ⟨RX7, "begin", "(II)I"⟩
abbrev cX7_row : ByteArray := prog_9_method_10_code
def yX7_row : MethodName := ⟨RX7, "row", "(III)I"⟩
abbrev cX7_feed : ByteArray := prog_9_method_11_code
def yX7_feed : MethodName := ⟨RX7, "feed", "(I)I"⟩
abbrev cX7_next : ByteArray := prog_9_method_12_code
def yX7_next : MethodName := ⟨RX7, "next", "()I"⟩
abbrev cX7_takes : ByteArray := prog_9_method_13_code
def yX7_takes : MethodName := ⟨RX7, "takes", "(I)Z"⟩
abbrev cX7_takesWord : ByteArray := prog_9_method_14_code
def yX7_takesWord : MethodName := ⟨RX7, "takesWord", "(II)Z"⟩
abbrev cX7_isDigit : ByteArray := prog_9_method_15_code
def yX7_isDigit : MethodName := ⟨RX7, "isDigit", "()Z"⟩
abbrev cX7_takesNumber : ByteArray := prog_9_method_16_code
def yX7_takesNumber : MethodName := ⟨RX7, "takesNumber", "()Z"⟩
abbrev cX7_emits : ByteArray := prog_9_method_17_code
def yX7_emits : MethodName := ⟨RX7, "emits", "(I)V"⟩
abbrev cX7_whole : ByteArray := prog_9_method_18_code
def yX7_whole : MethodName := ⟨RX7, "whole", "()V"⟩
abbrev cX7_settle : ByteArray := prog_9_method_19_code
def yX7_settle : MethodName := ⟨RX7, "settle", "(I)V"⟩
abbrev cX7_place : ByteArray := prog_9_method_20_code
def yX7_place : MethodName := ⟨RX7, "place", "(I)I"⟩
abbrev cX7_takesTest : ByteArray := prog_9_method_21_code
def yX7_takesTest : MethodName := ⟨RX7, "takesTest", "()Z"⟩
abbrev cX7_takesE : ByteArray := prog_9_method_22_code
def yX7_takesE : MethodName := ⟨RX7, "takesE", "(I)Z"⟩
abbrev cX7_takesHead : ByteArray := prog_9_method_23_code
def yX7_takesHead : MethodName := ⟨RX7, "takesHead", "(I)Z"⟩
abbrev cX7_takesClause : ByteArray := prog_9_method_24_code
def yX7_takesClause : MethodName := ⟨RX7, "takesClause", "(I)Z"⟩
abbrev cX7_goesText : ByteArray := prog_9_method_25_code
def yX7_goesText : MethodName := ⟨RX7, "goesText", "(I)Z"⟩
abbrev cX7_hall : ByteArray := prog_9_method_26_code
def yX7_hall : MethodName := ⟨RX7, "hall", "()I"⟩
abbrev cX7_firstClause : ByteArray := prog_9_method_27_code
def yX7_firstClause : MethodName := ⟨RX7, "firstClause", "()I"⟩
abbrev cX7_behindClauses : ByteArray := prog_9_method_28_code
def yX7_behindClauses : MethodName := ⟨RX7, "behindClauses", "()I"⟩
abbrev cX7_lastOf : ByteArray := prog_9_method_29_code
def yX7_lastOf : MethodName := ⟨RX7, "lastOf", "(II)I"⟩
abbrev cX7_wide : ByteArray := prog_9_method_30_code
def yX7_wide : MethodName := ⟨RX7, "wide", "()I"⟩
abbrev cX7_skip : ByteArray := prog_9_method_31_code
def yX7_skip : MethodName := ⟨RX7, "skip", "()I"⟩
abbrev cX7_factOf : ByteArray := prog_9_method_32_code
def yX7_factOf : MethodName := ⟨RX7, "factOf", "(II)I"⟩
abbrev cX7_holds : ByteArray := prog_9_method_33_code
def yX7_holds : MethodName := ⟨RX7, "holds", "(II)Z"⟩
abbrev cX7_step : ByteArray := prog_9_method_34_code
def yX7_step : MethodName := ⟨RX7, "step", "(I)I"⟩
abbrev cX7_round : ByteArray := prog_9_method_35_code
def yX7_round : MethodName := ⟨RX7, "round", "(I)I"⟩
abbrev cX7_goes : ByteArray := prog_9_method_36_code
def yX7_goes : MethodName := ⟨RX7, "goes", "(I)I"⟩
abbrev cX7_of : ByteArray := prog_9_method_37_code
def yX7_of : MethodName := ⟨RX7, "of", "(II)I"⟩
abbrev cX7_many : ByteArray := prog_9_method_38_code
def yX7_many : MethodName := ⟨RX7, "many", "()I"⟩
abbrev cX7_told : ByteArray := prog_9_method_39_code
def yX7_told : MethodName := ⟨RX7, "told", "(I)I"⟩
abbrev cX7_goBeat : ByteArray := prog_9_method_40_code
def yX7_goBeat : MethodName := ⟨RX7, "goBeat", "(Z)V"⟩
abbrev cX7_go : ByteArray := prog_9_method_41_code
def yX7_go : MethodName := ⟨RX7, "go", "()V"⟩
abbrev cX7_pass : ByteArray := prog_9_method_42_code
def yX7_pass : MethodName := ⟨RX7, "pass", "(I)I"⟩
abbrev cX7_save : ByteArray := prog_9_method_43_code
def yX7_save : MethodName := ⟨RX7, "save", "()V"⟩
abbrev cX7_putBack : ByteArray := prog_9_method_44_code
def yX7_putBack : MethodName := ⟨RX7, "putBack", "()V"⟩
abbrev cX7_on : ByteArray := prog_9_method_45_code
def yX7_on : MethodName := ⟨RX7, "on", "(II)I"⟩
abbrev cX7_isAsKept : ByteArray := prog_9_method_46_code
def yX7_isAsKept : MethodName := ⟨RX7, "isAsKept", "()Z"⟩
abbrev cX7_again : ByteArray := prog_9_method_47_code
def yX7_again : MethodName := ⟨RX7, "again", "()I"⟩
abbrev cX7_togetherBy : ByteArray := prog_9_method_48_code
def yX7_togetherBy : MethodName := ⟨RX7, "togetherBy", "(I)I"⟩
abbrev cX7_together : ByteArray := prog_9_method_49_code
def yX7_together : MethodName := ⟨RX7, "together", "()I"⟩
abbrev cX7_isStill : ByteArray := prog_9_method_50_code
def yX7_isStill : MethodName := ⟨RX7, "isStill", "()Z"⟩
abbrev cX7_still : ByteArray := prog_9_method_51_code
def yX7_still : MethodName := ⟨RX7, "still", "()I"⟩
abbrev cX7_meet : ByteArray := prog_9_method_52_code
def yX7_meet : MethodName := ⟨RX7, "meet", "(II)I"⟩
abbrev cX7_apart : ByteArray := prog_9_method_53_code
def yX7_apart : MethodName := ⟨RX7, "apart", "(II)I"⟩
abbrev cX7_far : ByteArray := prog_9_method_54_code
def yX7_far : MethodName := ⟨RX7, "far", "(III)I"⟩
abbrev cX7_whom : ByteArray := prog_9_method_55_code
def yX7_whom : MethodName := ⟨RX7, "whom", "(I)I"⟩
abbrev cX7_isAlone : ByteArray := prog_9_method_56_code
def yX7_isAlone : MethodName := ⟨RX7, "isAlone", "(I)Z"⟩
abbrev cX7_alone : ByteArray := prog_9_method_57_code
def yX7_alone : MethodName := ⟨RX7, "alone", "(III)I"⟩
abbrev cX7_stop : ByteArray := prog_9_method_58_code
def yX7_stop : MethodName := ⟨RX7, "stop", "()I"⟩
abbrev cX7_begins : ByteArray := prog_9_method_59_code
def yX7_begins : MethodName := ⟨RX7, "begins", "(III)I"⟩
abbrev cX7_counts : ByteArray := prog_9_method_60_code
def yX7_counts : MethodName := ⟨RX7, "counts", "()V"⟩
abbrev cX7_crowd : ByteArray := prog_9_method_61_code
def yX7_crowd : MethodName := ⟨RX7, "crowd", "(I)I"⟩
abbrev cX7_see : ByteArray := prog_9_method_62_code
def yX7_see : MethodName := ⟨RX7, "see", "(III)I"⟩
abbrev cX7_isSeen : ByteArray := prog_9_method_63_code
def yX7_isSeen : MethodName := ⟨RX7, "isSeen", "()Z"⟩
abbrev cX7_can : ByteArray := prog_9_method_64_code
def yX7_can : MethodName := ⟨RX7, "can", "(I)I"⟩
abbrev cX7_divisor : ByteArray := prog_9_method_65_code
def yX7_divisor : MethodName := ⟨RX7, "divisor", "(II)I"⟩
abbrev cX7_lowest : ByteArray := prog_9_method_66_code
def yX7_lowest : MethodName := ⟨RX7, "lowest", "(III)J"⟩
abbrev cX7_odds : ByteArray := prog_9_method_67_code
def yX7_odds : MethodName := ⟨RX7, "odds", "(II)J"⟩
abbrev cX7_mean : ByteArray := prog_9_method_68_code
def yX7_mean : MethodName := ⟨RX7, "mean", "(II)J"⟩
abbrev cX7_dance : ByteArray := prog_9_method_69_code
def yX7_dance : MethodName := ⟨RX7, "dance", "(I)I"⟩
abbrev cX7_danced : ByteArray := prog_9_method_70_code
def yX7_danced : MethodName := ⟨RX7, "danced", "(I)I"⟩
abbrev cX7_book : ByteArray := prog_9_method_71_code
def yX7_book : MethodName := ⟨RX7, "book", "(II)I"⟩
abbrev cX7_looked : ByteArray := prog_9_method_72_code
def yX7_looked : MethodName := ⟨RX7, "looked", "()I"⟩
abbrev cX7_judge : ByteArray := prog_9_method_73_code
def yX7_judge : MethodName := ⟨RX7, "judge", "(II)I"⟩
abbrev cX7_image : ByteArray := prog_9_method_74_code
def yX7_image : MethodName := ⟨RX7, "image", "()I"⟩
abbrev cX7_undo : ByteArray := prog_9_method_75_code
def yX7_undo : MethodName := ⟨RX7, "undo", "()I"⟩
abbrev cX7_body : ByteArray := prog_9_method_76_code
def yX7_body : MethodName := ⟨RX7, "body", "(I)V"⟩
abbrev cX7_dancerSteps : ByteArray := prog_9_method_77_code
def yX7_dancerSteps : MethodName := ⟨RX7, "dancerSteps", "(II)I"⟩
abbrev cX7_stepsAct : ByteArray := prog_9_method_78_code
def yX7_stepsAct : MethodName := ⟨RX7, "stepsAct", "(II)I"⟩
abbrev cX7_dancerTurns : ByteArray := prog_9_method_79_code
def yX7_dancerTurns : MethodName := ⟨RX7, "dancerTurns", "(II)I"⟩
abbrev cX7_lateTurns : ByteArray := prog_9_method_80_code
def yX7_lateTurns : MethodName := ⟨RX7, "lateTurns", "(II)I"⟩
abbrev cX7_turnsAct : ByteArray := prog_9_method_81_code
def yX7_turnsAct : MethodName := ⟨RX7, "turnsAct", "(II)I"⟩
abbrev cX7_dancerTells : ByteArray := prog_9_method_82_code
def yX7_dancerTells : MethodName := ⟨RX7, "dancerTells", "(II)I"⟩
abbrev cX7_tellsAct : ByteArray := prog_9_method_83_code
def yX7_tellsAct : MethodName := ⟨RX7, "tellsAct", "(II)I"⟩
abbrev cX7_act : ByteArray := prog_9_method_84_code
def yX7_act : MethodName := ⟨RX7, "act", "(III)I"⟩
abbrev cX7_trace : ByteArray := prog_9_method_85_code
def yX7_trace : MethodName := ⟨RX7, "trace", "(I)I"⟩
abbrev cX7_taken : ByteArray := prog_9_method_86_code
def yX7_taken : MethodName := ⟨RX7, "taken", "(II)I"⟩
abbrev cX7_count : ByteArray := prog_9_method_87_code
def yX7_count : MethodName := ⟨RX7, "count", "(I)I"⟩
abbrev cX7_isTape : ByteArray := prog_9_method_88_code
def yX7_isTape : MethodName := ⟨RX7, "isTape", "(I)Z"⟩
abbrev cX7_tape : ByteArray := prog_9_method_89_code
def yX7_tape : MethodName := ⟨RX7, "tape", "(III)I"⟩
abbrev cX7_narrow : ByteArray := prog_9_method_90_code
def yX7_narrow : MethodName := ⟨RX7, "narrow", "(IJ)J"⟩
abbrev cX7_item : ByteArray := prog_9_method_91_code
def yX7_item : MethodName := ⟨RX7, "item", "(IIJ)I"⟩
abbrev cX7_read : ByteArray := prog_9_method_92_code
def yX7_read : MethodName := ⟨RX7, "read", "(II)J"⟩
abbrev cX7_shift : ByteArray := prog_9_method_93_code
def yX7_shift : MethodName := ⟨RX7, "shift", "(IIIII)I"⟩
def RJx145de : String := "java/io/Serializable"
def RJx9f9b0 : String := "java/lang/CharSequence"
def RJ11 : String := "java/lang/Character"
abbrev cJ11_isValidCodePoint_9a6ad : ByteArray := prog_10_method_11_code
def yJ11_isValidCodePoint_9a6ad : MethodName := ⟨RJ11, "isValidCodePoint", "(I)Z"⟩
abbrev cJ11_highSurrogate_5068e : ByteArray := prog_10_method_28_code
def yJ11_highSurrogate_5068e : MethodName := ⟨RJ11, "highSurrogate", "(I)C"⟩
abbrev cJ11_lowSurrogate_5068e : ByteArray := prog_10_method_29_code
def yJ11_lowSurrogate_5068e : MethodName := ⟨RJ11, "lowSurrogate", "(I)C"⟩
def RJxb160c : String := "java/lang/Comparable"
def RJ9 : String := "java/lang/Math"
abbrev cJ9_floorMod_7cf53 : ByteArray := prog_11_method_50_code
def yJ9_floorMod_7cf53 : MethodName := ⟨RJ9, "floorMod", "(II)I"⟩
abbrev cJ9_max_7cf53 : ByteArray := prog_11_method_65_code
def yJ9_max_7cf53 : MethodName := ⟨RJ9, "max", "(II)I"⟩
abbrev cJ9_min_7cf53 : ByteArray := prog_11_method_69_code
def yJ9_min_7cf53 : MethodName := ⟨RJ9, "min", "(II)I"⟩
def RJ0 : String := "java/lang/String"
abbrev cJ0_length_8abf5 : ByteArray := prog_12_method_54_code
def yJ0_length_8abf5 : MethodName := ⟨RJ0, "length", "()I"⟩
abbrev cJ0_charAt_5068e : ByteArray := prog_12_method_56_code
def yJ0_charAt_5068e : MethodName := ⟨RJ0, "charAt", "(I)C"⟩
abbrev cJ0_indexOf_0f7a4 : ByteArray := prog_12_method_79_code
def yJ0_indexOf_0f7a4 : MethodName := ⟨RJ0, "indexOf", "(I)I"⟩
abbrev cJ0_indexOf_7cf53 : ByteArray := prog_12_method_80_code
def yJ0_indexOf_7cf53 : MethodName := ⟨RJ0, "indexOf", "(II)I"⟩
abbrev cJ0_coder_7d493 : ByteArray := prog_12_method_152_code
def yJ0_coder_7d493 : MethodName := ⟨RJ0, "coder", "()B"⟩
abbrev cJ0_isLatin1_aae02 : ByteArray := prog_12_method_154_code
def yJ0_isLatin1_aae02 : MethodName := ⟨RJ0, "isLatin1", "()Z"⟩
abbrev cJ0_checkIndex_df160 : ByteArray := prog_12_method_155_code
def yJ0_checkIndex_df160 : MethodName := ⟨RJ0, "checkIndex", "(II)V"⟩
abbrev cJ0_checkBoundsBeginEnd_23922 : ByteArray := prog_12_method_158_code
def yJ0_checkBoundsBeginEnd_23922 : MethodName := ⟨RJ0, "checkBoundsBeginEnd", "(III)V"⟩
def RJ1 : String := "java/lang/StringLatin1"
abbrev cJ1_charAt_3b067 : ByteArray := prog_13_method_2_code
def yJ1_charAt_3b067 : MethodName := ⟨RJ1, "charAt", "([BI)C"⟩
abbrev cJ1_canEncode_9a6ad : ByteArray := prog_13_method_4_code
def yJ1_canEncode_9a6ad : MethodName := ⟨RJ1, "canEncode", "(I)Z"⟩
abbrev cJ1_indexOf_4cfef : ByteArray := prog_13_method_22_code
def yJ1_indexOf_4cfef : MethodName := ⟨RJ1, "indexOf", "([BIII)I"⟩
abbrev cJ1_indexOfChar_4cfef : ByteArray := prog_13_method_23_code
def yJ1_indexOfChar_4cfef : MethodName := ⟨RJ1, "indexOfChar", "([BIII)I"⟩
def RJ2 : String := "java/lang/StringUTF16"
abbrev cJ2_getChar_3b067 : ByteArray := prog_14_method_5_code
def yJ2_getChar_3b067 : MethodName := ⟨RJ2, "getChar", "([BI)C"⟩
abbrev cJ2_length_9d52b : ByteArray := prog_14_method_6_code
def yJ2_length_9d52b : MethodName := ⟨RJ2, "length", "([B)I"⟩
abbrev cJ2_indexOf_4cfef : ByteArray := prog_14_method_40_code
def yJ2_indexOf_4cfef : MethodName := ⟨RJ2, "indexOf", "([BIII)I"⟩
abbrev cJ2_indexOfChar_4cfef : ByteArray := prog_14_method_47_code
def yJ2_indexOfChar_4cfef : MethodName := ⟨RJ2, "indexOfChar", "([BIII)I"⟩
abbrev cJ2_indexOfCharUnsafe_4cfef : ByteArray := prog_14_method_48_code
def yJ2_indexOfCharUnsafe_4cfef : MethodName := ⟨RJ2, "indexOfCharUnsafe", "([BIII)I"⟩
abbrev cJ2_indexOfSupplementary_4cfef : ByteArray := prog_14_method_49_code
def yJ2_indexOfSupplementary_4cfef : MethodName := ⟨RJ2, "indexOfSupplementary", "([BIII)I"⟩
abbrev cJ2_charAt_3b067 : ByteArray := prog_14_method_83_code
def yJ2_charAt_3b067 : MethodName := ⟨RJ2, "charAt", "([BI)C"⟩
abbrev cJ2_checkIndex_2214a : ByteArray := prog_14_method_91_code
def yJ2_checkIndex_2214a : MethodName := ⟨RJ2, "checkIndex", "(I[B)V"⟩
abbrev cJ2_checkBoundsBeginEnd_d044e : ByteArray := prog_14_method_93_code
def yJ2_checkBoundsBeginEnd_d044e : MethodName := ⟨RJ2, "checkBoundsBeginEnd", "(II[B)V"⟩
def RJ10 : String := "java/lang/System"
def RJxfd54e : String := "java/lang/constant/Constable"
def RJx3cf43 : String := "java/lang/constant/ConstantDesc"
def RJ7 : String := "java/util/Arrays"
abbrev cJ7_fill_d0a16 : ByteArray := prog_16_method_101_code
def yJ7_fill_d0a16 : MethodName := ⟨RJ7, "fill", "([JJ)V"⟩
abbrev cJ7_fill_53178 : ByteArray := prog_16_method_103_code
def yJ7_fill_53178 : MethodName := ⟨RJ7, "fill", "([II)V"⟩
def RJ3 : String := "jdk/internal/util/Preconditions"
abbrev cJ3_checkIndex_8e157 : ByteArray := prog_17_method_11_code
def yJ3_checkIndex_8e157 : MethodName := ⟨RJ3, "checkIndex", "(IILjava/util/function/BiFunction;)I"⟩
abbrev cJ3_checkFromToIndex_8c36e : ByteArray := prog_17_method_12_code
def yJ3_checkFromToIndex_8c36e : MethodName := ⟨RJ3, "checkFromToIndex", "(IIILjava/util/function/BiFunction;)I"⟩
def RL : String := "TwoBeatsAgoLaw"
abbrev cL_law : ByteArray := code
def yL_law : MethodName := ⟨RL, "law", "([I)Z"⟩
abbrev qcl : List vw_C := [(RX0, TX0, 5), (RX1, TX1, 9), (RX2, TX2, 9), (RX3, TX3, 7), (RX4, TX4, 3), (RX5, TX5, 3), (RX6, TX6, 12), (RX7, TX7, 64)]
end
section
/-! abstract values (an int, a place, a long), memory: a row of whole numbers a place; the shape of each place is fixed -/
abbrev AV : Type := Int ⊕ (Nat ⊕ Int)
abbrev vi (z : Int) : AV := .inl z
abbrev vr (k : Nat) : AV := .inr (.inl k)
abbrev vl (z : Int) : AV := .inr (.inr z)
abbrev MM : Type := Nat → Int → Int
abbrev GC : Type := Launch × va_G × (Nat → Nat) × (Nat → Prop) × (Nat → ClassId)
def cv (g : GC) : AV → Value
  | .inl z => .int (Int32.ofInt z)
  | .inr (.inl k) => .ref (g.2.2.1 k)
  | .inr (.inr z) => .long (Int64.ofInt z)
abbrev Sh : Type := (Nat × List (Nat × Nat)) ⊕ (Nat × Nat)
def shT : List Sh := [
  .inl (6, [(1, 8), (1, 15), (1, 22), (1, 29), (1, 36), (0, 0), (1, 1), (0, 0), (1, 4), (1, 6), (1, 2), (1, 3)]),
  .inr (4, 6),
  .inr (5, 6),
  .inr (0, 99),
  .inl (4, [(1, 5), (0, 0), (0, 0)]),
  .inr (3, 100),
  .inl (0, [(0, 0), (1, 7), (0, 0), (0, 0), (0, 0)]),
  .inr (0, 20),
  .inl (2, [(0, 0), (0, 0), (2, 0), (1, 9), (1, 10), (1, 11), (1, 12), (1, 13), (1, 14)]),
  .inr (0, 6),
  .inr (0, 6),
  .inr (0, 6),
  .inr (0, 48),
  .inr (0, 24),
  .inr (0, 6),
  .inl (2, [(0, 0), (0, 0), (2, 0), (1, 16), (1, 17), (1, 18), (1, 19), (1, 20), (1, 21)]),
  .inr (0, 6),
  .inr (0, 6),
  .inr (0, 6),
  .inr (0, 48),
  .inr (0, 24),
  .inr (0, 6),
  .inl (2, [(0, 0), (0, 0), (2, 0), (1, 23), (1, 24), (1, 25), (1, 26), (1, 27), (1, 28)]),
  .inr (0, 6),
  .inr (0, 6),
  .inr (0, 6),
  .inr (0, 48),
  .inr (0, 24),
  .inr (0, 6),
  .inl (1, [(0, 0), (1, 30), (1, 31), (1, 32), (0, 0), (1, 33), (0, 0), (1, 34), (1, 35)]),
  .inr (0, 5),
  .inr (0, 5),
  .inr (0, 5),
  .inr (0, 10),
  .inr (0, 8),
  .inr (0, 8),
  .inl (1, [(0, 0), (1, 37), (1, 38), (1, 39), (0, 0), (1, 40), (0, 0), (1, 41), (1, 42)]),
  .inr (0, 5),
  .inr (0, 5),
  .inr (0, 5),
  .inr (0, 10),
  .inr (0, 8),
  .inr (0, 8),
  .inl (3, [(0, 0), (0, 0), (0, 0), (0, 0), (1, 44), (1, 45), (1, 46)]),
  .inr (0, 10),
  .inr (0, 10),
  .inr (0, 100),
  .inl (3, [(0, 0), (0, 0), (0, 0), (0, 0), (1, 48), (1, 49), (1, 50)]),
  .inr (0, 10),
  .inr (0, 10),
  .inr (0, 100),
  .inl (3, [(0, 0), (0, 0), (0, 0), (0, 0), (1, 52), (1, 53), (1, 54)]),
  .inr (0, 10),
  .inr (0, 10),
  .inr (0, 100),
  .inl (3, [(0, 0), (0, 0), (0, 0), (0, 0), (1, 56), (1, 57), (1, 58)]),
  .inr (0, 10),
  .inr (0, 10),
  .inr (0, 100),
  .inl (3, [(0, 0), (0, 0), (0, 0), (0, 0), (1, 60), (1, 61), (1, 62)]),
  .inr (0, 10),
  .inr (0, 10),
  .inr (0, 100),
  .inl (3, [(0, 0), (0, 0), (0, 0), (0, 0), (1, 64), (1, 65), (1, 66)]),
  .inr (0, 10),
  .inr (0, 10),
  .inr (0, 100),
  .inl (3, [(0, 0), (0, 0), (0, 0), (0, 0), (1, 68), (1, 69), (1, 70)]),
  .inr (0, 10),
  .inr (0, 10),
  .inr (0, 100),
  .inl (5, [(0, 0), (0, 0), (1, 72)]),
  .inr (1, 60),
  .inl (5, [(0, 0), (0, 0), (1, 74)]),
  .inr (1, 60),
  .inl (5, [(0, 0), (0, 0), (1, 76)]),
  .inr (1, 60),
  .inl (5, [(0, 0), (0, 0), (1, 78)]),
  .inr (1, 60),
  .inl (5, [(0, 0), (0, 0), (1, 80)]),
  .inr (1, 60),
  .inl (5, [(0, 0), (0, 0), (1, 82)]),
  .inr (1, 60),
  .inl (7, [(0, 0), (0, 0), (1, 84), (1, 85), (1, 86), (1, 87), (1, 88), (0, 0), (0, 0), (0, 0), (0, 0), (0, 0), (1, 89), (1, 90), (1, 91), (1, 92), (1, 93), (1, 94), (1, 95), (1, 96), (0, 0), (0, 0), (0, 0), (1, 97), (1, 98), (1, 99), (1, 100), (0, 0), (1, 101), (1, 102), (1, 103), (0, 0), (1, 104), (1, 105), (1, 106), (0, 0), (0, 0), (1, 107), (1, 108), (1, 109), (0, 0), (0, 0), (0, 0), (0, 0), (0, 0), (0, 0), (0, 0), (1, 110), (1, 111), (1, 112), (1, 113), (1, 114), (1, 115), (1, 116), (1, 117), (1, 118), (1, 119), (1, 120), (0, 0), (1, 121), (1, 122), (1, 123), (1, 124), (1, 125)]),
  .inr (0, 6),
  .inr (0, 6),
  .inr (0, 6),
  .inr (0, 24),
  .inr (0, 48),
  .inr (0, 100),
  .inr (0, 6),
  .inr (0, 60),
  .inr (0, 60),
  .inr (0, 60),
  .inr (0, 60),
  .inr (0, 600),
  .inr (0, 101),
  .inr (0, 17),
  .inr (2, 100),
  .inr (2, 99),
  .inr (0, 6),
  .inr (0, 48),
  .inr (0, 6),
  .inr (0, 99),
  .inr (0, 5),
  .inr (0, 5),
  .inr (0, 5),
  .inr (0, 10),
  .inr (0, 8),
  .inr (0, 8),
  .inr (0, 6),
  .inr (0, 6),
  .inr (0, 6),
  .inr (0, 24),
  .inr (0, 48),
  .inr (0, 5),
  .inr (0, 5),
  .inr (0, 5),
  .inr (0, 10),
  .inr (0, 8),
  .inr (0, 8),
  .inr (0, 20),
  .inr (0, 6),
  .inr (0, 6),
  .inr (1, 360),
  .inr (1, 60)]
def qN : Nat := 126
def sh (k : Nat) : Sh := shT.getD k (.inl (0, []))
def fval (g : GC) (q : Nat × Nat) (x : Int) : Value := match q.1 with
  | 0 => .int (Int32.ofInt x)
  | 1 => .ref (g.2.2.1 q.2)
  | _ => .ref (g.2.2.1 x.toNat)
def cont (g : GC) (tag : Nat) (row : Int → Int) : (Nat → Int32) ⊕ (Nat → Int64) ⊕ (Nat → UInt32) ⊕ (Nat → UInt64) ⊕ (Nat → Option Nat) := match tag with
  | 1 => .inr (.inl (fun j => Int64.ofInt (row j)))
  | 4 => .inr (.inr (.inr (.inr (fun j => some (g.2.2.1 (47 + 4 * j))))))
  | 5 => .inr (.inr (.inr (.inr (fun j => some (g.2.2.1 (71 + 2 * j))))))
  | _ => .inl (fun j => Int32.ofInt (row j))
def entS (g : GC) (x : Sh) (row : Int → Int) : va_E := match x with
  | .inl o => .inr (o.1, o.2.mapIdx (fun j q => fval g q (row (j : Int))))
  | .inr a => .inl (g.2.2.2.2 a.1, a.2, cont g a.1 row)
def ent (g : GC) (V : MM) (k : Nat) : va_E := entS g (sh k) (V k)
def wl (g : GC) (V : MM) : va_W := (List.range qN).map (fun k => (g.2.2.1 k, ent g V k))
def upR (V : MM) (a : Nat) (f : Int → Int) : MM := fun k => if k = a then f else V k
def ur (f : Int → Int) (i x : Int) : Int → Int := fun j => if j = i then x else f j
theorem upR_s (V : MM) (a : Nat) (f : Int → Int) : upR V a f a = f := by simp [upR]
theorem upR_n {V : MM} {a k : Nat} (f : Int → Int) (h : k ≠ a) : upR V a f k = V k := by simp [upR, h]
theorem upR_u (V : MM) (a : Nat) (f h : Int → Int) : upR (upR V a f) a h = upR V a h := by
  funext k; by_cases e : k = a <;> simp [upR, e]
theorem upR_id (V : MM) (a : Nat) : upR V a (V a) = V := by
  funext k; by_cases e : k = a <;> simp [upR, e]
theorem upR_c {V : MM} {a b : Nat} (f h : Int → Int) (e : a ≠ b) : upR (upR V a f) b h = upR (upR V b h) a f := by
  funext k
  by_cases e1 : k = a <;> by_cases e2 : k = b <;> simp [upR, e1, e2]
  · exact absurd (e1.symm.trans e2) e
  · intro h3; exact absurd h3 e
  · intro h3; exact absurd h3.symm e
theorem ur_s (f : Int → Int) (i x : Int) : ur f i x i = x := by simp [ur]
theorem ur_n {f : Int → Int} {i j : Int} (x : Int) (h : j ≠ i) : ur f i x j = f j := by simp [ur, h]
theorem ur_u (f : Int → Int) (i x y : Int) : ur (ur f i x) i y = ur f i y := by
  funext j; by_cases e : j = i <;> simp [ur, e]
theorem ur_id (f : Int → Int) (i : Int) : ur f i (f i) = f := by
  funext j; by_cases e : j = i <;> simp [ur, e]
def GOK (g : GC) : Prop := (∀ i j : Nat, i < qN → j < qN → g.2.2.1 i = g.2.2.1 j → i = j) ∧ ∀ i : Nat, i < qN → g.2.2.2.1 (g.2.2.1 i)
theorem wl_at (g : GC) (V : MM) {k : Nat} (h : k < qN) : (wl g V)[k]? = some (g.2.2.1 k, ent g V k) := by simp [wl, h]
theorem wl_in {g : GC} {V : MM} {k : Nat} {q : Nat × va_E} (h : (wl g V)[k]? = some q) : k < qN ∧ q = (g.2.2.1 k, ent g V k) := by
  have hk : k < qN := by
    have := (List.getElem?_eq_some_iff.mp h).1
    simpa [wl] using this
  rw [wl_at g V hk] at h
  exact ⟨hk, (Option.some.inj h).symm⟩
theorem wl_set (g : GC) (V : MM) {k : Nat} (h : k < qN) (f : Int → Int) : (wl g V).set k (g.2.2.1 k, entS g (sh k) f) = wl g (upR V k f) := by
  apply List.ext_getElem?
  intro i
  by_cases hi : i < qN
  · rw [List.getElem?_set, wl_at g _ hi]
    by_cases e : k = i
    · subst e
      simp [wl, h, ent, upR]
    · rw [if_neg e, wl_at g (upR V k f) hi]
      simp [ent, upR, Ne.symm e]
  · have h1 : (wl g V).length = qN := by simp [wl]
    have h2 : (wl g (upR V k f)).length = qN := by simp [wl]
    rw [List.getElem?_eq_none (by rw [List.length_set, h1]; omega), List.getElem?_eq_none (by rw [h2]; omega)]
theorem wl_D {g : GC} (hg : GOK g) (V : MM) : va_D g.2.2.2.1 (wl g V) := by
  refine ⟨fun i j p q hp hq e => ?_, fun k q hk => ?_⟩
  · obtain ⟨h1, rfl⟩ := wl_in hp
    obtain ⟨h2, rfl⟩ := wl_in hq
    exact hg.1 i j h1 h2 e
  · obtain ⟨h1, rfl⟩ := wl_in hk
    exact hg.2 k h1
/-- the tables' words that every method takes along -/
def Gs : List Cond := lw_tbl.filter goodWord
theorem Gs_of {w : Cond} (h : w ∈ tables_1) (h2 : goodWord w = true) : w ∈ Gs := List.mem_filter.mpr ⟨List.mem_append_right _ h, h2⟩
theorem Gs_in {i : Nat} {w : Cond} (h : tables_1[i]? = some w) (h2 : goodWord w = true) : w ∈ Gs := Gs_of (List.mem_of_getElem? h) h2
def isNest : Cond → Bool
  | .methodLinkNest .. => true
  | .fieldLinkNest .. => true
  | _ => false
/-- links between nest mates -/
def Ns : List Cond := tables_1.filter isNest
theorem Ns_of {w : Cond} (h : w ∈ tables_1) (h2 : isNest w = true) : w ∈ Ns := List.mem_filter.mpr ⟨h, h2⟩
theorem tb_1 {i : Nat} {w : Cond} (h : tables_1_1[i]? = some w) : w ∈ tables_1 := List.mem_append_left _ (List.mem_of_getElem? h)
theorem tb_2 {i : Nat} {w : Cond} (h : tables_1_2[i]? = some w) : w ∈ tables_1 := List.mem_append_right _ (List.mem_append_left _ (List.mem_of_getElem? h))
theorem tb_3 {i : Nat} {w : Cond} (h : tables_1_3[i]? = some w) : w ∈ tables_1 := List.mem_append_right _ (List.mem_append_right _ (List.mem_append_left _ (List.mem_of_getElem? h)))
theorem tb_4 {i : Nat} {w : Cond} (h : tables_1_4[i]? = some w) : w ∈ tables_1 := List.mem_append_right _ (List.mem_append_right _ (List.mem_append_right _ (List.mem_append_left _ (List.mem_of_getElem? h))))
theorem tb_5 {i : Nat} {w : Cond} (h : tables_1_5[i]? = some w) : w ∈ tables_1 := List.mem_append_right _ (List.mem_append_right _ (List.mem_append_right _ (List.mem_append_right _ (List.mem_append_left _ (List.mem_of_getElem? h)))))
theorem tb_6 {i : Nat} {w : Cond} (h : tables_1_6[i]? = some w) : w ∈ tables_1 := List.mem_append_right _ (List.mem_append_right _ (List.mem_append_right _ (List.mem_append_right _ (List.mem_append_right _ (List.mem_of_getElem? h)))))
theorem Gs_sel {i : Nat} {q : MethodName × Nat} (h : lw_privs[i]? = some q) (h2 : goodWord (Cond.selects q.1.cls q.1 q.1) = true) : Cond.selects q.1.cls q.1 q.1 ∈ Gs := List.mem_filter.mpr ⟨List.mem_append_left _ (List.mem_map.mpr ⟨q, List.mem_of_getElem? h, rfl⟩), h2⟩
theorem Gs_good : GoodIn Gs Gs := fun w h => ⟨h, good_of_word (List.mem_filter.mp h).2⟩
abbrev qtys (g : GC) : List (ClassId × FieldType) := [(g.2.2.2.2 0, .int), (g.2.2.2.2 1, .long), (g.2.2.2.2 2, .boolean), (g.2.2.2.2 3, .char), (g.2.2.2.2 4, .object "TwoBeatsAgo$Hall"), (g.2.2.2.2 5, .object "TwoBeatsAgo$Tape")]
/-- what nobody writes: the literals (places 200.., their bytes 210..), two tables (220, 221), statics of the JDK -/
def roLen : List Nat := [5, 6, 5, 5, 6, 3]
def roByt : List (List Int32) := [[108, 101, 102, 116, 32], [114, 105, 103, 104, 116, 32], [119, 105, 100, 101, 32], [115, 107, 105, 112, 32], [100, 107, 118, 112, 97, 98], [60, 61, 62]]
def roAbove : List Int32 := [-1, 0, 0, 0, 1, 2, 3]
def roBodies : List Int32 := [10, 11, 12, 0, 20, 0, 30, 0, 0, 0, 0, 40, 50, 51, 0, 0, 0, 60, 71, 70, 0]
def Ro (g : GC) (U : State) (H : Heap) : Prop :=
  (vk_S 6 roLen roByt (fun i => g.2.2.1 (200 + i)) (fun i => g.2.2.1 (210 + i)) g.2.2.2.1 U H ∧ va_Z "java/lang/String" "COMPACT_STRINGS" "Z" (.int 1) g.2.2.2.1 U H ∧ va_Zq "jdk/internal/util/Preconditions" "SIOOBE_FORMATTER" "Ljava/util/function/BiFunction;" g.2.2.2.1 U H) ∧
  (va_Z "TwoBeatsAgo" "KIND_ABOVE" "[I" (.ref (g.2.2.1 220)) g.2.2.2.1 U H ∧ va_T .int (g.2.2.1 220) 7 (fun j => .int (roAbove.getD j 0)) g.2.2.2.1 U H) ∧
  (va_Z "TwoBeatsAgo$Acts" "BODIES" "[I" (.ref (g.2.2.1 221)) g.2.2.2.1 U H ∧ va_T .int (g.2.2.1 221) 21 (fun j => .int (roBodies.getD j 0)) g.2.2.2.1 U H)
def roStr (g : GC) (U : State) : Prop := vk_R "TwoBeatsAgo$HallText" 65 "left " (g.2.2.1 200) U ∧ vk_R "TwoBeatsAgo$HallText" 67 "right " (g.2.2.1 201) U ∧ vk_R "TwoBeatsAgo$HallText" 69 "wide " (g.2.2.1 202) U ∧ vk_R "TwoBeatsAgo$HallText" 71 "skip " (g.2.2.1 203) U ∧ vk_R "TwoBeatsAgo$HallText" 85 "dkvpab" (g.2.2.1 204) U ∧ vk_R "TwoBeatsAgo$HallText" 93 "<=>" (g.2.2.1 205) U
theorem Ro.moved {g : GC} {u U : State} {H : Heap} (hvm : u.vm.Alike U.vm) (h : Ro g u H) : Ro g U H :=
  ⟨⟨vk_S.moved hvm h.1.1, va_Z.moved hvm h.1.2.1, va_Zq.moved hvm h.1.2.2⟩, ⟨va_Z.moved hvm h.2.1.1, va_T.moved hvm h.2.1.2⟩, ⟨va_Z.moved hvm h.2.2.1, va_T.moved hvm h.2.2.2⟩⟩
theorem Ro.kept {g : GC} {U : State} {H H1 : Heap} (h : Ro g U H) (hq : ∀ a : Nat, a < H.size → ¬ g.2.2.2.1 a → H1[a]? = H[a]?) : Ro g U H1 :=
  ⟨⟨h.1.1.kept hq, h.1.2.1.kept hq, h.1.2.2.kept hq⟩, ⟨h.2.1.1.kept hq, h.2.1.2.kept hq⟩, ⟨h.2.2.1.kept hq, h.2.2.2.kept hq⟩⟩
def roRef (g : GC) (U : State) : Prop := roStr g U ∧ ∀ w ∈ Ns, va_Nw w U
theorem Nw_warm {w : Cond} (hw : isNest w = true) {s U : State} (hW : s.WarmedH U.vm) (h : va_Nw w s) : va_Nw w U := by
  cases w <;> first | (cases hw; done) | exact va_Nw.warmF hW h | exact va_Nw.warmM hW h
theorem Nw_same {w : Cond} (hw : isNest w = true) {u U : State} (hv : U.vm = u.vm) (h : va_Nw w u) : va_Nw w U := by
  cases w <;> first | (cases hw; done) | exact va_Nw.same rfl hv.symm h
theorem roStr.warm {g : GC} {s U : State} (hW : s.WarmedH U.vm) (h : roStr g s) : roStr g U :=
  ⟨h.1.warm hW, h.2.1.warm hW, h.2.2.1.warm hW, h.2.2.2.1.warm hW, h.2.2.2.2.1.warm hW, h.2.2.2.2.2.warm hW⟩
theorem roRef.warm {g : GC} {s U : State} (hW : s.WarmedH U.vm) (h : roRef g s) : roRef g U := ⟨h.1.warm hW, fun w hw => Nw_warm (List.mem_filter.mp hw).2 hW (h.2 w hw)⟩
theorem roStr.same {g : GC} {u U : State} (hv : U.vm = u.vm) (h : roStr g u) : roStr g U :=
  ⟨h.1.same hv, h.2.1.same hv, h.2.2.1.same hv, h.2.2.2.1.same hv, h.2.2.2.2.1.same hv, h.2.2.2.2.2.same hv⟩
theorem roRef.same {g : GC} {u U : State} (hv : U.vm = u.vm) (h : roRef g u) : roRef g U := ⟨h.1.same hv, fun w hw => Nw_same (List.mem_filter.mp hw).2 hv (h.2 w hw)⟩
/-- all that is known of a state beside the memory -/
def Wd (g : GC) (U : State) (H : Heap) : Prop := GOK g ∧ va_K g.2.1 qcl (qtys g) U ∧ Ro g U H ∧ roRef g U
/-- one activation: program, environment, room, start; its arguments, frames below, code; locals' words, room used, what is to be reached -/
abbrev CX : Type := (Program × Env × Room × State × MethodId) × (Array Value × List Frame × Method × Code) × (Nat × Nat × Nat × (State → Prop))
def CxOK (g : GC) (X : CX) (own : String) (cc : ByteArray) : Prop := match X with
  | ((p, _, R, s, m), (args, _, _, c), (nL, cells, slots, _)) => p.tables.exec = Jvm.exec ∧ c.code = cc ∧ c.maxLocals = nL ∧ s.vm.findClass own = some m.cls ∧ (∀ w ∈ Gs, w.before args s = true) ∧ Wd g s s.heap ∧ cells ≤ R.cells ∧ slots ≤ R.slots
def lok (g : GC) (lsA : Array Slot) (nL : Nat) (ls : List (Option AV)) : Prop := lsA.size = nL ∧ lv_wf lsA ∧ (∀ (i : Nat) (v : AV), ls[i]? = some (some v) → lsA[i]? = some (.val (cv g v))) ∧ ls.length ≤ nL
def SW (g : GC) (X : CX) (own : String) (cc : ByteArray) (pc : Nat) (ls : List (Option AV)) (st : List AV) (V : MM) : Prop := CxOK g X own cc → match X with
  | ((p, e, R, s, m), (args, below, meth, c), (nL, cells, slots, Z)) => ∀ (H : Heap) (locs : List Loc) (lsA : Array Slot), va_P g.2.1 qcl (wl g V) H → va_S g.2.2.2.1 s.heap H locs → lok g lsA nL ls → W p g.1 e R s m args below meth c H locs cells slots Z (F0 m pc lsA (st.map (cv g)))
/-- an instruction at a place, and the place behind it -/
def DI (cc : ByteArray) (pc : Nat) (i : Instr) (n nx : Nat) : Prop := decode cc pc = .ok (i, n) ∧ nx = pc + n
def DJ (cc : ByteArray) (pc : Nat) (f : Int → Instr) (tgt nx : Nat) : Prop := ∃ off, decode cc pc = .ok (f off, 3) ∧ (pc : Int) + off = (tgt : Int) ∧ nx = pc + 3
theorem lok_sub {g : GC} {lsA : Array Slot} {nL : Nat} {ls ls' : List (Option AV)} (h : lok g lsA nL ls) (h2 : ∀ (i : Nat) (v : AV), ls'[i]? = some (some v) → ls[i]? = some (some v)) (h3 : ls'.length ≤ ls.length) : lok g lsA nL ls' := ⟨h.1, h.2.1, fun i v q => h.2.2.1 i v (h2 i v q), Nat.le_trans h3 h.2.2.2⟩
/-- not a long -/
def nl : Option (Option AV) → Prop
  | some (some (.inr (.inr _))) => False
  | _ => True
theorem cv_cat1 {g : GC} {v : AV} (h : nl (some (some v))) : (cv g v).category = 1 := by
  match v, h with
  | .inl z, _ => rfl
  | .inr (.inl k), _ => rfl
end
section
section RU
variable {g : GC} {X : CX} {own : String} {cc : ByteArray} {pc nx tgt : Nat} {ls : List (Option AV)} {st : List AV} {V : MM}
theorem io_add (a b : Int) : Int32.ofInt a + Int32.ofInt b = Int32.ofInt (a + b) := (Int32.ofInt_add a b).symm
theorem io_sub (a b : Int) : Int32.ofInt a - Int32.ofInt b = Int32.ofInt (a - b) := (Int32.ofInt_sub a b).symm
theorem io_mul (a b : Int) : Int32.ofInt a * Int32.ofInt b = Int32.ofInt (a * b) := (Int32.ofInt_mul a b).symm
theorem io_neg (a : Int) : - Int32.ofInt a = Int32.ofInt (-a) := (Int32.ofInt_neg a).symm
theorem io_toInt {a : Int} (h : -2147483648 ≤ a ∧ a ≤ 2147483647) : (Int32.ofInt a).toInt = a := Int32.toInt_ofInt_of_le (by simp; omega) (by simp; omega)
theorem io_ofInt (x : Int32) : Int32.ofInt x.toInt = x := Int32.ofInt_toInt x
theorem io_rg (x : Int32) : -2147483648 ≤ x.toInt ∧ x.toInt ≤ 2147483647 := ⟨Int32.le_toInt x, by have := Int32.toInt_lt x; omega⟩
theorem io_lt {a b : Int} (ha : -2147483648 ≤ a ∧ a ≤ 2147483647) (hb : -2147483648 ≤ b ∧ b ≤ 2147483647) : Int32.ofInt a < Int32.ofInt b ↔ a < b := by rw [Int32.lt_iff_toInt_lt, io_toInt ha, io_toInt hb]
theorem io_le {a b : Int} (ha : -2147483648 ≤ a ∧ a ≤ 2147483647) (hb : -2147483648 ≤ b ∧ b ≤ 2147483647) : Int32.ofInt a ≤ Int32.ofInt b ↔ a ≤ b := by rw [Int32.le_iff_toInt_le, io_toInt ha, io_toInt hb]
theorem io_eq {a b : Int} (ha : -2147483648 ≤ a ∧ a ≤ 2147483647) (hb : -2147483648 ≤ b ∧ b ≤ 2147483647) : Int32.ofInt a = Int32.ofInt b ↔ a = b := ⟨fun h => by rw [← io_toInt ha, ← io_toInt hb, h], fun h => by rw [h]⟩
theorem io_0 : Int32.ofInt 0 = 0 := rfl
theorem io_cl {a : Int} (h : -2147483648 ≤ a ∧ a ≤ 2147483647) : (Int32.ofInt a).toNatClampNeg = a.toNat := by rw [Int32.toNatClampNeg, io_toInt h]
theorem io_in {a : Int} {n : Nat} (h : 0 ≤ a) (h2 : a < n) (hn : n < 2147483648) : vp_in (Int32.ofInt a) n := by
  rw [vp_in_iff, io_toInt (by omega)]
  exact ⟨h, h2⟩
theorem io_byte {n : Int} (h : -128 ≤ n ∧ n < 128) : (Int8.ofInt n).toInt32 = Int32.ofInt n := by
  have h8 : (Int8.ofInt n).toInt = n := Int8.toInt_ofInt_of_le (by simp; omega) (by simp; omega)
  rw [← io_ofInt (Int8.ofInt n).toInt32, Int8.toInt_toInt32, h8]
theorem io_short {n : Int} (h : -32768 ≤ n ∧ n < 32768) : (Int16.ofInt n).toInt32 = Int32.ofInt n := by
  have h8 : (Int16.ofInt n).toInt = n := Int16.toInt_ofInt_of_le (by simp; omega) (by simp; omega)
  rw [← io_ofInt (Int16.ofInt n).toInt32, Int16.toInt_toInt32, h8]
theorem jo_ofInt (x : Int64) : Int64.ofInt x.toInt = x := Int64.ofInt_toInt x
theorem jo_toInt {a : Int} (h : -9223372036854775808 ≤ a ∧ a ≤ 9223372036854775807) : (Int64.ofInt a).toInt = a := Int64.toInt_ofInt_of_le (by simp; omega) (by simp; omega)
theorem jo_io {a : Int} (h : -2147483648 ≤ a ∧ a ≤ 2147483647) : (Int32.ofInt a).toInt64 = Int64.ofInt a := by
  rw [← jo_ofInt (Int32.ofInt a).toInt64, Int32.toInt_toInt64, io_toInt h]
theorem DI.at {i : Instr} {n : Nat} (d : DI cc pc i n nx) : decode cc pc = .ok (i, n) := d.1
theorem S_iconst {n : Int} (d : DI cc pc (.iconst n) 1 nx) (k : SW g X own cc nx ls (vi n :: st) V) : SW g X own cc pc ls st V := by
  obtain ⟨⟨p, e, R, s, m⟩, ⟨args, below, meth, c⟩, ⟨nL, cells, slots, Z⟩⟩ := X
  obtain ⟨hd, rfl⟩ := d
  intro hC H locs lsA hP hS hl
  have hx := hC.1
  have hb := hC.2.1
  exact lv_iconst hx hb hd rfl (k hC H locs lsA hP hS hl)
theorem S_bipush {n : Int} (h : -128 ≤ n ∧ n < 128 := by omega) (d : DI cc pc (.bipush n) 2 nx) (k : SW g X own cc nx ls (vi n :: st) V) : SW g X own cc pc ls st V := by
  obtain ⟨⟨p, e, R, s, m⟩, ⟨args, below, meth, c⟩, ⟨nL, cells, slots, Z⟩⟩ := X
  obtain ⟨hd, rfl⟩ := d
  intro hC H locs lsA hP hS hl
  have hx := hC.1
  have hb := hC.2.1
  exact lv_bipush hx hb hd (io_byte h) (k hC H locs lsA hP hS hl)
theorem S_sipush {n : Int} (h : -32768 ≤ n ∧ n < 32768 := by omega) (d : DI cc pc (.sipush n) 3 nx) (k : SW g X own cc nx ls (vi n :: st) V) : SW g X own cc pc ls st V := by
  obtain ⟨⟨p, e, R, s, m⟩, ⟨args, below, meth, c⟩, ⟨nL, cells, slots, Z⟩⟩ := X
  obtain ⟨hd, rfl⟩ := d
  intro hC H locs lsA hP hS hl
  have hx := hC.1
  have hb := hC.2.1
  exact lv_sipush hx hb hd (io_short h) (k hC H locs lsA hP hS hl)
theorem S_lconst {n : Fin 2} (d : DI cc pc (.lconst n) 1 nx) (k : SW g X own cc nx ls (vl ((n : Nat) : Int) :: st) V) : SW g X own cc pc ls st V := by
  obtain ⟨⟨p, e, R, s, m⟩, ⟨args, below, meth, c⟩, ⟨nL, cells, slots, Z⟩⟩ := X
  obtain ⟨hd, rfl⟩ := d
  intro hC H locs lsA hP hS hl
  have hx := hC.1
  have hb := hC.2.1
  exact lv_lconst hx hb hd ((by decide : ∀ z : Fin 2, Int64.ofNat (z : Nat) = Int64.ofInt ((z : Nat) : Int)) n) (k hC H locs lsA hP hS hl)
theorem S_iadd {a b : Int} (d : DI cc pc .iadd 1 nx) (k : SW g X own cc nx ls (vi (a + b) :: st) V) : SW g X own cc pc ls (vi b :: vi a :: st) V := by
  obtain ⟨⟨p, e, R, s, m⟩, ⟨args, below, meth, c⟩, ⟨nL, cells, slots, Z⟩⟩ := X
  obtain ⟨hd, rfl⟩ := d
  intro hC H locs lsA hP hS hl
  have hx := hC.1
  have hb := hC.2.1
  show W p g.1 e R s m args below meth c H locs cells slots Z (F0 m pc lsA (.int (Int32.ofInt b) :: .int (Int32.ofInt a) :: st.map (cv g)))
  refine lv_iadd hx hb hd ?_
  rw [io_add]
  exact k hC H locs lsA hP hS hl
theorem S_isub {a b : Int} (d : DI cc pc .isub 1 nx) (k : SW g X own cc nx ls (vi (a - b) :: st) V) : SW g X own cc pc ls (vi b :: vi a :: st) V := by
  obtain ⟨⟨p, e, R, s, m⟩, ⟨args, below, meth, c⟩, ⟨nL, cells, slots, Z⟩⟩ := X
  obtain ⟨hd, rfl⟩ := d
  intro hC H locs lsA hP hS hl
  have hx := hC.1
  have hb := hC.2.1
  show W p g.1 e R s m args below meth c H locs cells slots Z (F0 m pc lsA (.int (Int32.ofInt b) :: .int (Int32.ofInt a) :: st.map (cv g)))
  refine lv_isub hx hb hd ?_
  rw [io_sub]
  exact k hC H locs lsA hP hS hl
theorem S_imul {a b : Int} (d : DI cc pc .imul 1 nx) (k : SW g X own cc nx ls (vi (a * b) :: st) V) : SW g X own cc pc ls (vi b :: vi a :: st) V := by
  obtain ⟨⟨p, e, R, s, m⟩, ⟨args, below, meth, c⟩, ⟨nL, cells, slots, Z⟩⟩ := X
  obtain ⟨hd, rfl⟩ := d
  intro hC H locs lsA hP hS hl
  have hx := hC.1
  have hb := hC.2.1
  show W p g.1 e R s m args below meth c H locs cells slots Z (F0 m pc lsA (.int (Int32.ofInt b) :: .int (Int32.ofInt a) :: st.map (cv g)))
  refine lv_imul hx hb hd ?_
  rw [io_mul]
  exact k hC H locs lsA hP hS hl
theorem S_ineg {a : Int} (d : DI cc pc .ineg 1 nx) (k : SW g X own cc nx ls (vi (-a) :: st) V) : SW g X own cc pc ls (vi a :: st) V := by
  obtain ⟨⟨p, e, R, s, m⟩, ⟨args, below, meth, c⟩, ⟨nL, cells, slots, Z⟩⟩ := X
  obtain ⟨hd, rfl⟩ := d
  intro hC H locs lsA hP hS hl
  have hx := hC.1
  have hb := hC.2.1
  show W p g.1 e R s m args below meth c H locs cells slots Z (F0 m pc lsA (.int (Int32.ofInt a) :: st.map (cv g)))
  refine lv_ineg hx hb hd ?_
  rw [io_neg]
  exact k hC H locs lsA hP hS hl
theorem S_iand {a b : Int} (d : DI cc pc .iand 1 nx) (k : SW g X own cc nx ls (vi (Int32.ofInt a &&& Int32.ofInt b).toInt :: st) V) : SW g X own cc pc ls (vi b :: vi a :: st) V := by
  obtain ⟨⟨p, e, R, s, m⟩, ⟨args, below, meth, c⟩, ⟨nL, cells, slots, Z⟩⟩ := X
  obtain ⟨hd, rfl⟩ := d
  intro hC H locs lsA hP hS hl
  have hx := hC.1
  have hb := hC.2.1
  show W p g.1 e R s m args below meth c H locs cells slots Z (F0 m pc lsA (.int (Int32.ofInt b) :: .int (Int32.ofInt a) :: st.map (cv g)))
  refine lv_iand hx hb hd ?_
  rw [← io_ofInt (Int32.ofInt a &&& Int32.ofInt b)]
  exact k hC H locs lsA hP hS hl
theorem S_ior {a b : Int} (d : DI cc pc .ior 1 nx) (k : SW g X own cc nx ls (vi (Int32.ofInt a ||| Int32.ofInt b).toInt :: st) V) : SW g X own cc pc ls (vi b :: vi a :: st) V := by
  obtain ⟨⟨p, e, R, s, m⟩, ⟨args, below, meth, c⟩, ⟨nL, cells, slots, Z⟩⟩ := X
  obtain ⟨hd, rfl⟩ := d
  intro hC H locs lsA hP hS hl
  have hx := hC.1
  have hb := hC.2.1
  show W p g.1 e R s m args below meth c H locs cells slots Z (F0 m pc lsA (.int (Int32.ofInt b) :: .int (Int32.ofInt a) :: st.map (cv g)))
  refine lv_ior hx hb hd ?_
  rw [← io_ofInt (Int32.ofInt a ||| Int32.ofInt b)]
  exact k hC H locs lsA hP hS hl
theorem S_ixor {a b : Int} (d : DI cc pc .ixor 1 nx) (k : SW g X own cc nx ls (vi (Int32.ofInt a ^^^ Int32.ofInt b).toInt :: st) V) : SW g X own cc pc ls (vi b :: vi a :: st) V := by
  obtain ⟨⟨p, e, R, s, m⟩, ⟨args, below, meth, c⟩, ⟨nL, cells, slots, Z⟩⟩ := X
  obtain ⟨hd, rfl⟩ := d
  intro hC H locs lsA hP hS hl
  have hx := hC.1
  have hb := hC.2.1
  show W p g.1 e R s m args below meth c H locs cells slots Z (F0 m pc lsA (.int (Int32.ofInt b) :: .int (Int32.ofInt a) :: st.map (cv g)))
  refine lv_ixor hx hb hd ?_
  rw [← io_ofInt (Int32.ofInt a ^^^ Int32.ofInt b)]
  exact k hC H locs lsA hP hS hl
theorem S_ishl {a b : Int} (d : DI cc pc .ishl 1 nx) (k : SW g X own cc nx ls (vi (Int32.ofInt a <<< (Int32.ofInt b &&& 31)).toInt :: st) V) : SW g X own cc pc ls (vi b :: vi a :: st) V := by
  obtain ⟨⟨p, e, R, s, m⟩, ⟨args, below, meth, c⟩, ⟨nL, cells, slots, Z⟩⟩ := X
  obtain ⟨hd, rfl⟩ := d
  intro hC H locs lsA hP hS hl
  have hx := hC.1
  have hb := hC.2.1
  show W p g.1 e R s m args below meth c H locs cells slots Z (F0 m pc lsA (.int (Int32.ofInt b) :: .int (Int32.ofInt a) :: st.map (cv g)))
  refine lv_ishl hx hb hd ?_
  rw [← io_ofInt (Int32.ofInt a <<< (Int32.ofInt b &&& 31))]
  exact k hC H locs lsA hP hS hl
theorem S_land {a b : Int} (d : DI cc pc .land 1 nx) (k : SW g X own cc nx ls (vl (Int64.ofInt a &&& Int64.ofInt b).toInt :: st) V) : SW g X own cc pc ls (vl b :: vl a :: st) V := by
  obtain ⟨⟨p, e, R, s, m⟩, ⟨args, below, meth, c⟩, ⟨nL, cells, slots, Z⟩⟩ := X
  obtain ⟨hd, rfl⟩ := d
  intro hC H locs lsA hP hS hl
  have hx := hC.1
  have hb := hC.2.1
  show W p g.1 e R s m args below meth c H locs cells slots Z (F0 m pc lsA (.long (Int64.ofInt b) :: .long (Int64.ofInt a) :: st.map (cv g)))
  refine lv_land hx hb hd ?_
  rw [← jo_ofInt (Int64.ofInt a &&& Int64.ofInt b)]
  exact k hC H locs lsA hP hS hl
theorem S_lor {a b : Int} (d : DI cc pc .lor 1 nx) (k : SW g X own cc nx ls (vl (Int64.ofInt a ||| Int64.ofInt b).toInt :: st) V) : SW g X own cc pc ls (vl b :: vl a :: st) V := by
  obtain ⟨⟨p, e, R, s, m⟩, ⟨args, below, meth, c⟩, ⟨nL, cells, slots, Z⟩⟩ := X
  obtain ⟨hd, rfl⟩ := d
  intro hC H locs lsA hP hS hl
  have hx := hC.1
  have hb := hC.2.1
  show W p g.1 e R s m args below meth c H locs cells slots Z (F0 m pc lsA (.long (Int64.ofInt b) :: .long (Int64.ofInt a) :: st.map (cv g)))
  refine lv_lor hx hb hd ?_
  rw [← jo_ofInt (Int64.ofInt a ||| Int64.ofInt b)]
  exact k hC H locs lsA hP hS hl
theorem S_lxor {a b : Int} (d : DI cc pc .lxor 1 nx) (k : SW g X own cc nx ls (vl (Int64.ofInt a ^^^ Int64.ofInt b).toInt :: st) V) : SW g X own cc pc ls (vl b :: vl a :: st) V := by
  obtain ⟨⟨p, e, R, s, m⟩, ⟨args, below, meth, c⟩, ⟨nL, cells, slots, Z⟩⟩ := X
  obtain ⟨hd, rfl⟩ := d
  intro hC H locs lsA hP hS hl
  have hx := hC.1
  have hb := hC.2.1
  show W p g.1 e R s m args below meth c H locs cells slots Z (F0 m pc lsA (.long (Int64.ofInt b) :: .long (Int64.ofInt a) :: st.map (cv g)))
  refine lv_lxor hx hb hd ?_
  rw [← jo_ofInt (Int64.ofInt a ^^^ Int64.ofInt b)]
  exact k hC H locs lsA hP hS hl
theorem S_lshl {a b : Int} (d : DI cc pc .lshl 1 nx) (k : SW g X own cc nx ls (vl (Int64.ofInt a <<< ((Int32.ofInt b).toInt64 &&& 63)).toInt :: st) V) : SW g X own cc pc ls (vi b :: vl a :: st) V := by
  obtain ⟨⟨p, e, R, s, m⟩, ⟨args, below, meth, c⟩, ⟨nL, cells, slots, Z⟩⟩ := X
  obtain ⟨hd, rfl⟩ := d
  intro hC H locs lsA hP hS hl
  have hx := hC.1
  have hb := hC.2.1
  show W p g.1 e R s m args below meth c H locs cells slots Z (F0 m pc lsA (.int (Int32.ofInt b) :: .long (Int64.ofInt a) :: st.map (cv g)))
  refine lv_lshl hx hb hd rfl ?_
  rw [← jo_ofInt (Int64.ofInt a <<< ((Int32.ofInt b).toInt64 &&& 63))]
  exact k hC H locs lsA hP hS hl
theorem S_lushr {a b : Int} (d : DI cc pc .lushr 1 nx) (k : SW g X own cc nx ls (vl (((Int64.ofInt a).toUInt64 >>> ((Int32.ofInt b).toInt64.toUInt64 &&& Int64.toUInt64 63)).toInt64).toInt :: st) V) : SW g X own cc pc ls (vi b :: vl a :: st) V := by
  obtain ⟨⟨p, e, R, s, m⟩, ⟨args, below, meth, c⟩, ⟨nL, cells, slots, Z⟩⟩ := X
  obtain ⟨hd, rfl⟩ := d
  intro hC H locs lsA hP hS hl
  have hx := hC.1
  have hb := hC.2.1
  show W p g.1 e R s m args below meth c H locs cells slots Z (F0 m pc lsA (.int (Int32.ofInt b) :: .long (Int64.ofInt a) :: st.map (cv g)))
  refine lv_lushr hx hb hd rfl ?_
  rw [← jo_ofInt (((Int64.ofInt a).toUInt64 >>> ((Int32.ofInt b).toInt64.toUInt64 &&& Int64.toUInt64 63)).toInt64)]
  exact k hC H locs lsA hP hS hl
theorem S_i2l {a : Int} (h : -2147483648 ≤ a ∧ a ≤ 2147483647 := by omega) (d : DI cc pc .i2l 1 nx) (k : SW g X own cc nx ls (vl a :: st) V) : SW g X own cc pc ls (vi a :: st) V := by
  obtain ⟨⟨p, e, R, s, m⟩, ⟨args, below, meth, c⟩, ⟨nL, cells, slots, Z⟩⟩ := X
  obtain ⟨hd, rfl⟩ := d
  intro hC H locs lsA hP hS hl
  have hx := hC.1
  have hb := hC.2.1
  show W p g.1 e R s m args below meth c H locs cells slots Z (F0 m pc lsA (.int (Int32.ofInt a) :: st.map (cv g)))
  exact lv_i2l hx hb hd (jo_io h) (k hC H locs lsA hP hS hl)
theorem S_l2i {a : Int} (d : DI cc pc .l2i 1 nx) (k : SW g X own cc nx ls (vi ((Int64.ofInt a).toInt32).toInt :: st) V) : SW g X own cc pc ls (vl a :: st) V := by
  obtain ⟨⟨p, e, R, s, m⟩, ⟨args, below, meth, c⟩, ⟨nL, cells, slots, Z⟩⟩ := X
  obtain ⟨hd, rfl⟩ := d
  intro hC H locs lsA hP hS hl
  have hx := hC.1
  have hb := hC.2.1
  show W p g.1 e R s m args below meth c H locs cells slots Z (F0 m pc lsA (.long (Int64.ofInt a) :: st.map (cv g)))
  exact lv_l2i hx hb hd (io_ofInt _).symm (k hC H locs lsA hP hS hl)
theorem S_i2b {a : Int} (d : DI cc pc .i2b 1 nx) (k : SW g X own cc nx ls (vi ((Int32.ofInt a).toInt8.toInt32).toInt :: st) V) : SW g X own cc pc ls (vi a :: st) V := by
  obtain ⟨⟨p, e, R, s, m⟩, ⟨args, below, meth, c⟩, ⟨nL, cells, slots, Z⟩⟩ := X
  obtain ⟨hd, rfl⟩ := d
  intro hC H locs lsA hP hS hl
  have hx := hC.1
  have hb := hC.2.1
  show W p g.1 e R s m args below meth c H locs cells slots Z (F0 m pc lsA (.int (Int32.ofInt a) :: st.map (cv g)))
  exact lv_i2b hx hb hd (io_ofInt _).symm (k hC H locs lsA hP hS hl)
theorem S_i2s {a : Int} (d : DI cc pc .i2s 1 nx) (k : SW g X own cc nx ls (vi ((Int32.ofInt a).toInt16.toInt32).toInt :: st) V) : SW g X own cc pc ls (vi a :: st) V := by
  obtain ⟨⟨p, e, R, s, m⟩, ⟨args, below, meth, c⟩, ⟨nL, cells, slots, Z⟩⟩ := X
  obtain ⟨hd, rfl⟩ := d
  intro hC H locs lsA hP hS hl
  have hx := hC.1
  have hb := hC.2.1
  show W p g.1 e R s m args below meth c H locs cells slots Z (F0 m pc lsA (.int (Int32.ofInt a) :: st.map (cv g)))
  exact lv_i2s hx hb hd (io_ofInt _).symm (k hC H locs lsA hP hS hl)
theorem S_i2c {a : Int} (d : DI cc pc .i2c 1 nx) (k : SW g X own cc nx ls (vi (((Int32.ofInt a).toUInt32 % 65536).toInt32).toInt :: st) V) : SW g X own cc pc ls (vi a :: st) V := by
  obtain ⟨⟨p, e, R, s, m⟩, ⟨args, below, meth, c⟩, ⟨nL, cells, slots, Z⟩⟩ := X
  obtain ⟨hd, rfl⟩ := d
  intro hC H locs lsA hP hS hl
  have hx := hC.1
  have hb := hC.2.1
  show W p g.1 e R s m args below meth c H locs cells slots Z (F0 m pc lsA (.int (Int32.ofInt a) :: st.map (cv g)))
  exact lv_i2c hx hb hd (io_ofInt _).symm (k hC H locs lsA hP hS hl)
theorem S_lcmp {a b : Int} (d : DI cc pc .lcmp 1 nx) (k : SW g X own cc nx ls (vi (lg_cmp (Int64.ofInt a) (Int64.ofInt b)).toInt :: st) V) : SW g X own cc pc ls (vl b :: vl a :: st) V := by
  obtain ⟨⟨p, e, R, s, m⟩, ⟨args, below, meth, c⟩, ⟨nL, cells, slots, Z⟩⟩ := X
  obtain ⟨hd, rfl⟩ := d
  intro hC H locs lsA hP hS hl
  have hx := hC.1
  have hb := hC.2.1
  show W p g.1 e R s m args below meth c H locs cells slots Z (F0 m pc lsA (.long (Int64.ofInt b) :: .long (Int64.ofInt a) :: st.map (cv g)))
  refine W.lcmp hx hb hd ?_
  rw [← io_ofInt (lg_cmp (Int64.ofInt a) (Int64.ofInt b))]
  exact k hC H locs lsA hP hS hl
theorem S_dup {v : AV} (h : nl (some (some v)) := by trivial) (d : DI cc pc .dup 1 nx) (k : SW g X own cc nx ls (v :: v :: st) V) : SW g X own cc pc ls (v :: st) V := by
  obtain ⟨⟨p, e, R, s, m⟩, ⟨args, below, meth, c⟩, ⟨nL, cells, slots, Z⟩⟩ := X
  obtain ⟨hd, rfl⟩ := d
  intro hC H locs lsA hP hS hl
  have hx := hC.1
  have hb := hC.2.1
  show W p g.1 e R s m args below meth c H locs cells slots Z (F0 m pc lsA (cv g v :: st.map (cv g)))
  exact lv_dup hx hb hd (cv_cat1 h) (k hC H locs lsA hP hS hl)
theorem S_dup2 {v w : AV} (h : nl (some (some v)) := by trivial) (h2 : nl (some (some w)) := by trivial) (d : DI cc pc .dup2 1 nx) (k : SW g X own cc nx ls (v :: w :: v :: w :: st) V) : SW g X own cc pc ls (v :: w :: st) V := by
  obtain ⟨⟨p, e, R, s, m⟩, ⟨args, below, meth, c⟩, ⟨nL, cells, slots, Z⟩⟩ := X
  obtain ⟨hd, rfl⟩ := d
  intro hC H locs lsA hP hS hl
  have hx := hC.1
  have hb := hC.2.1
  show W p g.1 e R s m args below meth c H locs cells slots Z (F0 m pc lsA (cv g v :: cv g w :: st.map (cv g)))
  exact lv_dup2_11 hx hb hd (cv_cat1 h) (cv_cat1 h2) (k hC H locs lsA hP hS hl)
theorem io_div {a b : Int} (h0 : 0 ≤ a ∧ a ≤ 2147483647) (h1 : 0 < b ∧ b ≤ 2147483647) : Int32.ofInt a / Int32.ofInt b = Int32.ofInt (a / b) := by
  apply Int32.toInt_inj.mp
  have hq : 0 ≤ a / b := Int.ediv_nonneg h0.1 (by omega)
  have hq2 : a / b ≤ a := Int.ediv_le_self b h0.1
  rw [Int32.toInt_div_of_ne_right _ _ (by intro h; have := congrArg Int32.toInt h; rw [io_toInt (by omega)] at this; have h3 : (-1 : Int32).toInt = -1 := rfl; omega), io_toInt (by omega), io_toInt (by omega), io_toInt (by omega), Int.tdiv_eq_ediv_of_nonneg h0.1]
theorem io_rem {a b : Int} (h0 : 0 ≤ a ∧ a ≤ 2147483647) (h1 : 0 < b ∧ b ≤ 2147483647) : Int32.ofInt a - Int32.ofInt a / Int32.ofInt b * Int32.ofInt b = Int32.ofInt (a % b) := by
  rw [io_div h0 h1, io_mul, io_sub, Int.emod_def, Int.mul_comm b]
theorem io_tdiv {a b : Int} (h0 : -2147483648 ≤ a ∧ a ≤ 2147483647) (h1 : 0 < b ∧ b ≤ 2147483647) : Int32.ofInt a / Int32.ofInt b = Int32.ofInt (a.tdiv b) := by
  apply Int32.toInt_inj.mp
  have hq : (a.tdiv b).natAbs ≤ a.natAbs := by rw [Int.natAbs_tdiv]; exact Nat.div_le_self _ _
  rw [Int32.toInt_div_of_ne_right _ _ (by intro h; have := congrArg Int32.toInt h; rw [io_toInt (by omega)] at this; have h3 : (-1 : Int32).toInt = -1 := rfl; omega), io_toInt (by omega), io_toInt (by omega), io_toInt]
  by_cases hn : 0 ≤ a
  · have : 0 ≤ a.tdiv b := Int.tdiv_nonneg hn (by omega)
    omega
  · have := Int.tdiv_nonneg (a := -a) (b := b) (by omega) (by omega)
    rw [Int.neg_tdiv] at this
    omega
theorem io_trem {a b : Int} (h0 : -2147483648 ≤ a ∧ a ≤ 2147483647) (h1 : 0 < b ∧ b ≤ 2147483647) : Int32.ofInt a - Int32.ofInt a / Int32.ofInt b * Int32.ofInt b = Int32.ofInt (a.tmod b) := by
  rw [io_tdiv h0 h1, io_mul, io_sub, Int.tmod_def, Int.mul_comm b]
theorem io_nz {b : Int} (h1 : 0 < b ∧ b ≤ 2147483647) : ¬ Int32.ofInt b = 0 := by
  intro h
  have := congrArg Int32.toInt h
  rw [io_toInt (by omega)] at this
  have h3 : (0 : Int32).toInt = 0 := rfl
  omega
theorem S_idiv {a b : Int} (h0 : 0 ≤ a ∧ a ≤ 2147483647 := by omega) (h1 : 0 < b ∧ b ≤ 2147483647 := by omega) (d : DI cc pc .idiv 1 nx) (k : SW g X own cc nx ls (vi (a / b) :: st) V) : SW g X own cc pc ls (vi b :: vi a :: st) V := by
  obtain ⟨⟨p, e, R, s, m⟩, ⟨args, below, meth, c⟩, ⟨nL, cells, slots, Z⟩⟩ := X
  obtain ⟨hd, rfl⟩ := d
  intro hC H locs lsA hP hS hl
  have hx := hC.1
  have hb := hC.2.1
  show W p g.1 e R s m args below meth c H locs cells slots Z (F0 m pc lsA (.int (Int32.ofInt b) :: .int (Int32.ofInt a) :: st.map (cv g)))
  refine lv_idiv hx hb hd (io_nz h1) ?_
  rw [io_div h0 h1]
  exact k hC H locs lsA hP hS hl
theorem S_irem {a b : Int} (h0 : 0 ≤ a ∧ a ≤ 2147483647 := by omega) (h1 : 0 < b ∧ b ≤ 2147483647 := by omega) (d : DI cc pc .irem 1 nx) (k : SW g X own cc nx ls (vi (a % b) :: st) V) : SW g X own cc pc ls (vi b :: vi a :: st) V := by
  obtain ⟨⟨p, e, R, s, m⟩, ⟨args, below, meth, c⟩, ⟨nL, cells, slots, Z⟩⟩ := X
  obtain ⟨hd, rfl⟩ := d
  intro hC H locs lsA hP hS hl
  have hx := hC.1
  have hb := hC.2.1
  show W p g.1 e R s m args below meth c H locs cells slots Z (F0 m pc lsA (.int (Int32.ofInt b) :: .int (Int32.ofInt a) :: st.map (cv g)))
  refine lv_irem hx hb hd (io_nz h1) ?_
  rw [io_rem h0 h1]
  exact k hC H locs lsA hP hS hl
theorem S_idivT {a b : Int} (h0 : -2147483648 ≤ a ∧ a ≤ 2147483647 := by omega) (h1 : 0 < b ∧ b ≤ 2147483647 := by omega) (d : DI cc pc .idiv 1 nx) (k : SW g X own cc nx ls (vi (a.tdiv b) :: st) V) : SW g X own cc pc ls (vi b :: vi a :: st) V := by
  obtain ⟨⟨p, e, R, s, m⟩, ⟨args, below, meth, c⟩, ⟨nL, cells, slots, Z⟩⟩ := X
  obtain ⟨hd, rfl⟩ := d
  intro hC H locs lsA hP hS hl
  have hx := hC.1
  have hb := hC.2.1
  show W p g.1 e R s m args below meth c H locs cells slots Z (F0 m pc lsA (.int (Int32.ofInt b) :: .int (Int32.ofInt a) :: st.map (cv g)))
  refine lv_idiv hx hb hd (io_nz h1) ?_
  rw [io_tdiv h0 h1]
  exact k hC H locs lsA hP hS hl
theorem S_iremT {a b : Int} (h0 : -2147483648 ≤ a ∧ a ≤ 2147483647 := by omega) (h1 : 0 < b ∧ b ≤ 2147483647 := by omega) (d : DI cc pc .irem 1 nx) (k : SW g X own cc nx ls (vi (a.tmod b) :: st) V) : SW g X own cc pc ls (vi b :: vi a :: st) V := by
  obtain ⟨⟨p, e, R, s, m⟩, ⟨args, below, meth, c⟩, ⟨nL, cells, slots, Z⟩⟩ := X
  obtain ⟨hd, rfl⟩ := d
  intro hC H locs lsA hP hS hl
  have hx := hC.1
  have hb := hC.2.1
  show W p g.1 e R s m args below meth c H locs cells slots Z (F0 m pc lsA (.int (Int32.ofInt b) :: .int (Int32.ofInt a) :: st.map (cv g)))
  refine lv_irem hx hb hd (io_nz h1) ?_
  rw [io_trem h0 h1]
  exact k hC H locs lsA hP hS hl
theorem S_goto (d : DJ cc pc .goto tgt nx) (k : SW g X own cc tgt ls st V) : SW g X own cc pc ls st V := by
  obtain ⟨⟨p, e, R, s, m⟩, ⟨args, below, meth, c⟩, ⟨nL, cells, slots, Z⟩⟩ := X
  obtain ⟨off, hd, ht, -⟩ := d
  intro hC H locs lsA hP hS hl
  exact lv_goto hC.1 hC.2.1 hd ht (k hC H locs lsA hP hS hl)
theorem S_icmp_eq {a b : Int} (ha : -2147483648 ≤ a ∧ a ≤ 2147483647 := by omega) (hb : -2147483648 ≤ b ∧ b ≤ 2147483647 := by omega) (d : DJ cc pc (.if_icmp .eq) tgt nx) (kt : a = b → SW g X own cc tgt ls st V) (kf : ¬ a = b → SW g X own cc nx ls st V) : SW g X own cc pc ls (vi b :: vi a :: st) V := by
  obtain ⟨⟨p, e, R, s, m⟩, ⟨args, below, meth, c⟩, ⟨nL, cells, slots, Z⟩⟩ := X
  obtain ⟨off, hd, ht, rfl⟩ := d
  intro hC H locs lsA hP hS hl
  show W p g.1 e R s m args below meth c H locs cells slots Z (F0 m pc lsA (.int (Int32.ofInt b) :: .int (Int32.ofInt a) :: st.map (cv g)))
  have e1 := io_eq ha hb
  have e2 := io_lt ha hb
  have e3 := io_lt hb ha
  have e4 := io_le ha hb
  have e5 := io_le hb ha
  exact lv_icmp_eq hC.1 hC.2.1 hd ht (fun q => kt (by first | exact e1.mp q | exact fun z => q (e1.mpr z) | exact e2.mp q | exact e3.mp q | exact e4.mp q | exact e5.mp q) hC H locs lsA hP hS hl) (fun q => kf (by first | exact e1.mp q | exact fun z => q (e1.mpr z) | exact Decidable.byContradiction (fun z => q (fun y => z (e1.mp y))) | exact Int.not_lt.mp (fun z => q (e2.mpr z)) | exact Int.not_lt.mp (fun z => q (e3.mpr z)) | exact Int.not_le.mp (fun z => q (e4.mpr z)) | exact Int.not_le.mp (fun z => q (e5.mpr z))) hC H locs lsA hP hS hl)
theorem S_if_eq {a : Int} (ha : -2147483648 ≤ a ∧ a ≤ 2147483647 := by omega) (d : DJ cc pc (.ifCond .eq) tgt nx) (kt : a = 0 → SW g X own cc tgt ls st V) (kf : ¬ a = 0 → SW g X own cc nx ls st V) : SW g X own cc pc ls (vi a :: st) V := by
  obtain ⟨⟨p, e, R, s, m⟩, ⟨args, below, meth, c⟩, ⟨nL, cells, slots, Z⟩⟩ := X
  obtain ⟨off, hd, ht, rfl⟩ := d
  intro hC H locs lsA hP hS hl
  show W p g.1 e R s m args below meth c H locs cells slots Z (F0 m pc lsA (.int (Int32.ofInt a) :: st.map (cv g)))
  have h0 : (-2147483648 : Int) ≤ 0 ∧ (0 : Int) ≤ 2147483647 := by omega
  have e1 : Int32.ofInt a = 0 ↔ a = 0 := io_eq ha h0
  have e2 : Int32.ofInt a < 0 ↔ a < 0 := io_lt ha h0
  have e3 : 0 < Int32.ofInt a ↔ 0 < a := io_lt h0 ha
  have e4 : Int32.ofInt a ≤ 0 ↔ a ≤ 0 := io_le ha h0
  have e5 : 0 ≤ Int32.ofInt a ↔ 0 ≤ a := io_le h0 ha
  exact lv_if_eq hC.1 hC.2.1 hd ht (fun q => kt (by first | exact e1.mp q | exact fun z => q (e1.mpr z) | exact e2.mp q | exact e3.mp q | exact e4.mp q | exact e5.mp q) hC H locs lsA hP hS hl) (fun q => kf (by first | exact e1.mp q | exact fun z => q (e1.mpr z) | exact Decidable.byContradiction (fun z => q (fun y => z (e1.mp y))) | exact Int.not_lt.mp (fun z => q (e2.mpr z)) | exact Int.not_lt.mp (fun z => q (e3.mpr z)) | exact Int.not_le.mp (fun z => q (e4.mpr z)) | exact Int.not_le.mp (fun z => q (e5.mpr z))) hC H locs lsA hP hS hl)
theorem S_icmp_ne {a b : Int} (ha : -2147483648 ≤ a ∧ a ≤ 2147483647 := by omega) (hb : -2147483648 ≤ b ∧ b ≤ 2147483647 := by omega) (d : DJ cc pc (.if_icmp .ne) tgt nx) (kt : ¬ a = b → SW g X own cc tgt ls st V) (kf : a = b → SW g X own cc nx ls st V) : SW g X own cc pc ls (vi b :: vi a :: st) V := by
  obtain ⟨⟨p, e, R, s, m⟩, ⟨args, below, meth, c⟩, ⟨nL, cells, slots, Z⟩⟩ := X
  obtain ⟨off, hd, ht, rfl⟩ := d
  intro hC H locs lsA hP hS hl
  show W p g.1 e R s m args below meth c H locs cells slots Z (F0 m pc lsA (.int (Int32.ofInt b) :: .int (Int32.ofInt a) :: st.map (cv g)))
  have e1 := io_eq ha hb
  have e2 := io_lt ha hb
  have e3 := io_lt hb ha
  have e4 := io_le ha hb
  have e5 := io_le hb ha
  exact lv_icmp_ne hC.1 hC.2.1 hd ht (fun q => kt (by first | exact e1.mp q | exact fun z => q (e1.mpr z) | exact e2.mp q | exact e3.mp q | exact e4.mp q | exact e5.mp q) hC H locs lsA hP hS hl) (fun q => kf (by first | exact e1.mp q | exact fun z => q (e1.mpr z) | exact Decidable.byContradiction (fun z => q (fun y => z (e1.mp y))) | exact Int.not_lt.mp (fun z => q (e2.mpr z)) | exact Int.not_lt.mp (fun z => q (e3.mpr z)) | exact Int.not_le.mp (fun z => q (e4.mpr z)) | exact Int.not_le.mp (fun z => q (e5.mpr z))) hC H locs lsA hP hS hl)
theorem S_if_ne {a : Int} (ha : -2147483648 ≤ a ∧ a ≤ 2147483647 := by omega) (d : DJ cc pc (.ifCond .ne) tgt nx) (kt : ¬ a = 0 → SW g X own cc tgt ls st V) (kf : a = 0 → SW g X own cc nx ls st V) : SW g X own cc pc ls (vi a :: st) V := by
  obtain ⟨⟨p, e, R, s, m⟩, ⟨args, below, meth, c⟩, ⟨nL, cells, slots, Z⟩⟩ := X
  obtain ⟨off, hd, ht, rfl⟩ := d
  intro hC H locs lsA hP hS hl
  show W p g.1 e R s m args below meth c H locs cells slots Z (F0 m pc lsA (.int (Int32.ofInt a) :: st.map (cv g)))
  have h0 : (-2147483648 : Int) ≤ 0 ∧ (0 : Int) ≤ 2147483647 := by omega
  have e1 : Int32.ofInt a = 0 ↔ a = 0 := io_eq ha h0
  have e2 : Int32.ofInt a < 0 ↔ a < 0 := io_lt ha h0
  have e3 : 0 < Int32.ofInt a ↔ 0 < a := io_lt h0 ha
  have e4 : Int32.ofInt a ≤ 0 ↔ a ≤ 0 := io_le ha h0
  have e5 : 0 ≤ Int32.ofInt a ↔ 0 ≤ a := io_le h0 ha
  exact lv_if_ne hC.1 hC.2.1 hd ht (fun q => kt (by first | exact e1.mp q | exact fun z => q (e1.mpr z) | exact e2.mp q | exact e3.mp q | exact e4.mp q | exact e5.mp q) hC H locs lsA hP hS hl) (fun q => kf (by first | exact e1.mp q | exact fun z => q (e1.mpr z) | exact Decidable.byContradiction (fun z => q (fun y => z (e1.mp y))) | exact Int.not_lt.mp (fun z => q (e2.mpr z)) | exact Int.not_lt.mp (fun z => q (e3.mpr z)) | exact Int.not_le.mp (fun z => q (e4.mpr z)) | exact Int.not_le.mp (fun z => q (e5.mpr z))) hC H locs lsA hP hS hl)
theorem S_icmp_lt {a b : Int} (ha : -2147483648 ≤ a ∧ a ≤ 2147483647 := by omega) (hb : -2147483648 ≤ b ∧ b ≤ 2147483647 := by omega) (d : DJ cc pc (.if_icmp .lt) tgt nx) (kt : a < b → SW g X own cc tgt ls st V) (kf : b ≤ a → SW g X own cc nx ls st V) : SW g X own cc pc ls (vi b :: vi a :: st) V := by
  obtain ⟨⟨p, e, R, s, m⟩, ⟨args, below, meth, c⟩, ⟨nL, cells, slots, Z⟩⟩ := X
  obtain ⟨off, hd, ht, rfl⟩ := d
  intro hC H locs lsA hP hS hl
  show W p g.1 e R s m args below meth c H locs cells slots Z (F0 m pc lsA (.int (Int32.ofInt b) :: .int (Int32.ofInt a) :: st.map (cv g)))
  have e1 := io_eq ha hb
  have e2 := io_lt ha hb
  have e3 := io_lt hb ha
  have e4 := io_le ha hb
  have e5 := io_le hb ha
  exact lv_icmp_lt hC.1 hC.2.1 hd ht (fun q => kt (by first | exact e1.mp q | exact fun z => q (e1.mpr z) | exact e2.mp q | exact e3.mp q | exact e4.mp q | exact e5.mp q) hC H locs lsA hP hS hl) (fun q => kf (by first | exact e1.mp q | exact fun z => q (e1.mpr z) | exact Decidable.byContradiction (fun z => q (fun y => z (e1.mp y))) | exact Int.not_lt.mp (fun z => q (e2.mpr z)) | exact Int.not_lt.mp (fun z => q (e3.mpr z)) | exact Int.not_le.mp (fun z => q (e4.mpr z)) | exact Int.not_le.mp (fun z => q (e5.mpr z))) hC H locs lsA hP hS hl)
theorem S_if_lt {a : Int} (ha : -2147483648 ≤ a ∧ a ≤ 2147483647 := by omega) (d : DJ cc pc (.ifCond .lt) tgt nx) (kt : a < 0 → SW g X own cc tgt ls st V) (kf : 0 ≤ a → SW g X own cc nx ls st V) : SW g X own cc pc ls (vi a :: st) V := by
  obtain ⟨⟨p, e, R, s, m⟩, ⟨args, below, meth, c⟩, ⟨nL, cells, slots, Z⟩⟩ := X
  obtain ⟨off, hd, ht, rfl⟩ := d
  intro hC H locs lsA hP hS hl
  show W p g.1 e R s m args below meth c H locs cells slots Z (F0 m pc lsA (.int (Int32.ofInt a) :: st.map (cv g)))
  have h0 : (-2147483648 : Int) ≤ 0 ∧ (0 : Int) ≤ 2147483647 := by omega
  have e1 : Int32.ofInt a = 0 ↔ a = 0 := io_eq ha h0
  have e2 : Int32.ofInt a < 0 ↔ a < 0 := io_lt ha h0
  have e3 : 0 < Int32.ofInt a ↔ 0 < a := io_lt h0 ha
  have e4 : Int32.ofInt a ≤ 0 ↔ a ≤ 0 := io_le ha h0
  have e5 : 0 ≤ Int32.ofInt a ↔ 0 ≤ a := io_le h0 ha
  exact lv_if_lt hC.1 hC.2.1 hd ht (fun q => kt (by first | exact e1.mp q | exact fun z => q (e1.mpr z) | exact e2.mp q | exact e3.mp q | exact e4.mp q | exact e5.mp q) hC H locs lsA hP hS hl) (fun q => kf (by first | exact e1.mp q | exact fun z => q (e1.mpr z) | exact Decidable.byContradiction (fun z => q (fun y => z (e1.mp y))) | exact Int.not_lt.mp (fun z => q (e2.mpr z)) | exact Int.not_lt.mp (fun z => q (e3.mpr z)) | exact Int.not_le.mp (fun z => q (e4.mpr z)) | exact Int.not_le.mp (fun z => q (e5.mpr z))) hC H locs lsA hP hS hl)
theorem S_icmp_ge {a b : Int} (ha : -2147483648 ≤ a ∧ a ≤ 2147483647 := by omega) (hb : -2147483648 ≤ b ∧ b ≤ 2147483647 := by omega) (d : DJ cc pc (.if_icmp .ge) tgt nx) (kt : b ≤ a → SW g X own cc tgt ls st V) (kf : a < b → SW g X own cc nx ls st V) : SW g X own cc pc ls (vi b :: vi a :: st) V := by
  obtain ⟨⟨p, e, R, s, m⟩, ⟨args, below, meth, c⟩, ⟨nL, cells, slots, Z⟩⟩ := X
  obtain ⟨off, hd, ht, rfl⟩ := d
  intro hC H locs lsA hP hS hl
  show W p g.1 e R s m args below meth c H locs cells slots Z (F0 m pc lsA (.int (Int32.ofInt b) :: .int (Int32.ofInt a) :: st.map (cv g)))
  have e1 := io_eq ha hb
  have e2 := io_lt ha hb
  have e3 := io_lt hb ha
  have e4 := io_le ha hb
  have e5 := io_le hb ha
  exact lv_icmp_ge hC.1 hC.2.1 hd ht (fun q => kt (by first | exact e1.mp q | exact fun z => q (e1.mpr z) | exact e2.mp q | exact e3.mp q | exact e4.mp q | exact e5.mp q) hC H locs lsA hP hS hl) (fun q => kf (by first | exact e1.mp q | exact fun z => q (e1.mpr z) | exact Decidable.byContradiction (fun z => q (fun y => z (e1.mp y))) | exact Int.not_lt.mp (fun z => q (e2.mpr z)) | exact Int.not_lt.mp (fun z => q (e3.mpr z)) | exact Int.not_le.mp (fun z => q (e4.mpr z)) | exact Int.not_le.mp (fun z => q (e5.mpr z))) hC H locs lsA hP hS hl)
theorem S_if_ge {a : Int} (ha : -2147483648 ≤ a ∧ a ≤ 2147483647 := by omega) (d : DJ cc pc (.ifCond .ge) tgt nx) (kt : 0 ≤ a → SW g X own cc tgt ls st V) (kf : a < 0 → SW g X own cc nx ls st V) : SW g X own cc pc ls (vi a :: st) V := by
  obtain ⟨⟨p, e, R, s, m⟩, ⟨args, below, meth, c⟩, ⟨nL, cells, slots, Z⟩⟩ := X
  obtain ⟨off, hd, ht, rfl⟩ := d
  intro hC H locs lsA hP hS hl
  show W p g.1 e R s m args below meth c H locs cells slots Z (F0 m pc lsA (.int (Int32.ofInt a) :: st.map (cv g)))
  have h0 : (-2147483648 : Int) ≤ 0 ∧ (0 : Int) ≤ 2147483647 := by omega
  have e1 : Int32.ofInt a = 0 ↔ a = 0 := io_eq ha h0
  have e2 : Int32.ofInt a < 0 ↔ a < 0 := io_lt ha h0
  have e3 : 0 < Int32.ofInt a ↔ 0 < a := io_lt h0 ha
  have e4 : Int32.ofInt a ≤ 0 ↔ a ≤ 0 := io_le ha h0
  have e5 : 0 ≤ Int32.ofInt a ↔ 0 ≤ a := io_le h0 ha
  exact lv_if_ge hC.1 hC.2.1 hd ht (fun q => kt (by first | exact e1.mp q | exact fun z => q (e1.mpr z) | exact e2.mp q | exact e3.mp q | exact e4.mp q | exact e5.mp q) hC H locs lsA hP hS hl) (fun q => kf (by first | exact e1.mp q | exact fun z => q (e1.mpr z) | exact Decidable.byContradiction (fun z => q (fun y => z (e1.mp y))) | exact Int.not_lt.mp (fun z => q (e2.mpr z)) | exact Int.not_lt.mp (fun z => q (e3.mpr z)) | exact Int.not_le.mp (fun z => q (e4.mpr z)) | exact Int.not_le.mp (fun z => q (e5.mpr z))) hC H locs lsA hP hS hl)
theorem S_icmp_gt {a b : Int} (ha : -2147483648 ≤ a ∧ a ≤ 2147483647 := by omega) (hb : -2147483648 ≤ b ∧ b ≤ 2147483647 := by omega) (d : DJ cc pc (.if_icmp .gt) tgt nx) (kt : b < a → SW g X own cc tgt ls st V) (kf : a ≤ b → SW g X own cc nx ls st V) : SW g X own cc pc ls (vi b :: vi a :: st) V := by
  obtain ⟨⟨p, e, R, s, m⟩, ⟨args, below, meth, c⟩, ⟨nL, cells, slots, Z⟩⟩ := X
  obtain ⟨off, hd, ht, rfl⟩ := d
  intro hC H locs lsA hP hS hl
  show W p g.1 e R s m args below meth c H locs cells slots Z (F0 m pc lsA (.int (Int32.ofInt b) :: .int (Int32.ofInt a) :: st.map (cv g)))
  have e1 := io_eq ha hb
  have e2 := io_lt ha hb
  have e3 := io_lt hb ha
  have e4 := io_le ha hb
  have e5 := io_le hb ha
  exact lv_icmp_gt hC.1 hC.2.1 hd ht (fun q => kt (by first | exact e1.mp q | exact fun z => q (e1.mpr z) | exact e2.mp q | exact e3.mp q | exact e4.mp q | exact e5.mp q) hC H locs lsA hP hS hl) (fun q => kf (by first | exact e1.mp q | exact fun z => q (e1.mpr z) | exact Decidable.byContradiction (fun z => q (fun y => z (e1.mp y))) | exact Int.not_lt.mp (fun z => q (e2.mpr z)) | exact Int.not_lt.mp (fun z => q (e3.mpr z)) | exact Int.not_le.mp (fun z => q (e4.mpr z)) | exact Int.not_le.mp (fun z => q (e5.mpr z))) hC H locs lsA hP hS hl)
theorem S_if_gt {a : Int} (ha : -2147483648 ≤ a ∧ a ≤ 2147483647 := by omega) (d : DJ cc pc (.ifCond .gt) tgt nx) (kt : 0 < a → SW g X own cc tgt ls st V) (kf : a ≤ 0 → SW g X own cc nx ls st V) : SW g X own cc pc ls (vi a :: st) V := by
  obtain ⟨⟨p, e, R, s, m⟩, ⟨args, below, meth, c⟩, ⟨nL, cells, slots, Z⟩⟩ := X
  obtain ⟨off, hd, ht, rfl⟩ := d
  intro hC H locs lsA hP hS hl
  show W p g.1 e R s m args below meth c H locs cells slots Z (F0 m pc lsA (.int (Int32.ofInt a) :: st.map (cv g)))
  have h0 : (-2147483648 : Int) ≤ 0 ∧ (0 : Int) ≤ 2147483647 := by omega
  have e1 : Int32.ofInt a = 0 ↔ a = 0 := io_eq ha h0
  have e2 : Int32.ofInt a < 0 ↔ a < 0 := io_lt ha h0
  have e3 : 0 < Int32.ofInt a ↔ 0 < a := io_lt h0 ha
  have e4 : Int32.ofInt a ≤ 0 ↔ a ≤ 0 := io_le ha h0
  have e5 : 0 ≤ Int32.ofInt a ↔ 0 ≤ a := io_le h0 ha
  exact lv_if_gt hC.1 hC.2.1 hd ht (fun q => kt (by first | exact e1.mp q | exact fun z => q (e1.mpr z) | exact e2.mp q | exact e3.mp q | exact e4.mp q | exact e5.mp q) hC H locs lsA hP hS hl) (fun q => kf (by first | exact e1.mp q | exact fun z => q (e1.mpr z) | exact Decidable.byContradiction (fun z => q (fun y => z (e1.mp y))) | exact Int.not_lt.mp (fun z => q (e2.mpr z)) | exact Int.not_lt.mp (fun z => q (e3.mpr z)) | exact Int.not_le.mp (fun z => q (e4.mpr z)) | exact Int.not_le.mp (fun z => q (e5.mpr z))) hC H locs lsA hP hS hl)
theorem S_icmp_le {a b : Int} (ha : -2147483648 ≤ a ∧ a ≤ 2147483647 := by omega) (hb : -2147483648 ≤ b ∧ b ≤ 2147483647 := by omega) (d : DJ cc pc (.if_icmp .le) tgt nx) (kt : a ≤ b → SW g X own cc tgt ls st V) (kf : b < a → SW g X own cc nx ls st V) : SW g X own cc pc ls (vi b :: vi a :: st) V := by
  obtain ⟨⟨p, e, R, s, m⟩, ⟨args, below, meth, c⟩, ⟨nL, cells, slots, Z⟩⟩ := X
  obtain ⟨off, hd, ht, rfl⟩ := d
  intro hC H locs lsA hP hS hl
  show W p g.1 e R s m args below meth c H locs cells slots Z (F0 m pc lsA (.int (Int32.ofInt b) :: .int (Int32.ofInt a) :: st.map (cv g)))
  have e1 := io_eq ha hb
  have e2 := io_lt ha hb
  have e3 := io_lt hb ha
  have e4 := io_le ha hb
  have e5 := io_le hb ha
  exact lv_icmp_le hC.1 hC.2.1 hd ht (fun q => kt (by first | exact e1.mp q | exact fun z => q (e1.mpr z) | exact e2.mp q | exact e3.mp q | exact e4.mp q | exact e5.mp q) hC H locs lsA hP hS hl) (fun q => kf (by first | exact e1.mp q | exact fun z => q (e1.mpr z) | exact Decidable.byContradiction (fun z => q (fun y => z (e1.mp y))) | exact Int.not_lt.mp (fun z => q (e2.mpr z)) | exact Int.not_lt.mp (fun z => q (e3.mpr z)) | exact Int.not_le.mp (fun z => q (e4.mpr z)) | exact Int.not_le.mp (fun z => q (e5.mpr z))) hC H locs lsA hP hS hl)
theorem S_if_le {a : Int} (ha : -2147483648 ≤ a ∧ a ≤ 2147483647 := by omega) (d : DJ cc pc (.ifCond .le) tgt nx) (kt : a ≤ 0 → SW g X own cc tgt ls st V) (kf : 0 < a → SW g X own cc nx ls st V) : SW g X own cc pc ls (vi a :: st) V := by
  obtain ⟨⟨p, e, R, s, m⟩, ⟨args, below, meth, c⟩, ⟨nL, cells, slots, Z⟩⟩ := X
  obtain ⟨off, hd, ht, rfl⟩ := d
  intro hC H locs lsA hP hS hl
  show W p g.1 e R s m args below meth c H locs cells slots Z (F0 m pc lsA (.int (Int32.ofInt a) :: st.map (cv g)))
  have h0 : (-2147483648 : Int) ≤ 0 ∧ (0 : Int) ≤ 2147483647 := by omega
  have e1 : Int32.ofInt a = 0 ↔ a = 0 := io_eq ha h0
  have e2 : Int32.ofInt a < 0 ↔ a < 0 := io_lt ha h0
  have e3 : 0 < Int32.ofInt a ↔ 0 < a := io_lt h0 ha
  have e4 : Int32.ofInt a ≤ 0 ↔ a ≤ 0 := io_le ha h0
  have e5 : 0 ≤ Int32.ofInt a ↔ 0 ≤ a := io_le h0 ha
  exact lv_if_le hC.1 hC.2.1 hd ht (fun q => kt (by first | exact e1.mp q | exact fun z => q (e1.mpr z) | exact e2.mp q | exact e3.mp q | exact e4.mp q | exact e5.mp q) hC H locs lsA hP hS hl) (fun q => kf (by first | exact e1.mp q | exact fun z => q (e1.mpr z) | exact Decidable.byContradiction (fun z => q (fun y => z (e1.mp y))) | exact Int.not_lt.mp (fun z => q (e2.mpr z)) | exact Int.not_lt.mp (fun z => q (e3.mpr z)) | exact Int.not_le.mp (fun z => q (e4.mpr z)) | exact Int.not_le.mp (fun z => q (e5.mpr z))) hC H locs lsA hP hS hl)
theorem S_tabIn {a lo hi dflt off : Int} {offs : Array Int} {len : Nat} (d : decode cc pc = .ok (.tableswitch dflt lo hi offs, len)) (ha : lo ≤ a ∧ a ≤ hi) (hr : -2147483648 ≤ a ∧ a ≤ 2147483647 := by omega) (ho : offs[(a - lo).toNat]? = some off) (ht : (pc : Int) + off = (tgt : Int)) (k : SW g X own cc tgt ls st V) : SW g X own cc pc ls (vi a :: st) V := by
  obtain ⟨⟨p, e, R, s, m⟩, ⟨args, below, meth, c⟩, ⟨nL, cells, slots, Z⟩⟩ := X
  intro hC H locs lsA hP hS hl
  have e0 := io_toInt hr
  show W p g.1 e R s m args below meth c H locs cells slots Z (F0 m pc lsA (.int (Int32.ofInt a) :: st.map (cv g)))
  exact lv_tableIn hC.1 hC.2.1 d (by rw [e0]; omega) (by rw [e0]; omega) (by rw [e0]; exact ho) ht (k hC H locs lsA hP hS hl)
theorem S_tabOut {a lo hi dflt : Int} {offs : Array Int} {len : Nat} (d : decode cc pc = .ok (.tableswitch dflt lo hi offs, len)) (ha : a < lo ∨ hi < a) (hr : -2147483648 ≤ a ∧ a ≤ 2147483647 := by omega) (ht : (pc : Int) + dflt = (tgt : Int)) (k : SW g X own cc tgt ls st V) : SW g X own cc pc ls (vi a :: st) V := by
  obtain ⟨⟨p, e, R, s, m⟩, ⟨args, below, meth, c⟩, ⟨nL, cells, slots, Z⟩⟩ := X
  intro hC H locs lsA hP hS hl
  have e0 := io_toInt hr
  show W p g.1 e R s m args below meth c H locs cells slots Z (F0 m pc lsA (.int (Int32.ofInt a) :: st.map (cv g)))
  exact lv_tableOut hC.1 hC.2.1 d (by rw [e0]; exact ha) ht (k hC H locs lsA hP hS hl)
theorem S_lookup {a dflt off : Int} {ps : Array (Int × Int)} {len : Nat} (d : decode cc pc = .ok (.lookupswitch dflt ps, len)) (hp : (ps.toList.zip (ps.toList.drop 1)).all (fun (a, next) => a.1 < next.1) = true) (hr : -2147483648 ≤ a ∧ a ≤ 2147483647 := by omega) (ho : Op.lookupswitch.offset ps.toList dflt a = off) (ht : (pc : Int) + off = (tgt : Int)) (k : SW g X own cc tgt ls st V) : SW g X own cc pc ls (vi a :: st) V := by
  obtain ⟨⟨p, e, R, s, m⟩, ⟨args, below, meth, c⟩, ⟨nL, cells, slots, Z⟩⟩ := X
  intro hC H locs lsA hP hS hl
  have e0 := io_toInt hr
  show W p g.1 e R s m args below meth c H locs cells slots Z (F0 m pc lsA (.int (Int32.ofInt a) :: st.map (cv g)))
  exact lv_lookup hC.1 hC.2.1 d hp (by rw [e0]; exact ho) ht (k hC H locs lsA hP hS hl)
theorem S_iload {i : Nat} {x : Int} (d : DI cc pc (.iload i) 2 nx) (h : ls[i]? = some (some (vi x))) (k : SW g X own cc nx ls ((vi x) :: st) V) : SW g X own cc pc ls st V := by
  obtain ⟨⟨p, e, R, s, m⟩, ⟨args, below, meth, c⟩, ⟨nL, cells, slots, Z⟩⟩ := X
  obtain ⟨hd, rfl⟩ := d
  intro hC H locs lsA hP hS hl
  have hx := hC.1
  have hb := hC.2.1
  exact lv_iload hx hb hd (hl.2.2.1 i _ h) (k hC H locs lsA hP hS hl)
theorem S_iload_n {i : Nat} {q : Fin 4} {x : Int} (d : DI cc pc (.iload_n q) 1 nx) (hq : (q : Nat) = i) (h : ls[i]? = some (some (vi x))) (k : SW g X own cc nx ls ((vi x) :: st) V) : SW g X own cc pc ls st V := by
  obtain ⟨⟨p, e, R, s, m⟩, ⟨args, below, meth, c⟩, ⟨nL, cells, slots, Z⟩⟩ := X
  obtain ⟨hd, rfl⟩ := d
  intro hC H locs lsA hP hS hl
  have hx := hC.1
  have hb := hC.2.1
  exact lv_iload_n hx hb hd hq (hl.2.2.1 i _ h) (k hC H locs lsA hP hS hl)
theorem S_aload {i : Nat} {x : Nat} (d : DI cc pc (.aload i) 2 nx) (h : ls[i]? = some (some (vr x))) (k : SW g X own cc nx ls ((vr x) :: st) V) : SW g X own cc pc ls st V := by
  obtain ⟨⟨p, e, R, s, m⟩, ⟨args, below, meth, c⟩, ⟨nL, cells, slots, Z⟩⟩ := X
  obtain ⟨hd, rfl⟩ := d
  intro hC H locs lsA hP hS hl
  have hx := hC.1
  have hb := hC.2.1
  exact lv_aload hx hb hd (hl.2.2.1 i _ h) (k hC H locs lsA hP hS hl)
theorem S_aload_n {i : Nat} {q : Fin 4} {x : Nat} (d : DI cc pc (.aload_n q) 1 nx) (hq : (q : Nat) = i) (h : ls[i]? = some (some (vr x))) (k : SW g X own cc nx ls ((vr x) :: st) V) : SW g X own cc pc ls st V := by
  obtain ⟨⟨p, e, R, s, m⟩, ⟨args, below, meth, c⟩, ⟨nL, cells, slots, Z⟩⟩ := X
  obtain ⟨hd, rfl⟩ := d
  intro hC H locs lsA hP hS hl
  have hx := hC.1
  have hb := hC.2.1
  exact lv_aload_n hx hb hd hq (hl.2.2.1 i _ h) (k hC H locs lsA hP hS hl)
theorem S_lload {i : Nat} {x : Int} (d : DI cc pc (.lload i) 2 nx) (h : ls[i]? = some (some (vl x))) (k : SW g X own cc nx ls ((vl x) :: st) V) : SW g X own cc pc ls st V := by
  obtain ⟨⟨p, e, R, s, m⟩, ⟨args, below, meth, c⟩, ⟨nL, cells, slots, Z⟩⟩ := X
  obtain ⟨hd, rfl⟩ := d
  intro hC H locs lsA hP hS hl
  have hx := hC.1
  have hb := hC.2.1
  exact lv_lload hx hb hd (hl.2.2.1 i _ h) (k hC H locs lsA hP hS hl)
theorem S_lload_n {i : Nat} {q : Fin 4} {x : Int} (d : DI cc pc (.lload_n q) 1 nx) (hq : (q : Nat) = i) (h : ls[i]? = some (some (vl x))) (k : SW g X own cc nx ls ((vl x) :: st) V) : SW g X own cc pc ls st V := by
  obtain ⟨⟨p, e, R, s, m⟩, ⟨args, below, meth, c⟩, ⟨nL, cells, slots, Z⟩⟩ := X
  obtain ⟨hd, rfl⟩ := d
  intro hC H locs lsA hP hS hl
  have hx := hC.1
  have hb := hC.2.1
  exact lv_lload_n hx hb hd hq (hl.2.2.1 i _ h) (k hC H locs lsA hP hS hl)
/-- the locals as a list of pairs -/
def alA (g : GC) (ls : List (Option AV)) : List (Nat × Value) := (List.range ls.length).filterMap (fun i => match ls[i]? with
  | some (some v) => some (i, cv g v)
  | _ => none)
theorem alA_in {g : GC} {ls : List (Option AV)} {i : Nat} {v : AV} (h : ls[i]? = some (some v)) : (i, cv g v) ∈ alA g ls := by
  refine List.mem_filterMap.mpr ⟨i, List.mem_range.mpr (List.getElem?_eq_some_iff.mp h).1, ?_⟩
  simp only [h]
theorem alA_of {g : GC} {ls : List (Option AV)} {q : Nat × Value} (h : q ∈ alA g ls) : ∃ v, ls[q.1]? = some (some v) ∧ q.2 = cv g v := by
  obtain ⟨i, -, hi⟩ := List.mem_filterMap.mp h
  cases hv : ls[i]? with
  | none => simp [hv] at hi
  | some o =>
    cases o with
    | none => simp [hv] at hi
    | some v =>
      simp only [hv] at hi
      cases hi
      exact ⟨v, hv, rfl⟩
theorem lok_has {g : GC} {lsA : Array Slot} {nL : Nat} {ls : List (Option AV)} (h : lok g lsA nL ls) : lv_has lsA nL (alA g ls) := ⟨h.1, h.2.1, fun q hq => by
  obtain ⟨v, h1, h2⟩ := alA_of hq
  rw [h2]
  exact h.2.2.1 _ v h1⟩
theorem nl_cat {v : AV} (h : nl (some (some v))) : ¬ (cv g v).category = 2 := by rw [cv_cat1 h]; decide
theorem lok_st1 {lsA lsB : Array Slot} {nL i : Nat} {v : AV} (h : lv_has lsB nL ((i, cv g v) :: (alA g ls).filter (fun q => !(q.1 == i) && !(q.1 + 1 == i && q.2.category == 2)))) (hi : i < ls.length) (hn : 0 < i → nl ls[i - 1]?) (hlen : ls.length ≤ nL) : lok g lsB nL (ls.set i (some v)) := by
  refine ⟨h.1, h.2.1, fun j w hj => ?_, by rw [List.length_set]; exact hlen⟩
  by_cases e : j = i
  · subst e
    rw [List.getElem?_set, if_pos rfl, if_pos hi] at hj
    cases hj
    exact h.2.2 _ List.mem_cons_self
  · rw [List.getElem?_set, if_neg (Ne.symm e)] at hj
    refine h.2.2 (j, cv g w) (List.mem_cons_of_mem _ (List.mem_filter.mpr ⟨alA_in hj, ?_⟩))
    simp only [Bool.and_eq_true, Bool.not_eq_true', beq_eq_false_iff_ne, ne_eq, Bool.and_eq_false_iff]
    refine ⟨e, ?_⟩
    by_cases e2 : j + 1 = i
    · refine Or.inr (nl_cat ?_)
      have h3 := hn (by omega)
      have : i - 1 = j := by omega
      rw [this, hj] at h3
      exact h3
    · exact Or.inl e2
theorem lok_st2 {lsA lsB : Array Slot} {nL i : Nat} {v : AV} (h : lv_has lsB nL ((i, cv g v) :: (alA g ls).filter (fun q => !(q.1 == i) && (!(q.1 == i + 1) && !(q.1 + 1 == i && q.2.category == 2))))) (hi : i + 1 < ls.length) (hn : 0 < i → nl ls[i - 1]?) (hlen : ls.length ≤ nL) : lok g lsB nL ((ls.set i (some v)).set (i + 1) none) := by
  refine ⟨h.1, h.2.1, fun j w hj => ?_, by rw [List.length_set, List.length_set]; exact hlen⟩
  by_cases e1 : j = i + 1
  · subst e1
    rw [List.getElem?_set, if_pos rfl] at hj
    split at hj <;> cases hj
  rw [List.getElem?_set, if_neg (Ne.symm e1)] at hj
  by_cases e : j = i
  · subst e
    rw [List.getElem?_set, if_pos rfl, if_pos (by omega)] at hj
    cases hj
    exact h.2.2 _ List.mem_cons_self
  · rw [List.getElem?_set, if_neg (Ne.symm e)] at hj
    refine h.2.2 (j, cv g w) (List.mem_cons_of_mem _ (List.mem_filter.mpr ⟨alA_in hj, ?_⟩))
    simp only [Bool.and_eq_true, Bool.not_eq_true', beq_eq_false_iff_ne, ne_eq, Bool.and_eq_false_iff]
    refine ⟨e, e1, ?_⟩
    by_cases e2 : j + 1 = i
    · refine Or.inr (nl_cat ?_)
      have h3 := hn (by omega)
      have : i - 1 = j := by omega
      rw [this, hj] at h3
      exact h3
    · exact Or.inl e2
theorem lok_nl {lsA : Array Slot} {nL : Nat} (h : lok g lsA nL ls) {i : Nat} {v : AV} (hi : ls[i]? = some (some v)) : i < nL := by
  have := lv_lt (h.2.2.1 i v hi)
  have := h.1
  omega
theorem S_istore {i : Nat}  {x : Int} (d : DI cc pc (.istore i) 2 nx)  (hi : i < ls.length) (hn : 0 < i → nl ls[i - 1]?) (k : SW g X own cc nx (ls.set i (some (vi x))) st V) : SW g X own cc pc ls ((vi x) :: st) V := by
  obtain ⟨⟨p, e, R, s, m⟩, ⟨args, below, meth, c⟩, ⟨nL, cells, slots, Z⟩⟩ := X
  obtain ⟨hd, rfl⟩ := d
  intro hC H locs lsA hP hS hl
  have hx := hC.1
  have hb := hC.2.1
  exact lv_istore hx hb hd  (lok_has hl) (Nat.lt_of_lt_of_le hi hl.2.2.2) rfl (fun ls2 h2 => k hC H locs ls2 hP hS (lok_st1 (lsA := lsA) h2 hi hn hl.2.2.2))
theorem S_istore_n {i : Nat} {q : Fin 4} {x : Int} (d : DI cc pc (.istore_n q) 1 nx) (hq : (q : Nat) = i) (hi : i < ls.length) (hn : 0 < i → nl ls[i - 1]?) (k : SW g X own cc nx (ls.set i (some (vi x))) st V) : SW g X own cc pc ls ((vi x) :: st) V := by
  obtain ⟨⟨p, e, R, s, m⟩, ⟨args, below, meth, c⟩, ⟨nL, cells, slots, Z⟩⟩ := X
  obtain ⟨hd, rfl⟩ := d
  intro hC H locs lsA hP hS hl
  have hx := hC.1
  have hb := hC.2.1
  exact lv_istore_n hx hb hd hq (lok_has hl) (Nat.lt_of_lt_of_le hi hl.2.2.2) rfl (fun ls2 h2 => k hC H locs ls2 hP hS (lok_st1 (lsA := lsA) h2 hi hn hl.2.2.2))
theorem S_astore {i : Nat}  {x : Nat} (d : DI cc pc (.astore i) 2 nx)  (hi : i < ls.length) (hn : 0 < i → nl ls[i - 1]?) (k : SW g X own cc nx (ls.set i (some (vr x))) st V) : SW g X own cc pc ls ((vr x) :: st) V := by
  obtain ⟨⟨p, e, R, s, m⟩, ⟨args, below, meth, c⟩, ⟨nL, cells, slots, Z⟩⟩ := X
  obtain ⟨hd, rfl⟩ := d
  intro hC H locs lsA hP hS hl
  have hx := hC.1
  have hb := hC.2.1
  exact lv_astore hx hb hd  (lok_has hl) (Nat.lt_of_lt_of_le hi hl.2.2.2) rfl (fun ls2 h2 => k hC H locs ls2 hP hS (lok_st1 (lsA := lsA) h2 hi hn hl.2.2.2))
theorem S_astore_n {i : Nat} {q : Fin 4} {x : Nat} (d : DI cc pc (.astore_n q) 1 nx) (hq : (q : Nat) = i) (hi : i < ls.length) (hn : 0 < i → nl ls[i - 1]?) (k : SW g X own cc nx (ls.set i (some (vr x))) st V) : SW g X own cc pc ls ((vr x) :: st) V := by
  obtain ⟨⟨p, e, R, s, m⟩, ⟨args, below, meth, c⟩, ⟨nL, cells, slots, Z⟩⟩ := X
  obtain ⟨hd, rfl⟩ := d
  intro hC H locs lsA hP hS hl
  have hx := hC.1
  have hb := hC.2.1
  exact lv_astore_n hx hb hd hq (lok_has hl) (Nat.lt_of_lt_of_le hi hl.2.2.2) rfl (fun ls2 h2 => k hC H locs ls2 hP hS (lok_st1 (lsA := lsA) h2 hi hn hl.2.2.2))
theorem S_lstore {i : Nat}  {x : Int} (d : DI cc pc (.lstore i) 2 nx)  (hi : i + 1 < ls.length) (hn : 0 < i → nl ls[i - 1]?) (k : SW g X own cc nx ((ls.set i (some (vl x))).set (i + 1) none) st V) : SW g X own cc pc ls (vl x :: st) V := by
  obtain ⟨⟨p, e, R, s, m⟩, ⟨args, below, meth, c⟩, ⟨nL, cells, slots, Z⟩⟩ := X
  obtain ⟨hd, rfl⟩ := d
  intro hC H locs lsA hP hS hl
  have hx := hC.1
  have hb := hC.2.1
  exact lv_lstore hx hb hd  (lok_has hl) (Nat.lt_of_lt_of_le hi hl.2.2.2) rfl (fun ls2 h2 => k hC H locs ls2 hP hS (lok_st2 (lsA := lsA) h2 hi hn hl.2.2.2))
theorem S_lstore_n {i : Nat} {q : Fin 4} {x : Int} (d : DI cc pc (.lstore_n q) 1 nx) (hq : (q : Nat) = i) (hi : i + 1 < ls.length) (hn : 0 < i → nl ls[i - 1]?) (k : SW g X own cc nx ((ls.set i (some (vl x))).set (i + 1) none) st V) : SW g X own cc pc ls (vl x :: st) V := by
  obtain ⟨⟨p, e, R, s, m⟩, ⟨args, below, meth, c⟩, ⟨nL, cells, slots, Z⟩⟩ := X
  obtain ⟨hd, rfl⟩ := d
  intro hC H locs lsA hP hS hl
  have hx := hC.1
  have hb := hC.2.1
  exact lv_lstore_n hx hb hd hq (lok_has hl) (Nat.lt_of_lt_of_le hi hl.2.2.2) rfl (fun ls2 h2 => k hC H locs ls2 hP hS (lok_st2 (lsA := lsA) h2 hi hn hl.2.2.2))
theorem S_iinc {i : Nat} {n x : Int} (d : DI cc pc (.iinc i n) 3 nx) (h : ls[i]? = some (some (vi x))) (hn : 0 < i → nl ls[i - 1]?) (k : SW g X own cc nx (ls.set i (some (vi (x + n)))) st V) : SW g X own cc pc ls st V := by
  obtain ⟨⟨p, e, R, s, m⟩, ⟨args, below, meth, c⟩, ⟨nL, cells, slots, Z⟩⟩ := X
  obtain ⟨hd, rfl⟩ := d
  intro hC H locs lsA hP hS hl
  have hx := hC.1
  have hb := hC.2.1
  have hm := alA_in (g := g) h
  obtain ⟨k0, hk0⟩ := List.getElem?_of_mem hm
  exact lv_iinc (v := Int32.ofInt (x + n)) hx hb hd (lok_has hl) hk0 (io_add x n) (lok_nl hl h) rfl (fun ls2 h2 => k hC H locs ls2 hP hS (lok_st1 (lsA := lsA) (v := vi (x + n)) h2 (List.getElem?_eq_some_iff.mp h).1 hn hl.2.2.2))
end RU
end
section
set_option maxRecDepth 20000 in
theorem ly_X0 : ∀ w ∈ u_ws RX0 TX0 5, w ∈ Gs := by
  have h : u_ws RX0 TX0 5 = ([172, 174, 176, 178, 180] : List Nat).filterMap (fun i => tables_1[i]?) := by decide +kernel
  have h2 : (u_ws RX0 TX0 5).all goodWord = true := by decide +kernel
  intro w hw
  have h3 := List.all_eq_true.mp h2 w hw
  rw [h] at hw
  obtain ⟨i, -, hi⟩ := List.mem_filterMap.mp hw
  exact Gs_in hi h3
set_option maxRecDepth 20000 in
theorem ly_X1 : ∀ w ∈ u_ws RX1 TX1 9, w ∈ Gs := by
  have h : u_ws RX1 TX1 9 = ([120, 122, 124, 126, 128, 130, 132, 134, 136] : List Nat).filterMap (fun i => tables_1[i]?) := by decide +kernel
  have h2 : (u_ws RX1 TX1 9).all goodWord = true := by decide +kernel
  intro w hw
  have h3 := List.all_eq_true.mp h2 w hw
  rw [h] at hw
  obtain ⟨i, -, hi⟩ := List.mem_filterMap.mp hw
  exact Gs_in hi h3
set_option maxRecDepth 20000 in
theorem ly_X2 : ∀ w ∈ u_ws RX2 TX2 9, w ∈ Gs := by
  have h : u_ws RX2 TX2 9 = ([83, 85, 87, 89, 91, 93, 95, 97, 99] : List Nat).filterMap (fun i => tables_1[i]?) := by decide +kernel
  have h2 : (u_ws RX2 TX2 9).all goodWord = true := by decide +kernel
  intro w hw
  have h3 := List.all_eq_true.mp h2 w hw
  rw [h] at hw
  obtain ⟨i, -, hi⟩ := List.mem_filterMap.mp hw
  exact Gs_in hi h3
set_option maxRecDepth 20000 in
theorem ly_X3 : ∀ w ∈ u_ws RX3 TX3 7, w ∈ Gs := by
  have h : u_ws RX3 TX3 7 = ([42, 44, 46, 48, 50, 52, 54] : List Nat).filterMap (fun i => tables_1[i]?) := by decide +kernel
  have h2 : (u_ws RX3 TX3 7).all goodWord = true := by decide +kernel
  intro w hw
  have h3 := List.all_eq_true.mp h2 w hw
  rw [h] at hw
  obtain ⟨i, -, hi⟩ := List.mem_filterMap.mp hw
  exact Gs_in hi h3
set_option maxRecDepth 20000 in
theorem ly_X4 : ∀ w ∈ u_ws RX4 TX4 3, w ∈ Gs := by
  have h : u_ws RX4 TX4 3 = ([151, 153, 155] : List Nat).filterMap (fun i => tables_1[i]?) := by decide +kernel
  have h2 : (u_ws RX4 TX4 3).all goodWord = true := by decide +kernel
  intro w hw
  have h3 := List.all_eq_true.mp h2 w hw
  rw [h] at hw
  obtain ⟨i, -, hi⟩ := List.mem_filterMap.mp hw
  exact Gs_in hi h3
set_option maxRecDepth 20000 in
theorem ly_X5 : ∀ w ∈ u_ws RX5 TX5 3, w ∈ Gs := by
  have h : u_ws RX5 TX5 3 = ([196, 198, 200] : List Nat).filterMap (fun i => tables_1[i]?) := by decide +kernel
  have h2 : (u_ws RX5 TX5 3).all goodWord = true := by decide +kernel
  intro w hw
  have h3 := List.all_eq_true.mp h2 w hw
  rw [h] at hw
  obtain ⟨i, -, hi⟩ := List.mem_filterMap.mp hw
  exact Gs_in hi h3
set_option maxRecDepth 20000 in
theorem ly_X6 : ∀ w ∈ u_ws RX6 TX6 12, w ∈ Gs := by
  have h : u_ws RX6 TX6 12 = ([216, 218, 220, 222, 224, 226, 228, 230, 232, 234, 236, 238] : List Nat).filterMap (fun i => tables_1[i]?) := by decide +kernel
  have h2 : (u_ws RX6 TX6 12).all goodWord = true := by decide +kernel
  intro w hw
  have h3 := List.all_eq_true.mp h2 w hw
  rw [h] at hw
  obtain ⟨i, -, hi⟩ := List.mem_filterMap.mp hw
  exact Gs_in hi h3
set_option maxRecDepth 20000 in
theorem ly_X7 : ∀ w ∈ u_ws RX7 TX7 64, w ∈ Gs := by
  have h : u_ws RX7 TX7 64 = ([866, 868, 870, 872, 874, 876, 878, 880, 882, 884, 886, 888, 890, 892, 894, 896, 898, 900, 902, 904, 906, 908, 910, 912, 914, 916, 918, 920, 922, 924, 926, 928, 930, 932, 934, 936, 938, 940, 942, 944, 946, 948, 950, 952, 954, 956, 958, 960, 962, 964, 966, 968, 970, 972, 974, 976, 978, 980, 982, 984, 986, 988, 990, 992] : List Nat).filterMap (fun i => tables_1[i]?) := by decide +kernel
  have h2 : (u_ws RX7 TX7 64).all goodWord = true := by decide +kernel
  intro w hw
  have h3 := List.all_eq_true.mp h2 w hw
  rw [h] at hw
  obtain ⟨i, -, hi⟩ := List.mem_filterMap.mp hw
  exact Gs_in hi h3
theorem ly_all {ci : Nat} {q : vw_C} (h : qcl[ci]? = some q) : (∀ w ∈ u_ws q.1 q.2.1 q.2.2, w ∈ Gs) ∧ (∀ a, a < q.2.2 → ∀ b, b < q.2.2 → a ≠ b → (q.2.1 a).2.1 ≠ (q.2.1 b).2.1) ∧ ∃ ty : Nat → FieldType, ∀ k, k < q.2.2 → parseFieldDescriptor (q.2.1 k).2.2.1 = some (ty k) := by
  match ci, h with
  | 0, h => cases h; exact ⟨ly_X0, nmX0, tyX0, tyX0_ok⟩
  | 1, h => cases h; exact ⟨ly_X1, nmX1, tyX1, tyX1_ok⟩
  | 2, h => cases h; exact ⟨ly_X2, nmX2, tyX2, tyX2_ok⟩
  | 3, h => cases h; exact ⟨ly_X3, nmX3, tyX3, tyX3_ok⟩
  | 4, h => cases h; exact ⟨ly_X4, nmX4, tyX4, tyX4_ok⟩
  | 5, h => cases h; exact ⟨ly_X5, nmX5, tyX5, tyX5_ok⟩
  | 6, h => cases h; exact ⟨ly_X6, nmX6, tyX6, tyX6_ok⟩
  | 7, h => cases h; exact ⟨ly_X7, nmX7, tyX7, tyX7_ok⟩
  | n + 8, h => simp [qcl] at h
def fk (k j : Nat) : Option (Nat × Nat × Nat) := match sh k with
  | .inl o => o.2[j]?.map (fun q => (o.1, q))
  | .inr _ => none
def ak (k : Nat) : Option (Nat × Nat) := match sh k with
  | .inl _ => none
  | .inr a => some a
def ok (k : Nat) : Option Nat := match sh k with
  | .inl o => if k < qN then some o.1 else none
  | .inr _ => none
theorem shT_len : shT.length = qN := by decide +kernel
theorem sh_big {k : Nat} (h : ¬ k < qN) : sh k = .inl (0, []) := by
  unfold sh
  rw [List.getD_eq_getElem?_getD, List.getElem?_eq_none (by rw [shT_len]; omega)]
  rfl
theorem fk_lt {k j : Nat} {x : Nat × Nat × Nat} (h : fk k j = some x) : k < qN := by
  by_cases hk : k < qN
  · exact hk
  · unfold fk at h
    rw [sh_big hk] at h
    simp at h
theorem ak_lt {k : Nat} {x : Nat × Nat} (h : ak k = some x) : k < qN := by
  by_cases hk : k < qN
  · exact hk
  · unfold ak at h
    rw [sh_big hk] at h
    simp at h
theorem ok_lt {k : Nat} {x : Nat} (h : ok k = some x) : k < qN := by
  unfold ok at h
  split at h
  · by_cases hk : k < qN
    · exact hk
    · rw [if_neg hk] at h; cases h
  · cases h
theorem ak_small {k : Nat} {x : Nat × Nat} (h : ak k = some x) : x.2 < 2147483648 ∧ x.1 < 6 := by
  have hk := ak_lt h
  have h1 : ∀ k, k < qN → ∀ a, sh k = .inr a → a.2 < 2147483648 ∧ a.1 < 6 := by
    have h2 : ((List.range qN).all (fun k => match sh k with | .inl _ => true | .inr a => decide (a.2 < 2147483648 ∧ a.1 < 6))) = true := by decide +kernel
    intro k hk a ha
    have h3 := List.all_eq_true.mp h2 k (List.mem_range.mpr hk)
    rw [ha] at h3
    simpa using h3
  unfold ak at h
  split at h
  · cases h
  · rename_i a ha
    cases h
    exact h1 k hk _ ha
def FL (own : String) (idx ci j : Nat) (z : Int) : Prop := (j : Int) = z ∧ ∃ q : vw_C, qcl[ci]? = some q ∧ j < q.2.2 ∧ (Cond.fieldLink own idx (q.2.1 j).1 (q.2.1 j).2.1 (q.2.1 j).2.2.1 ∈ Gs ∨ ∃ host, Cond.fieldLinkNest own idx (q.2.1 j).1 (q.2.1 j).2.1 (q.2.1 j).2.2.1 host ∈ Ns)
def FT (ci j : Nat) (ty : FieldType) : Prop := ∃ q : vw_C, qcl[ci]? = some q ∧ (q.2.1 j).2.2.2 = false ∧ parseFieldDescriptor (q.2.1 j).2.2.1 = some ty
theorem ent_o {g : GC} {V : MM} {k : Nat} {o : Nat × List (Nat × Nat)} (h : sh k = .inl o) : ent g V k = .inr (o.1, o.2.mapIdx (fun j q => fval g q (V k (j : Int)))) := by
  unfold ent
  rw [h]
  rfl
theorem ent_a {g : GC} {V : MM} {k : Nat} {a : Nat × Nat} (h : ak k = some a) : sh k = .inr a ∧ ent g V k = .inl (g.2.2.2.2 a.1, a.2, cont g a.1 (V k)) := by
  unfold ak at h
  split at h
  · cases h
  · rename_i b hb
    cases h
    refine ⟨hb, ?_⟩
    unfold ent
    rw [hb]
    rfl
theorem fk_o {k j : Nat} {x : Nat × Nat × Nat} (h : fk k j = some x) : ∃ o, sh k = .inl o ∧ o.1 = x.1 ∧ o.2[j]? = some x.2 := by
  unfold fk at h
  split at h
  · rename_i o ho
    cases hj : o.2[j]? with
    | none => rw [hj] at h; cases h
    | some q =>
      rw [hj] at h
      cases h
      exact ⟨o, ho, rfl, hj⟩
  · cases h
theorem ml_set (g : GC) (l : List (Nat × Nat)) (row : Int → Int) {j : Nat} {q : Nat × Nat} (x : Int) (hj : l[j]? = some q) : (l.mapIdx (fun i q => fval g q (row (i : Int)))).set j (fval g q x) = l.mapIdx (fun i q => fval g q (ur row (j : Int) x (i : Int))) := by
  apply List.ext_getElem?
  intro i
  rw [List.getElem?_set]
  by_cases e : j = i
  · subst e
    have hl : j < l.length := (List.getElem?_eq_some_iff.mp hj).1
    rw [if_pos rfl, if_pos (by rw [List.length_mapIdx]; exact hl), List.getElem?_mapIdx, hj]
    simp [ur]
  · rw [if_neg e, List.getElem?_mapIdx, List.getElem?_mapIdx]
    cases l[i]? with
    | none => rfl
    | some q => 
      have : ¬ (i : Int) = (j : Int) := by omega
      simp [ur, this]
section RM
variable {g : GC} {X : CX} {own : String} {cc : ByteArray} {pc nx tgt : Nat} {ls : List (Option AV)} {st : List AV} {V : MM}
/-- any field -/
theorem S_get {idx ci j k : Nat} {z : Int} {q : Nat × Nat} (d : DI cc pc (.getfield idx) 3 nx) (hf : FL own idx ci j z) (hk : fk k j = some (ci, q)) {v : AV} (hv : fval g q (V k z) = cv g v) (K : SW g X own cc nx ls (v :: st) V) : SW g X own cc pc ls (vr k :: st) V := by
  obtain ⟨⟨p, e, R, s, m⟩, ⟨args, below, meth, c⟩, ⟨nL, cells, slots, Z⟩⟩ := X
  obtain ⟨hd, rfl⟩ := d
  intro hC H locs lsA hP hS hl
  obtain ⟨hx, hb, hml, hown, hts, hW, hR⟩ := id hC
  have hkl := fk_lt hk
  obtain ⟨o, ho1, ho2, ho3⟩ := fk_o hk
  obtain ⟨rfl, ⟨C, T, N⟩, hq, hj, hlink⟩ := hf
  obtain ⟨hin, -, -⟩ := ly_all hq
  have he : (wl g V)[k]? = some (g.2.2.1 k, .inr (ci, o.2.mapIdx (fun j q => fval g q (V k (j : Int))))) := by
    rw [wl_at g V hkl, ent_o ho1, ho2]
  have hv2 : (o.2.mapIdx (fun j q => fval g q (V k (j : Int))))[j]? = some (cv g v) := by
    rw [List.getElem?_mapIdx, ho3, ← hv]
    rfl
  rcases hlink with hl1 | ⟨host, hl1⟩
  · exact va_get hx hb hts hin hown hW.2.1 hP k he hq j hj (hts _ hl1) (fun _ h => h) hv2 hd (K hC H locs lsA hP hS hl)
  · exact va_getN hx hb hts hin hown hW.2.1 hP k he hq j hj (va_Nw.use rfl (hW.2.2.2.2 _ hl1)) (fun _ h => h) hv2 hd (K hC H locs lsA hP hS hl)
theorem S_getI {idx ci j k t : Nat} {z : Int} (d : DI cc pc (.getfield idx) 3 nx) (hf : FL own idx ci j z) (hk : fk k j = some (ci, 0, t)) (K : SW g X own cc nx ls (vi (V k z) :: st) V) : SW g X own cc pc ls (vr k :: st) V := S_get d hf hk rfl K
theorem S_getR {idx ci j k t : Nat} {z : Int} (d : DI cc pc (.getfield idx) 3 nx) (hf : FL own idx ci j z) (hk : fk k j = some (ci, 1, t)) (K : SW g X own cc nx ls (vr t :: st) V) : SW g X own cc pc ls (vr k :: st) V := S_get d hf hk rfl K
theorem S_getH {idx ci j k t : Nat} {z : Int} (d : DI cc pc (.getfield idx) 3 nx) (hf : FL own idx ci j z) (hk : fk k j = some (ci, 2, t)) (K : SW g X own cc nx ls (vr (V k z).toNat :: st) V) : SW g X own cc pc ls (vr k :: st) V := S_get d hf hk rfl K
theorem S_put {idx ci j k : Nat} {z : Int} {q : Nat × Nat} {ty : FieldType} {v : AV} {x : Int} (d : DI cc pc (.putfield idx) 3 nx) (hf : FL own idx ci j z) (hk : fk k j = some (ci, q)) (hty : FT ci j ty) (hv : fval g q x = cv g v) (hn : narrow ty (cv g v) = cv g v) (hfit : fits ty (cv g v) = true) (K : SW g X own cc nx ls st (upR V k (ur (V k) z x))) : SW g X own cc pc ls (v :: vr k :: st) V := by
  obtain ⟨⟨p, e, R, s, m⟩, ⟨args, below, meth, c⟩, ⟨nL, cells, slots, Z⟩⟩ := X
  obtain ⟨hd, rfl⟩ := d
  intro hC H locs lsA hP hS hl
  obtain ⟨hx, hb, hml, hown, hts, hW, hR⟩ := id hC
  have hkl := fk_lt hk
  obtain ⟨o, ho1, ho2, ho3⟩ := fk_o hk
  obtain ⟨rfl, ⟨C, T, N⟩, hq, hj, hlink⟩ := hf
  obtain ⟨hin, hnm, ty0, hty0⟩ := ly_all hq
  obtain ⟨q2, hq2, hfin, hd2⟩ := hty
  cases hq.symm.trans hq2
  have he : (wl g V)[k]? = some (g.2.2.1 k, .inr (ci, o.2.mapIdx (fun j q => fval g q (V k (j : Int))))) := by
    rw [wl_at g V hkl, ent_o ho1, ho2]
  have hlen : j < (o.2.mapIdx (fun j q => fval g q (V k (j : Int)))).length := by
    rw [List.length_mapIdx]
    exact (List.getElem?_eq_some_iff.mp ho3).1
  have hset : (wl g V).set k (g.2.2.1 k, .inr (ci, (o.2.mapIdx (fun j q => fval g q (V k (j : Int)))).set j (cv g v))) = wl g (upR V k (ur (V k) (j : Int) x)) := by
    rw [← wl_set g V hkl (ur (V k) (j : Int) x), ho1, ← hv, ml_set g o.2 (V k) x ho3, ← show o.1 = ci from ho2]
    rfl
  rcases hlink with hl1 | ⟨host, hl1⟩
  · exact va_put hx hb hts hin ty0 hty0 hnm hown hW.2.1 hP (wl_D hW.1 V) hS k he hq j hj (hts _ hl1) (fun _ h => h) hfin hd2 hn hfit hlen hd (fun H1 locs1 hP1 _ hS1 => K hC H1 locs1 lsA (hset ▸ hP1) hS1 hl)
  · exact va_putN hx hb hts hin ty0 hty0 hnm hown hW.2.1 hP (wl_D hW.1 V) hS k he hq j hj (va_Nw.use rfl (hW.2.2.2.2 _ hl1)) (fun _ h => h) hfin hd2 hn hfit hlen hd (fun H1 locs1 hP1 _ hS1 => K hC H1 locs1 lsA (hset ▸ hP1) hS1 hl)
theorem S_putI {idx ci j k t : Nat} {z : Int} {x : Int} (d : DI cc pc (.putfield idx) 3 nx) (hf : FL own idx ci j z) (hk : fk k j = some (ci, 0, t)) (hty : FT ci j .int) (K : SW g X own cc nx ls st (upR V k (ur (V k) z x))) : SW g X own cc pc ls (vi x :: vr k :: st) V := S_put d hf hk hty rfl rfl rfl K
theorem S_putZ {idx ci j k t : Nat} {z : Int} {x : Int} (d : DI cc pc (.putfield idx) 3 nx) (hf : FL own idx ci j z) (hk : fk k j = some (ci, 0, t)) (hty : FT ci j .boolean) (h01 : x = 0 ∨ x = 1 := by omega) (K : SW g X own cc nx ls st (upR V k (ur (V k) z x))) : SW g X own cc pc ls (vi x :: vr k :: st) V := S_put d hf hk hty rfl (by rcases h01 with rfl | rfl <;> rfl) (by rcases h01 with rfl | rfl <;> rfl) K
theorem S_putH {idx ci j k t h : Nat} {z : Int} {C : String} (d : DI cc pc (.putfield idx) 3 nx) (hf : FL own idx ci j z) (hk : fk k j = some (ci, 2, t)) (hty : FT ci j (.object C)) (K : SW g X own cc nx ls st (upR V k (ur (V k) z (h : Int)))) : SW g X own cc pc ls (vr h :: vr k :: st) V := S_put d hf hk hty rfl rfl rfl K
theorem qty_at {g : GC} {t : Nat} (h : t < 6) : ∃ ty, (qtys g)[t]? = some (g.2.2.2.2 t, ty) := by
  match t, h with
  | 0, _ => exact ⟨_, rfl⟩
  | 1, _ => exact ⟨_, rfl⟩
  | 2, _ => exact ⟨_, rfl⟩
  | 3, _ => exact ⟨_, rfl⟩
  | 4, _ => exact ⟨_, rfl⟩
  | 5, _ => exact ⟨_, rfl⟩
theorem S_alen {k : Nat} {a : Nat × Nat} (d : DI cc pc .arraylength 1 nx) (hk : ak k = some a) (K : SW g X own cc nx ls (vi (a.2 : Int) :: st) V) : SW g X own cc pc ls (vr k :: st) V := by
  obtain ⟨⟨p, e, R, s, m⟩, ⟨args, below, meth, c⟩, ⟨nL, cells, slots, Z⟩⟩ := X
  obtain ⟨hd, rfl⟩ := d
  intro hC H locs lsA hP hS hl
  obtain ⟨hx, hb, hml, hown, hts, hW, hR⟩ := id hC
  have hkl := ak_lt hk
  obtain ⟨ty, hty⟩ := qty_at (g := g) (ak_small hk).2
  have he : (wl g V)[k]? = some (g.2.2.1 k, .inl (g.2.2.2.2 a.1, a.2, cont g a.1 (V k))) := by rw [wl_at g V hkl, (ent_a hk).2]
  exact va_alen hx hb hW.2.1 hP k a.1 he hty Int32.ofInt_eq_ofNat.symm hd (K hC H locs lsA hP hS hl)
theorem S_iald {k n : Nat} {i : Int} (d : DI cc pc .iaload 1 nx) (hk : ak k = some (0, n)) (h0 : 0 ≤ i ∧ i < n := by omega) (K : SW g X own cc nx ls (vi (V k i) :: st) V) : SW g X own cc pc ls (vi i :: vr k :: st) V := by
  obtain ⟨⟨p, e, R, s, m⟩, ⟨args, below, meth, c⟩, ⟨nL, cells, slots, Z⟩⟩ := X
  obtain ⟨hd, rfl⟩ := d
  intro hC H locs lsA hP hS hl
  obtain ⟨hx, hb, hml, hown, hts, hW, hR⟩ := id hC
  have hkl := ak_lt hk
  have hn := (ak_small hk).1
  have he : (wl g V)[k]? = some (g.2.2.1 k, .inl (g.2.2.2.2 0, n, .inl (fun j => Int32.ofInt (V k (j : Int))))) := by rw [wl_at g V hkl, (ent_a hk).2]; rfl
  have hc : (Int32.ofInt i).toNatClampNeg = i.toNat := io_cl (by simp at hn; omega)
  refine va_iald (f := fun j => Int32.ofInt (V k (j : Int))) hx hb hW.2.1 hP k 0 he rfl (io_in h0.1 h0.2 hn) hd ?_
  show W p g.1 e R s m args below meth c H locs cells slots Z (F0 m (pc + 1) lsA (.int (Int32.ofInt (V k ((Int32.ofInt i).toNatClampNeg : Int))) :: st.map (cv g)))
  rw [hc, Int.toNat_of_nonneg h0.1]
  exact K hC H locs lsA hP hS hl
theorem S_bald {k n : Nat} {i : Int} (d : DI cc pc .baload 1 nx) (hk : ak k = some (2, n)) (h0 : 0 ≤ i ∧ i < n := by omega) (K : SW g X own cc nx ls (vi (V k i) :: st) V) : SW g X own cc pc ls (vi i :: vr k :: st) V := by
  obtain ⟨⟨p, e, R, s, m⟩, ⟨args, below, meth, c⟩, ⟨nL, cells, slots, Z⟩⟩ := X
  obtain ⟨hd, rfl⟩ := d
  intro hC H locs lsA hP hS hl
  obtain ⟨hx, hb, hml, hown, hts, hW, hR⟩ := id hC
  have hkl := ak_lt hk
  have hn := (ak_small hk).1
  have he : (wl g V)[k]? = some (g.2.2.1 k, .inl (g.2.2.2.2 2, n, .inl (fun j => Int32.ofInt (V k (j : Int))))) := by rw [wl_at g V hkl, (ent_a hk).2]; rfl
  have hc : (Int32.ofInt i).toNatClampNeg = i.toNat := io_cl (by simp at hn; omega)
  refine va_zald (f := fun j => Int32.ofInt (V k (j : Int))) hx hb hW.2.1 hP k 2 he rfl (io_in h0.1 h0.2 hn) hd ?_
  show W p g.1 e R s m args below meth c H locs cells slots Z (F0 m (pc + 1) lsA (.int (Int32.ofInt (V k ((Int32.ofInt i).toNatClampNeg : Int))) :: st.map (cv g)))
  rw [hc, Int.toNat_of_nonneg h0.1]
  exact K hC H locs lsA hP hS hl
theorem S_cald {k n : Nat} {i : Int} (d : DI cc pc .caload 1 nx) (hk : ak k = some (3, n)) (h0 : 0 ≤ i ∧ i < n := by omega) (K : SW g X own cc nx ls (vi (V k i) :: st) V) : SW g X own cc pc ls (vi i :: vr k :: st) V := by
  obtain ⟨⟨p, e, R, s, m⟩, ⟨args, below, meth, c⟩, ⟨nL, cells, slots, Z⟩⟩ := X
  obtain ⟨hd, rfl⟩ := d
  intro hC H locs lsA hP hS hl
  obtain ⟨hx, hb, hml, hown, hts, hW, hR⟩ := id hC
  have hkl := ak_lt hk
  have hn := (ak_small hk).1
  have he : (wl g V)[k]? = some (g.2.2.1 k, .inl (g.2.2.2.2 3, n, .inl (fun j => Int32.ofInt (V k (j : Int))))) := by rw [wl_at g V hkl, (ent_a hk).2]; rfl
  have hc : (Int32.ofInt i).toNatClampNeg = i.toNat := io_cl (by simp at hn; omega)
  refine va_cald (f := fun j => Int32.ofInt (V k (j : Int))) hx hb hW.2.1 hP k 3 he rfl (io_in h0.1 h0.2 hn) hd ?_
  show W p g.1 e R s m args below meth c H locs cells slots Z (F0 m (pc + 1) lsA (.int (Int32.ofInt (V k ((Int32.ofInt i).toNatClampNeg : Int))) :: st.map (cv g)))
  rw [hc, Int.toNat_of_nonneg h0.1]
  exact K hC H locs lsA hP hS hl
theorem S_lald {k n : Nat} {i : Int} (d : DI cc pc .laload 1 nx) (hk : ak k = some (1, n)) (h0 : 0 ≤ i ∧ i < n := by omega) (K : SW g X own cc nx ls (vl (V k i) :: st) V) : SW g X own cc pc ls (vi i :: vr k :: st) V := by
  obtain ⟨⟨p, e, R, s, m⟩, ⟨args, below, meth, c⟩, ⟨nL, cells, slots, Z⟩⟩ := X
  obtain ⟨hd, rfl⟩ := d
  intro hC H locs lsA hP hS hl
  obtain ⟨hx, hb, hml, hown, hts, hW, hR⟩ := id hC
  have hkl := ak_lt hk
  have hn := (ak_small hk).1
  have he : (wl g V)[k]? = some (g.2.2.1 k, .inl (g.2.2.2.2 1, n, .inr (.inl (fun j => Int64.ofInt (V k (j : Int)))))) := by rw [wl_at g V hkl, (ent_a hk).2]; rfl
  have hc : (Int32.ofInt i).toNatClampNeg = i.toNat := io_cl (by simp at hn; omega)
  refine va_lald (f := fun j => Int64.ofInt (V k (j : Int))) hx hb hW.2.1 hP k 1 he rfl (io_in h0.1 h0.2 hn) hd ?_
  show W p g.1 e R s m args below meth c H locs cells slots Z (F0 m (pc + 1) lsA (.long (Int64.ofInt (V k ((Int32.ofInt i).toNatClampNeg : Int))) :: st.map (cv g)))
  rw [hc, Int.toNat_of_nonneg h0.1]
  exact K hC H locs lsA hP hS hl
theorem S_aaldH {k n : Nat} {i : Int} (d : DI cc pc .aaload 1 nx) (hk : ak k = some (4, n)) (h0 : 0 ≤ i ∧ i < n := by omega) (K : SW g X own cc nx ls (vr (47 + 4 * i.toNat) :: st) V) : SW g X own cc pc ls (vi i :: vr k :: st) V := by
  obtain ⟨⟨p, e, R, s, m⟩, ⟨args, below, meth, c⟩, ⟨nL, cells, slots, Z⟩⟩ := X
  obtain ⟨hd, rfl⟩ := d
  intro hC H locs lsA hP hS hl
  obtain ⟨hx, hb, hml, hown, hts, hW, hR⟩ := id hC
  have hkl := ak_lt hk
  have hn := (ak_small hk).1
  have he : (wl g V)[k]? = some (g.2.2.1 k, .inl (g.2.2.2.2 4, n, .inr (.inr (.inr (.inr (fun j => some (g.2.2.1 (47 + 4 * j)))))))) := by rw [wl_at g V hkl, (ent_a hk).2]; rfl
  have hc : (Int32.ofInt i).toNatClampNeg = i.toNat := io_cl (by simp at hn; omega)
  refine va_aldq (f := fun j => some (g.2.2.1 (47 + 4 * j))) hx hb hW.2.1 hP k 4 he rfl (io_in h0.1 h0.2 hn) hd ?_
  show W p g.1 e R s m args below meth c H locs cells slots Z (F0 m (pc + 1) lsA (.ref (g.2.2.1 (47 + 4 * (Int32.ofInt i).toNatClampNeg)) :: st.map (cv g)))
  rw [hc]
  exact K hC H locs lsA hP hS hl
theorem S_aaldT {k n : Nat} {i : Int} (d : DI cc pc .aaload 1 nx) (hk : ak k = some (5, n)) (h0 : 0 ≤ i ∧ i < n := by omega) (K : SW g X own cc nx ls (vr (71 + 2 * i.toNat) :: st) V) : SW g X own cc pc ls (vi i :: vr k :: st) V := by
  obtain ⟨⟨p, e, R, s, m⟩, ⟨args, below, meth, c⟩, ⟨nL, cells, slots, Z⟩⟩ := X
  obtain ⟨hd, rfl⟩ := d
  intro hC H locs lsA hP hS hl
  obtain ⟨hx, hb, hml, hown, hts, hW, hR⟩ := id hC
  have hkl := ak_lt hk
  have hn := (ak_small hk).1
  have he : (wl g V)[k]? = some (g.2.2.1 k, .inl (g.2.2.2.2 5, n, .inr (.inr (.inr (.inr (fun j => some (g.2.2.1 (71 + 2 * j)))))))) := by rw [wl_at g V hkl, (ent_a hk).2]; rfl
  have hc : (Int32.ofInt i).toNatClampNeg = i.toNat := io_cl (by simp at hn; omega)
  refine va_aldq (f := fun j => some (g.2.2.1 (71 + 2 * j))) hx hb hW.2.1 hP k 5 he rfl (io_in h0.1 h0.2 hn) hd ?_
  show W p g.1 e R s m args below meth c H locs cells slots Z (F0 m (pc + 1) lsA (.ref (g.2.2.1 (71 + 2 * (Int32.ofInt i).toNatClampNeg)) :: st.map (cv g)))
  rw [hc]
  exact K hC H locs lsA hP hS hl
theorem up_ur (row : Int → Int) {i : Int} (h : 0 ≤ i) (x : Int) : upd (fun j : Nat => Int32.ofInt (row (j : Int))) i.toNat (Int32.ofInt x) = fun j : Nat => Int32.ofInt (ur row i x (j : Int)) := by
  funext j
  unfold upd ur
  by_cases e : j = i.toNat
  · rw [if_pos e, if_pos (by omega)]
  · rw [if_neg e, if_neg (by omega)]
theorem upL_ur (row : Int → Int) {i : Int} (h : 0 ≤ i) (x : Int) : vp_updL (fun j : Nat => Int64.ofInt (row (j : Int))) i.toNat (Int64.ofInt x) = fun j : Nat => Int64.ofInt (ur row i x (j : Int)) := by
  funext j
  unfold vp_updL ur
  by_cases e : j = i.toNat
  · rw [if_pos e, if_pos (by omega)]
  · rw [if_neg e, if_neg (by omega)]
theorem S_iast {k n : Nat} {i x : Int} (d : DI cc pc .iastore 1 nx) (hk : ak k = some (0, n)) (h0 : 0 ≤ i ∧ i < n := by omega) (K : SW g X own cc nx ls st (upR V k (ur (V k) i x))) : SW g X own cc pc ls (vi x :: vi i :: vr k :: st) V := by
  obtain ⟨⟨p, e, R, s, m⟩, ⟨args, below, meth, c⟩, ⟨nL, cells, slots, Z⟩⟩ := X
  obtain ⟨hd, rfl⟩ := d
  intro hC H locs lsA hP hS hl
  obtain ⟨hx, hb, hml, hown, hts, hW, hR⟩ := id hC
  have hkl := ak_lt hk
  have hn := (ak_small hk).1
  have he : (wl g V)[k]? = some (g.2.2.1 k, .inl (g.2.2.2.2 0, n, .inl (fun j => Int32.ofInt (V k (j : Int))))) := by rw [wl_at g V hkl, (ent_a hk).2]; rfl
  have hc : (Int32.ofInt i).toNatClampNeg = i.toNat := io_cl (by simp at hn; omega)
  refine va_iast (f := fun j => Int32.ofInt (V k (j : Int))) (x := Int32.ofInt x) hx hb hW.2.1 hP (wl_D hW.1 V) hS k 0 he rfl (io_in h0.1 h0.2 hn) hd (fun H1 locs1 hP1 _ hS1 => K hC H1 locs1 lsA ?_ hS1 hl)
  have hset : (wl g V).set k (g.2.2.1 k, .inl (g.2.2.2.2 0, n, .inl (upd (fun j => Int32.ofInt (V k (j : Int))) (Int32.ofInt i).toNatClampNeg (Int32.ofInt x)))) = wl g (upR V k (ur (V k) i x)) := by
    rw [← wl_set g V hkl (ur (V k) i x), (ent_a (g := g) (V := V) hk).1, hc, up_ur (V k) h0.1 x]
    rfl
  exact hset ▸ hP1
theorem S_bast {k n : Nat} {i x : Int} (d : DI cc pc .bastore 1 nx) (hk : ak k = some (2, n)) (h0 : 0 ≤ i ∧ i < n := by omega) (h01 : x = 0 ∨ x = 1 := by omega) (K : SW g X own cc nx ls st (upR V k (ur (V k) i x))) : SW g X own cc pc ls (vi x :: vi i :: vr k :: st) V := by
  obtain ⟨⟨p, e, R, s, m⟩, ⟨args, below, meth, c⟩, ⟨nL, cells, slots, Z⟩⟩ := X
  obtain ⟨hd, rfl⟩ := d
  intro hC H locs lsA hP hS hl
  obtain ⟨hx, hb, hml, hown, hts, hW, hR⟩ := id hC
  have hkl := ak_lt hk
  have hn := (ak_small hk).1
  have he : (wl g V)[k]? = some (g.2.2.1 k, .inl (g.2.2.2.2 2, n, .inl (fun j => Int32.ofInt (V k (j : Int))))) := by rw [wl_at g V hkl, (ent_a hk).2]; rfl
  have hc : (Int32.ofInt i).toNatClampNeg = i.toNat := io_cl (by simp at hn; omega)
  have hx1 : vp_nar .boolean (Int32.ofInt x) = Int32.ofInt x := by rcases h01 with rfl | rfl <;> rfl
  refine va_zast (f := fun j => Int32.ofInt (V k (j : Int))) (x := Int32.ofInt x) hx hb hW.2.1 hP (wl_D hW.1 V) hS k 2 he rfl (io_in h0.1 h0.2 hn) hd (fun H1 locs1 hP1 _ hS1 => K hC H1 locs1 lsA ?_ hS1 hl)
  have hset : (wl g V).set k (g.2.2.1 k, .inl (g.2.2.2.2 2, n, .inl (upd (fun j => Int32.ofInt (V k (j : Int))) (Int32.ofInt i).toNatClampNeg (vp_nar .boolean (Int32.ofInt x))))) = wl g (upR V k (ur (V k) i x)) := by
    rw [← wl_set g V hkl (ur (V k) i x), (ent_a (g := g) (V := V) hk).1, hc, hx1, up_ur (V k) h0.1 x]
    rfl
  exact hset ▸ hP1
theorem S_cast {k n : Nat} {i x : Int} (d : DI cc pc .castore 1 nx) (hk : ak k = some (3, n)) (h0 : 0 ≤ i ∧ i < n := by omega) (hx1 : vp_nar .char (Int32.ofInt x) = Int32.ofInt x) (K : SW g X own cc nx ls st (upR V k (ur (V k) i x))) : SW g X own cc pc ls (vi x :: vi i :: vr k :: st) V := by
  obtain ⟨⟨p, e, R, s, m⟩, ⟨args, below, meth, c⟩, ⟨nL, cells, slots, Z⟩⟩ := X
  obtain ⟨hd, rfl⟩ := d
  intro hC H locs lsA hP hS hl
  obtain ⟨hx, hb, hml, hown, hts, hW, hR⟩ := id hC
  have hkl := ak_lt hk
  have hn := (ak_small hk).1
  have he : (wl g V)[k]? = some (g.2.2.1 k, .inl (g.2.2.2.2 3, n, .inl (fun j => Int32.ofInt (V k (j : Int))))) := by rw [wl_at g V hkl, (ent_a hk).2]; rfl
  have hc : (Int32.ofInt i).toNatClampNeg = i.toNat := io_cl (by simp at hn; omega)
  refine va_cast (f := fun j => Int32.ofInt (V k (j : Int))) (x := Int32.ofInt x) hx hb hW.2.1 hP (wl_D hW.1 V) hS k 3 he rfl (io_in h0.1 h0.2 hn) hd (fun H1 locs1 hP1 _ hS1 => K hC H1 locs1 lsA ?_ hS1 hl)
  have hset : (wl g V).set k (g.2.2.1 k, .inl (g.2.2.2.2 3, n, .inl (upd (fun j => Int32.ofInt (V k (j : Int))) (Int32.ofInt i).toNatClampNeg (vp_nar .char (Int32.ofInt x))))) = wl g (upR V k (ur (V k) i x)) := by
    rw [← wl_set g V hkl (ur (V k) i x), (ent_a (g := g) (V := V) hk).1, hc, hx1, up_ur (V k) h0.1 x]
    rfl
  exact hset ▸ hP1
theorem S_last {k n : Nat} {i x : Int} (d : DI cc pc .lastore 1 nx) (hk : ak k = some (1, n)) (h0 : 0 ≤ i ∧ i < n := by omega) (K : SW g X own cc nx ls st (upR V k (ur (V k) i x))) : SW g X own cc pc ls (vl x :: vi i :: vr k :: st) V := by
  obtain ⟨⟨p, e, R, s, m⟩, ⟨args, below, meth, c⟩, ⟨nL, cells, slots, Z⟩⟩ := X
  obtain ⟨hd, rfl⟩ := d
  intro hC H locs lsA hP hS hl
  obtain ⟨hx, hb, hml, hown, hts, hW, hR⟩ := id hC
  have hkl := ak_lt hk
  have hn := (ak_small hk).1
  have he : (wl g V)[k]? = some (g.2.2.1 k, .inl (g.2.2.2.2 1, n, .inr (.inl (fun j => Int64.ofInt (V k (j : Int)))))) := by rw [wl_at g V hkl, (ent_a hk).2]; rfl
  have hc : (Int32.ofInt i).toNatClampNeg = i.toNat := io_cl (by simp at hn; omega)
  refine va_last (f := fun j => Int64.ofInt (V k (j : Int))) (x := Int64.ofInt x) hx hb hW.2.1 hP (wl_D hW.1 V) hS k 1 he rfl (io_in h0.1 h0.2 hn) hd (fun H1 locs1 hP1 _ hS1 => K hC H1 locs1 lsA ?_ hS1 hl)
  have hset : (wl g V).set k (g.2.2.1 k, .inl (g.2.2.2.2 1, n, .inr (.inl (vp_updL (fun j => Int64.ofInt (V k (j : Int))) (Int32.ofInt i).toNatClampNeg (Int64.ofInt x))))) = wl g (upR V k (ur (V k) i x)) := by
    rw [← wl_set g V hkl (ur (V k) i x), (ent_a (g := g) (V := V) hk).1, hc, upL_ur (V k) h0.1 x]
    rfl
  exact hset ▸ hP1
end RM
end
section
/-! contracts, returns, calls -/
abbrev MN : Type := MethodName × ByteArray × Nat × Option FieldType
def rmd (d : Nat) : Room := { frames := d, cells := 0, slots := 0, locals := 64 * d }
def Qc (g : GC) (Q : Option AV → MM → Prop) : Array Value → State → Outcome → State → Prop := fun _ st oc t => (∃ (r : Option AV) (V : MM), oc = .returned (r.map (cv g)) ∧ Q r V ∧ va_P g.2.1 qcl (wl g V) t.heap) ∧ va_F g.2.2.2.1 st t
/-- the contract: from every state that holds the memory V the method returns r and holds V', with Q r V' -/
def Ct (g : GC) (M : MN) (d : Nat) (as : List AV) (V : MM) (Q : Option AV → MM → Prop) : Prop := Met g.1 M.1 (Cond.code M.1 M.2.1 M.2.2.1 M.2.2.2 :: Gs) (rmd d) (va_Pc (as.map (cv g)) (fun U => va_P g.2.1 qcl (wl g V) U.heap ∧ Wd g U U.heap)) (Qc g Q) 0 0 g.2.2.2.1
/-- what a method's end must reach; how deep it may call -/
def Fi (g : GC) (X : CX) (rt : Option FieldType) (Q : Option AV → MM → Prop) : Prop := match X with
  | ((_, _, _, s, _), (args, below, meth, _), (_, cells, slots, Z)) => Z = MQ below (Qc g Q) args s cells slots g.2.2.2.1 ∧ meth.sig.returnType = rt ∧ meth.locks = false
def Dp (X : CX) (d : Nat) : Prop := match X with
  | ((_, _, R, _, _), _, _) => d ≤ R.frames ∧ 64 * d ≤ R.locals
def elA : List AV → List (Option AV)
  | [] => []
  | .inr (.inr z) :: vs => some (vl z) :: none :: elA vs
  | v :: vs => some v :: elA vs
theorem elA_len (g : GC) (as : List AV) : (elA as).length = (lg_sl (as.map (cv g))).length := by
  induction as with
  | nil => rfl
  | cons v vs ih =>
    match v with
    | .inl z => simpa [elA, lg_sl, cv, Value.category] using ih
    | .inr (.inl k) => simpa [elA, lg_sl, cv, Value.category] using ih
    | .inr (.inr z) => simpa [elA, lg_sl, cv, Value.category] using ih
theorem elA_args (g : GC) (as : List AV) : ∀ (o i : Nat) (v : AV), (elA as)[i]? = some (some v) → (o + i, cv g v) ∈ lv_args o (as.map (cv g)) := by
  induction as with
  | nil => intro o i v h; simp [elA] at h
  | cons w vs ih =>
    intro o i v h
    match w, h with
    | .inl z, h =>
      cases i with
      | zero => simp [elA] at h; subst h; exact List.mem_cons_self
      | succ i =>
        have h2 : (elA vs)[i]? = some (some v) := by simpa [elA] using h
        have := ih (o + 1) i v h2
        exact List.mem_cons_of_mem _ (by rw [show o + (i + 1) = o + 1 + i by omega]; exact this)
    | .inr (.inl k), h =>
      cases i with
      | zero => simp [elA] at h; subst h; exact List.mem_cons_self
      | succ i =>
        have h2 : (elA vs)[i]? = some (some v) := by simpa [elA] using h
        have := ih (o + 1) i v h2
        exact List.mem_cons_of_mem _ (by rw [show o + (i + 1) = o + 1 + i by omega]; exact this)
    | .inr (.inr z), h =>
      match i, h with
      | 0, h => simp [elA] at h; subst h; exact List.mem_cons_self
      | 1, h => simp [elA] at h
      | i + 2, h =>
        have h2 : (elA vs)[i]? = some (some v) := by simpa [elA] using h
        have := ih (o + 2) i v h2
        exact List.mem_cons_of_mem _ (by rw [show o + (i + 2) = o + 2 + i by omega]; exact this)
/-- Met.ofW by the method's own name: also for classes some methods of which the machine runs itself -/
theorem Met.ofF {l : Launch} {y : MethodName} {ws ws' : List Cond} {rm : Room} {Pc : Array Value → State → Prop} {Qc : Array Value → State → Outcome → State → Prop} {mc ms : Nat} {free : Addr → Prop} {cc : ByteArray} {maxL : Nat} {ret : Option FieldType}
    (hy : plainFor y = true) (hw : ws = Cond.code y cc maxL ret :: ws')
    (body : ∀ p e s m args below meth c s₁, BodyLoose p l y (headSpec ws rm) cc maxL ret e s m args below meth c s₁ → c.maxLocals = maxL → Pc args s →
      W p l e (headSpec ws rm).room s m args below meth c s.heap [] 0 0 (MQ below Qc args s mc ms free) (entryFrame m args maxL)) : Met l y ws rm Pc Qc mc ms free := by
  refine MetFree.of_bodySF (code := cc) (maxLocals := maxL) (ret := ret) hy ?_ ?_
  · intro args s m h hn
    obtain ⟨meth, c, h1, h2, h3, h4, h5, h6, -, -⟩ := Cond.code_spec hn (atoms_spec (ws := ws) h _ (by rw [hw]; exact List.mem_cons_self))
    exact ⟨meth, c, h1, h2, h3, h4, h5, h6⟩
  · intro p e s m args below meth c s₁ B hml hP _
    have hh0 : s₁.heap = s.heap := by rw [B.state]; rfl
    obtain ⟨t, a1, o, b1, b2, b3⟩ := body p e s m args below meth c s₁ B hml hP s₁ hh0 (Stand.of_body B)
    exact ⟨t, o, a1, b1, b2, ⟨b3.1, b3.2⟩⟩
theorem Ct.of {g : GC} {M : MN} {d : Nat} {as : List AV} {V : MM} {Q : Option AV → MM → Prop} {ls : List (Option AV)} (hpl : plainFor M.1 = true) (hls : elA as ++ List.replicate (M.2.2.1 - (elA as).length) none = ls) (hlen : (elA as).length ≤ M.2.2.1)
    (k : ∀ X : CX, Fi g X M.2.2.2 Q → Dp X d → SW g X M.1.cls M.2.1 0 ls [] V) : Ct g M d as V Q := by
  obtain ⟨y, cc, maxL, ret⟩ := M
  refine Met.ofF (cc := cc) (maxL := maxL) (ret := ret) hpl rfl ?_
  intro p e s m args below meth c s₁ B hml hv
  obtain ⟨rfl, hP, hW⟩ := hv
  have hall : ∀ w ∈ Cond.code y cc maxL ret :: Gs, w.before _ s = true := atoms_spec (ws := Cond.code y cc maxL ret :: Gs) B.pre
  have hown : s.vm.findClass y.cls = some m.cls := findClass_of_methodNamed B.named
  have hlen2 : (lg_sl (as.map (cv g))).length ≤ maxL := by rw [← elA_len g as]; exact hlen
  have hl := lv_entry (as.map (cv g)) (n := maxL) hlen2
  rw [lg_entry_eq]
  generalize (lg_sl (as.map (cv g)) ++ List.replicate (maxL - (lg_sl (as.map (cv g))).length) Slot.unset).toArray = lsA at hl ⊢
  have hlok : lok g lsA maxL ls := by
    refine ⟨hl.1, hl.2.1, fun i v hi => ?_, ?_⟩
    · rw [← hls] at hi
      by_cases hi2 : i < (elA as).length
      · rw [List.getElem?_append_left hi2] at hi
        have h3 := elA_args g as 0 i v hi
        rw [Nat.zero_add] at h3
        exact hl.2.2 _ h3
      · rw [List.getElem?_append_right (by omega)] at hi
        have := List.eq_of_mem_replicate (List.mem_of_getElem? hi)
        cases this
    · rw [← hls, List.length_append, List.length_replicate]
      show (elA as).length + (maxL - (elA as).length) ≤ maxL
      have : (elA as).length ≤ maxL := hlen
      omega
  have K := k ((p, e, rmd d, s, m), ((as.map (cv g)).toArray, below, meth, c), (maxL, 0, 0, MQ below (Qc g Q) (as.map (cv g)).toArray s 0 0 g.2.2.2.1)) ⟨rfl, B.returns, B.notSynchronized⟩ ⟨Nat.le_refl _, Nat.le_refl _⟩
  exact K ⟨B.exec, B.bytes, hml, hown, fun w hw => hall w (List.mem_cons_of_mem _ hw), hW, Nat.zero_le _, Nat.zero_le _⟩ s.heap [] lsA hP va_S.rf hlok
theorem Ct.mono {g : GC} {M : MN} {d : Nat} {as : List AV} {V : MM} {Q Q' : Option AV → MM → Prop} (h : Ct g M d as V Q) (hq : ∀ r V', Q r V' → Q' r V') : Ct g M d as V Q' := by
  intro p e h1 h2 h3 s m args below a1 a2 a3 a4
  obtain ⟨n, o, b1, b2, b3, ⟨⟨r, V1, c1, c2, c3⟩, c4⟩, b5⟩ := h p e h1 h2 h3 s m args below a1 a2 a3 a4
  exact ⟨n, o, b1, b2, b3, ⟨⟨r, V1, c1, hq r V1 c2, c3⟩, c4⟩, b5⟩
section RC
variable {g : GC} {X : CX} {own : String} {cc : ByteArray} {pc nx tgt : Nat} {ls : List (Option AV)} {st : List AV} {V : MM} {Q : Option AV → MM → Prop}
theorem SW.weak {ls' : List (Option AV)} (k : SW g X own cc pc ls' st V) (h2 : ∀ (i : Nat) (v : AV), ls'[i]? = some (some v) → ls[i]? = some (some v)) (h3 : ls'.length ≤ ls.length) : SW g X own cc pc ls st V := by
  obtain ⟨⟨p, e, R, s, m⟩, ⟨args, below, meth, c⟩, ⟨nL, cells, slots, Z⟩⟩ := X
  intro hC H locs lsA hP hS hl
  exact k hC H locs lsA hP hS (lok_sub hl h2 h3)
theorem S_iret {x : Int} (hz : Fi g X (some .int) Q) (d : DI cc pc .ireturn 1 nx) (h : Q (some (vi x)) V) : SW g X own cc pc ls [vi x] V := by
  obtain ⟨⟨p, e, R, s, m⟩, ⟨args, below, meth, c⟩, ⟨nL, cells, slots, Z⟩⟩ := X
  obtain ⟨hd, rfl⟩ := d
  obtain ⟨rfl, hr, hk⟩ := hz
  intro hC H locs lsA hP hS hl
  exact W.iret hC.1 hC.2.1 hr (fun t ht hW => ⟨⟨some (vi x), V, rfl, h, by rw [ht]; exact hP⟩, hS.F ht⟩) hS.2.2 hd hk
theorem S_zret {x : Int} (hz : Fi g X (some .boolean) Q) (d : DI cc pc .ireturn 1 nx) (h01 : x = 0 ∨ x = 1) (h : Q (some (vi x)) V) : SW g X own cc pc ls [vi x] V := by
  obtain ⟨⟨p, e, R, s, m⟩, ⟨args, below, meth, c⟩, ⟨nL, cells, slots, Z⟩⟩ := X
  obtain ⟨hd, rfl⟩ := d
  obtain ⟨rfl, hr, hk⟩ := hz
  intro hC H locs lsA hP hS hl
  exact W.zret hC.1 hC.2.1 hr (by rcases h01 with rfl | rfl <;> rfl) (fun t ht hW => ⟨⟨some (vi x), V, rfl, h, by rw [ht]; exact hP⟩, hS.F ht⟩) hS.2.2 hd hk
theorem S_cret {x : Int} (hz : Fi g X (some .char) Q) (d : DI cc pc .ireturn 1 nx) (hx : narrow .char (.int (Int32.ofInt x)) = .int (Int32.ofInt x)) (h : Q (some (vi x)) V) : SW g X own cc pc ls [vi x] V := by
  obtain ⟨⟨p, e, R, s, m⟩, ⟨args, below, meth, c⟩, ⟨nL, cells, slots, Z⟩⟩ := X
  obtain ⟨hd, rfl⟩ := d
  obtain ⟨rfl, hr, hk⟩ := hz
  intro hC H locs lsA hP hS hl
  exact W.zret hC.1 hC.2.1 hr hx (fun t ht hW => ⟨⟨some (vi x), V, rfl, h, by rw [ht]; exact hP⟩, hS.F ht⟩) hS.2.2 hd hk
theorem S_lret {x : Int} (hz : Fi g X (some .long) Q) (d : DI cc pc .lreturn 1 nx) (h : Q (some (vl x)) V) : SW g X own cc pc ls [vl x] V := by
  obtain ⟨⟨p, e, R, s, m⟩, ⟨args, below, meth, c⟩, ⟨nL, cells, slots, Z⟩⟩ := X
  obtain ⟨hd, rfl⟩ := d
  obtain ⟨rfl, hr, hk⟩ := hz
  intro hC H locs lsA hP hS hl
  exact W.lret hC.1 hC.2.1 hr (fun t ht hW => ⟨⟨some (vl x), V, rfl, h, by rw [ht]; exact hP⟩, hS.F ht⟩) hS.2.2 hd hk
theorem S_vret (hz : Fi g X none Q) (d : DI cc pc .return_ 1 nx) (h : Q none V) : SW g X own cc pc ls [] V := by
  obtain ⟨⟨p, e, R, s, m⟩, ⟨args, below, meth, c⟩, ⟨nL, cells, slots, Z⟩⟩ := X
  obtain ⟨hd, rfl⟩ := d
  obtain ⟨rfl, hr, hk⟩ := hz
  intro hC H locs lsA hP hS hl
  exact W.vret hC.1 hC.2.1 hr (fun t ht hW => ⟨⟨none, V, rfl, h, by rw [ht]; exact hP⟩, hS.F ht⟩) hS.2.2 hd hk
theorem S_aret {k : Nat} {C : String} (hz : Fi g X (some (.object C)) Q) (d : DI cc pc .areturn 1 nx) (h : Q (some (vr k)) V) : SW g X own cc pc ls [vr k] V := by
  obtain ⟨⟨p, e, R, s, m⟩, ⟨args, below, meth, c⟩, ⟨nL, cells, slots, Z⟩⟩ := X
  obtain ⟨hd, rfl⟩ := d
  obtain ⟨rfl, hr, hk⟩ := hz
  intro hC H locs lsA hP hS hl
  exact W.aret hC.1 hC.2.1 hr (Or.inl ⟨_, rfl⟩) (Or.inr ⟨_, rfl⟩) (fun t ht hW => ⟨⟨some (vr k), V, rfl, h, by rw [ht]; exact hP⟩, hS.F ht⟩) hS.2.2 hd hk
/-- a method's own words; a call's link -/
def MO (M : MN) (n : Nat) : Prop := Cond.code M.1 M.2.1 M.2.2.1 M.2.2.2 ∈ Gs ∧ Cond.initialized M.1.cls ∈ Gs ∧ (M.1.cls ≠ "java/lang/invoke/MethodHandle" ∧ M.1.cls ≠ "java/lang/invoke/VarHandle" ∧ (parseMethodDescriptor M.1.desc).map (fun d => d.parameters.length) = some n) ∧ M.2.2.1 ≤ 45
def MV (M : MN) (n : Nat) : Prop := MO M n ∧ Cond.instanceMethod M.1 ∈ Gs ∧ Cond.selects M.1.cls M.1 M.1 ∈ Gs
def MS (M : MN) (n : Nat) : Prop := MO M n ∧ Cond.static M.1 ∈ Gs
def ML (own : String) (idx : Nat) (M : MN) : Prop := Cond.methodLink own idx M.1 ∈ Gs ∨ ∃ host, Cond.methodLinkNest own idx M.1 host ∈ Ns
theorem Gs_code {M : MN} {n : Nat} (h : MO M n) : GoodIn Gs (Cond.code M.1 M.2.1 M.2.2.1 M.2.2.2 :: Gs) := fun w hw => by
  rcases List.mem_cons.mp hw with rfl | hw
  · exact Gs_good _ h.1
  · exact Gs_good _ hw
def rcv (k : Nat) (C : String) : Prop := (∃ ci T N, ok k = some ci ∧ qcl[ci]? = some (C, T, N)) ∨ ∃ i : Nat, i < 6 ∧ k = 200 + i ∧ C = "java/lang/String"
theorem rcv_at {g : GC} {s : State} {H : Heap} {locs : List Loc} {k : Nat} {C : String} (h : rcv k C) (hK : va_K g.2.1 qcl (qtys g) s) (hP : va_P g.2.1 qcl (wl g V) H) (hR : Ro g s s.heap) (hS : va_S g.2.2.2.1 s.heap H locs) : ∃ cell : Cell, H[g.2.2.1 k]? = some cell ∧ cell.vm.isStatics = false ∧ s.vm.findClass C = some cell.cls := by
  rcases h with h | ⟨i, hi, rfl, rfl⟩
  rotate_left
  · exact vk_recv (adK := fun i => g.2.2.1 (200 + i)) hR.1.1 hi hS
  obtain ⟨ci, T, N, hk, hq⟩ := h
  have hkl := ok_lt hk
  unfold ok at hk
  split at hk
  · rename_i o ho
    rw [if_pos hkl] at hk
    have he : (wl g V)[k]? = some (g.2.2.1 k, .inr (ci, o.2.mapIdx (fun j q => fval g q (V k (j : Int))))) := by
      rw [wl_at g V hkl, ent_o ho, Option.some.inj hk]
    exact va_recv hK hP hq he
  · cases hk
def wcat : AV → Nat
  | .inr (.inr _) => 2
  | _ => 1
theorem wcat_eq (g : GC) (v : AV) : (cv g v).category = wcat v := by
  match v with
  | .inl z => rfl
  | .inr (.inl k) => rfl
  | .inr (.inr z) => rfl
theorem wcat_sum (g : GC) (l : List AV) : ((l.map (cv g)).map fun v => v.category).sum = (l.map wcat).sum := by
  induction l with
  | nil => rfl
  | cons v l ih => simp only [List.map_cons, List.sum_cons, ih, wcat_eq]
/-- behind a call -/
theorem SW.back {p : Program} {e : Env} {R : Room} {s : State} {m : MethodId} {args : Array Value} {below : List Frame} {meth : Method} {c : Code} {nL cells slots : Nat} {Z : State → Prop} {H : Heap} {locs : List Loc} {lsA : Array Slot} {st0 : List Value} {Qr : Option AV → MM → Prop} {as : List AV} {rest : List AV} {a : Array Value}
    (hr : va_Run p g.1 e R s m args below meth c H locs cells slots 0 0 (F0 m pc lsA st0) (rest.map (cv g)) (Qc g Qr a) g.2.2.2.1) (hC : CxOK g ((p, e, R, s, m), (args, below, meth, c), (nL, cells, slots, Z)) own cc) (hS : va_S g.2.2.2.1 s.heap H locs) (hl : lok g lsA nL ls)
    (kk : ∀ (r : Option AV) (V1 : MM), Qr r V1 → SW g ((p, e, R, s, m), (args, below, meth, c), (nL, cells, slots, Z)) own cc (pc + 3) ls (r.toList ++ rest) V1) : W p g.1 e R s m args below meth c H locs cells slots Z (F0 m pc lsA st0) := by
  intro T hT X0
  obtain ⟨v, st₀, t, T', L, h0, X', hL, e1, e2, ⟨⟨r, V1, hv, hQ, hP1⟩, hz, hk⟩, st⟩ := hr T hT X0
  have hv2 : v = r.map (cv g) := by injection hv
  subst hv2
  rw [h0] at hz hk
  have hS1 : va_S g.2.2.2.1 s.heap T'.heap (locs ++ L) := ⟨Nat.le_trans hS.1 (by rw [e1]; exact hz), fun q h1 h2 => by rw [e1, hk q (Nat.lt_of_lt_of_le h1 hS.1) h2]; exact hS.2.1 q h1 h2, fun q hq => by
      rcases List.mem_append.mp hq with h | h
      · exact hS.2.2 q h
      · exact hL q h⟩
  have hst : (r.map (cv g)).toList ++ rest.map (cv g) = (r.toList ++ rest).map (cv g) := by cases r <;> rfl
  obtain ⟨t2, a1, b1⟩ := kk r V1 hQ hC T'.heap (locs ++ L) lsA (by rw [e1]; exact hP1) hS1 hl T' rfl X'
  rw [hst] at st
  exact ⟨t2, st t2 a1, b1⟩
theorem Wd.at {g : GC} {s U : State} {H : Heap} {locs : List Loc} (h : Wd g s s.heap) (hS : va_S g.2.2.2.1 s.heap H locs) (hU : U.heap = H) (hW : s.WarmedH U.vm) : Wd g U U.heap :=
  ⟨h.1, va_K.moved hW.alike h.2.1, by rw [hU]; exact (h.2.2.1.kept hS.2.1).moved hW.alike, h.2.2.2.warm hW⟩
theorem Pc_blind {g : GC} {as : List AV} {V : MM} : FrameBlind (va_Pc (as.map (cv g)) (fun U => va_P g.2.1 qcl (wl g V) U.heap ∧ Wd g U U.heap)) := fun a U f mk q =>
  ⟨q.1, q.2.1, q.2.2.1, va_K.moved (u := U) (U := U.calling f mk a) (Vm.Alike.refl U.vm) q.2.2.2.1, Ro.moved (u := U) (U := U.calling f mk a) (Vm.Alike.refl U.vm) q.2.2.2.2.1, roRef.same (u := U) (U := U.calling f mk a) rfl q.2.2.2.2.2⟩
/-- a call of an object's method: as is the receiver and the arguments -/
theorem S_callV {idx n d d' b : Nat} {M : MN} {as rest : List AV} {Qr : Option AV → MM → Prop} (hD : Dp X d) (dd : DI cc pc (.invokevirtual idx) 3 nx) (hl0 : ML own idx M) (hm : MV M n) (hr : rcv b M.1.cls) (hc : Ct g M d' (vr b :: as) V Qr) (hd : d' + 1 ≤ d) (hn : as.length = n) (hst : st = as.reverse ++ vr b :: rest) (hw : (rest.map wcat).sum ≤ 8)
    (kk : ∀ (r : Option AV) (V1 : MM), Qr r V1 → SW g X own cc nx ls (r.toList ++ rest) V1) : SW g X own cc pc ls st V := by
  obtain ⟨⟨p, e, R, s, m⟩, ⟨args, below, meth, c⟩, ⟨nL, cells, slots, Z⟩⟩ := X
  obtain ⟨hdg, rfl⟩ := dd
  subst hst
  intro hC H locs lsA hP hS hl
  obtain ⟨hx, hb, hml, hown, hts, hW, hR1, hR2⟩ := id hC
  obtain ⟨⟨hcd, hini, hnm, hmx⟩, hin, hse⟩ := hm
  have hG := Gs_code (M := M) (n := n) ⟨hcd, hini, hnm, hmx⟩
  have hroom : (rmd d').frames + 1 ≤ R.frames ∧ 8 + (M.2.2.1 + 11) + (rmd d').locals ≤ R.locals := by
    obtain ⟨h1, h2⟩ := hD
    show d' + 1 ≤ R.frames ∧ 8 + (M.2.2.1 + 11) + 64 * d' ≤ R.locals
    omega
  have hpv : PreV s H M.1.cls (g.2.2.1 b) (va_Pc ((vr b :: as).map (cv g)) (fun U => va_P g.2.1 qcl (wl g V) U.heap ∧ Wd g U U.heap)) (as.map (cv g)) := ⟨Pc_blind, rcv_at hr hW.2.1 hP hW.2.2.1 hS, fun U hU hWU => ⟨rfl, by rw [hU]; exact hP, hW.at hS hU hWU⟩⟩
  have hwr : 2 * (F0 m pc lsA ((as.reverse ++ vr b :: rest).map (cv g))).monitorRoom + ((rest.map (cv g)).map fun v => v.category).sum ≤ 8 := by
    show 2 * 0 + _ ≤ 8
    rw [wcat_sum]
    omega
  have hstk : (F0 m pc lsA ((as.reverse ++ vr b :: rest).map (cv g))).stack = (as.map (cv g)).reverse ++ .ref (g.2.2.1 b) :: rest.map (cv g) := by
    show (as.reverse ++ vr b :: rest).map (cv g) = _
    rw [List.map_append, List.map_reverse]
    rfl
  rcases hl0 with hl0 | ⟨host, hl0⟩
  · exact SW.back (as := as) (va_runV (As := as.map (cv g)) (rest := rest.map (cv g)) ⟨hx, hb, hml, hown, hts⟩ hc ⟨callB_of n hts hG rfl rfl rfl (hts _ hini) (hts _ hl0) hnm hroom, hts _ hin, hts _ hse⟩ hpv rfl (by rw [List.length_map]; exact hn) hl.1 hstk hwr hdg ⟨hR1, hR2⟩) hC hS hl kk
  · exact SW.back (as := as) (va_runVN (As := as.map (cv g)) (rest := rest.map (cv g)) ⟨hx, hb, hml, hown, hts⟩ hc ⟨va_cnB (ws' := Gs) (rm := rmd d') (mc := 0) (ms := 0) n hts hG rfl rfl rfl (hW.2.2.2.2 _ hl0) (hts _ hini) hnm hroom, hts _ hin, hts _ hse⟩ hpv rfl (by rw [List.length_map]; exact hn) hl.1 hstk hwr hdg ⟨hR1, hR2⟩) hC hS hl kk
theorem S_callS {idx n d d' : Nat} {M : MN} {as rest : List AV} {Qr : Option AV → MM → Prop} (hD : Dp X d) (dd : DI cc pc (.invokestatic idx) 3 nx) (hl0 : ML own idx M) (hm : MS M n) (hc : Ct g M d' as V Qr) (hd : d' + 1 ≤ d) (hn : as.length = n) (hst : st = as.reverse ++ rest) (hw : (rest.map wcat).sum ≤ 8)
    (kk : ∀ (r : Option AV) (V1 : MM), Qr r V1 → SW g X own cc nx ls (r.toList ++ rest) V1) : SW g X own cc pc ls st V := by
  obtain ⟨⟨p, e, R, s, m⟩, ⟨args, below, meth, c⟩, ⟨nL, cells, slots, Z⟩⟩ := X
  obtain ⟨hdg, rfl⟩ := dd
  subst hst
  intro hC H locs lsA hP hS hl
  obtain ⟨hx, hb, hml, hown, hts, hW, hR1, hR2⟩ := id hC
  obtain ⟨⟨hcd, hini, hnm, hmx⟩, hss⟩ := hm
  have hG := Gs_code (M := M) (n := n) ⟨hcd, hini, hnm, hmx⟩
  have hroom : (rmd d').frames + 1 ≤ R.frames ∧ 8 + (M.2.2.1 + 11) + (rmd d').locals ≤ R.locals := by
    obtain ⟨h1, h2⟩ := hD
    show d' + 1 ≤ R.frames ∧ 8 + (M.2.2.1 + 11) + 64 * d' ≤ R.locals
    omega
  have hpv : PreS s H (va_Pc (as.map (cv g)) (fun U => va_P g.2.1 qcl (wl g V) U.heap ∧ Wd g U U.heap)) (as.map (cv g)) := ⟨Pc_blind, fun U hU hWU => ⟨rfl, by rw [hU]; exact hP, hW.at hS hU hWU⟩⟩
  have hwr : 2 * (F0 m pc lsA ((as.reverse ++ rest).map (cv g))).monitorRoom + ((rest.map (cv g)).map fun v => v.category).sum ≤ 8 := by
    show 2 * 0 + _ ≤ 8
    rw [wcat_sum]
    omega
  have hstk : (F0 m pc lsA ((as.reverse ++ rest).map (cv g))).stack = (as.map (cv g)).reverse ++ rest.map (cv g) := by
    show (as.reverse ++ rest).map (cv g) = _
    rw [List.map_append, List.map_reverse]
  rcases hl0 with hl0 | ⟨host, hl0⟩
  · exact SW.back (as := as) (va_runS (As := as.map (cv g)) (rest := rest.map (cv g)) ⟨hx, hb, hml, hown, hts⟩ hc ⟨callB_of n hts hG rfl rfl rfl (hts _ hini) (hts _ hl0) hnm hroom, hts _ hss⟩ hpv rfl (by rw [List.length_map]; exact hn) hl.1 hstk hwr hdg ⟨hR1, hR2⟩) hC hS hl kk
  · exact SW.back (as := as) (va_runSN (As := as.map (cv g)) (rest := rest.map (cv g)) ⟨hx, hb, hml, hown, hts⟩ hc ⟨va_cnB (ws' := Gs) (rm := rmd d') (mc := 0) (ms := 0) n hts hG rfl rfl rfl (hW.2.2.2.2 _ hl0) (hts _ hini) hnm hroom, hts _ hss, trivial⟩ hpv rfl (by rw [List.length_map]; exact hn) hl.1 hstk hwr hdg ⟨hR1, hR2⟩) hC hS hl kk
end RC
section RD
variable {g : GC} {X : CX} {own : String} {cc : ByteArray} {pc : Nat} {ls : List (Option AV)} {st : List AV} {V V' : MM}
theorem SW.cast (h : SW g X own cc pc ls st V') (e : V = V') : SW g X own cc pc ls st V := e ▸ h
theorem SW.forget (i : Nat) (k : SW g X own cc pc (ls.set i none) st V) : SW g X own cc pc ls st V := by
  refine SW.weak k (fun j v h => ?_) (by rw [List.length_set]; exact Nat.le_refl _)
  rw [List.getElem?_set] at h
  split at h
  · split at h <;> cases h
  · exact h
end RD
end
section
abbrev mX0_init : MN := (yX0_init, cX0_init, 1, none)
set_option maxRecDepth 20000 in
theorem oX0_init : MO mX0_init 0 := ⟨(Gs_of (tb_1 (i := 163) rfl) rfl), (Gs_of (tb_1 (i := 6) (by decide +kernel)) rfl), ⟨by decide +kernel, by decide +kernel, by decide +kernel⟩, Nat.le_of_ble_eq_true rfl⟩
abbrev mX0_forgetTrace : MN := (yX0_forgetTrace, cX0_forgetTrace, 1, none)
set_option maxRecDepth 20000 in
theorem oX0_forgetTrace : MO mX0_forgetTrace 0 := ⟨(Gs_of (tb_4 (i := 8) rfl) rfl), (Gs_of (tb_1 (i := 6) (by decide +kernel)) rfl), ⟨by decide +kernel, by decide +kernel, by decide +kernel⟩, Nat.le_of_ble_eq_true rfl⟩
theorem vX0_forgetTrace : MV mX0_forgetTrace 0 := ⟨oX0_forgetTrace, (Gs_of (tb_4 (i := 7) (by decide +kernel)) rfl), Gs_sel (i := 49) (q := (yX0_forgetTrace, 5)) (by decide +kernel) rfl⟩
abbrev mX0_play : MN := (yX0_play, cX0_play, 5, (some .int))
set_option maxRecDepth 20000 in
theorem oX0_play : MO mX0_play 4 := ⟨(Gs_of (tb_4 (i := 12) rfl) rfl), (Gs_of (tb_1 (i := 6) (by decide +kernel)) rfl), ⟨by decide +kernel, by decide +kernel, by decide +kernel⟩, Nat.le_of_ble_eq_true rfl⟩
theorem vX0_play : MV mX0_play 4 := ⟨oX0_play, (Gs_of (tb_4 (i := 11) (by decide +kernel)) rfl), Gs_sel (i := 50) (q := (yX0_play, 5)) (by decide +kernel) rfl⟩
abbrev mX0_run : MN := (yX0_run, cX0_run, 6, (some .int))
set_option maxRecDepth 20000 in
theorem oX0_run : MO mX0_run 4 := ⟨(Gs_of (tb_4 (i := 17) rfl) rfl), (Gs_of (tb_1 (i := 6) (by decide +kernel)) rfl), ⟨by decide +kernel, by decide +kernel, by decide +kernel⟩, Nat.le_of_ble_eq_true rfl⟩
theorem vX0_run : MV mX0_run 4 := ⟨oX0_run, (Gs_of (tb_4 (i := 16) (by decide +kernel)) rfl), Gs_sel (i := 51) (q := (yX0_run, 5)) (by decide +kernel) rfl⟩
abbrev mX0_runBody : MN := (yX0_runBody, cX0_runBody, 4, (some .int))
set_option maxRecDepth 20000 in
theorem oX0_runBody : MO mX0_runBody 3 := ⟨(Gs_of (tb_4 (i := 28) rfl) rfl), (Gs_of (tb_1 (i := 6) (by decide +kernel)) rfl), ⟨by decide +kernel, by decide +kernel, by decide +kernel⟩, Nat.le_of_ble_eq_true rfl⟩
theorem vX0_runBody : MV mX0_runBody 3 := ⟨oX0_runBody, (Gs_of (tb_4 (i := 27) (by decide +kernel)) rfl), Gs_sel (i := 52) (q := (yX0_runBody, 5)) (by decide +kernel) rfl⟩
abbrev mX0_bodyOf : MN := (yX0_bodyOf, cX0_bodyOf, 5, (some .int))
set_option maxRecDepth 20000 in
theorem oX0_bodyOf : MO mX0_bodyOf 2 := ⟨(Gs_of (tb_4 (i := 20) rfl) rfl), (Gs_of (tb_1 (i := 6) (by decide +kernel)) rfl), ⟨by decide +kernel, by decide +kernel, by decide +kernel⟩, Nat.le_of_ble_eq_true rfl⟩
theorem sX0_bodyOf : MS mX0_bodyOf 2 := ⟨oX0_bodyOf, (Gs_of (tb_4 (i := 19) (by decide +kernel)) rfl)⟩
abbrev mX1_init : MN := (yX1_init, cX1_init, 1, none)
set_option maxRecDepth 20000 in
theorem oX1_init : MO mX1_init 0 := ⟨(Gs_of (tb_1 (i := 106) rfl) rfl), (Gs_of (tb_1 (i := 4) (by decide +kernel)) rfl), ⟨by decide +kernel, by decide +kernel, by decide +kernel⟩, Nat.le_of_ble_eq_true rfl⟩
abbrev mX1_become : MN := (yX1_become, cX1_become, 2, none)
set_option maxRecDepth 20000 in
theorem oX1_become : MO mX1_become 1 := ⟨(Gs_of (tb_3 (i := 235) rfl) rfl), (Gs_of (tb_1 (i := 4) (by decide +kernel)) rfl), ⟨by decide +kernel, by decide +kernel, by decide +kernel⟩, Nat.le_of_ble_eq_true rfl⟩
theorem vX1_become : MV mX1_become 1 := ⟨oX1_become, (Gs_of (tb_3 (i := 234) (by decide +kernel)) rfl), Gs_sel (i := 48) (q := (yX1_become, 9)) (by decide +kernel) rfl⟩
abbrev mX1_addSeen : MN := (yX1_addSeen, cX1_addSeen, 4, (some .int))
set_option maxRecDepth 20000 in
theorem oX1_addSeen : MO mX1_addSeen 3 := ⟨(Gs_of (tb_3 (i := 162) rfl) rfl), (Gs_of (tb_1 (i := 4) (by decide +kernel)) rfl), ⟨by decide +kernel, by decide +kernel, by decide +kernel⟩, Nat.le_of_ble_eq_true rfl⟩
theorem vX1_addSeen : MV mX1_addSeen 3 := ⟨oX1_addSeen, (Gs_of (tb_3 (i := 161) (by decide +kernel)) rfl), Gs_sel (i := 42) (q := (yX1_addSeen, 9)) (by decide +kernel) rfl⟩
abbrev mX1_addStep : MN := (yX1_addStep, cX1_addStep, 2, (some .int))
set_option maxRecDepth 20000 in
theorem oX1_addStep : MO mX1_addStep 1 := ⟨(Gs_of (tb_3 (i := 192) rfl) rfl), (Gs_of (tb_1 (i := 4) (by decide +kernel)) rfl), ⟨by decide +kernel, by decide +kernel, by decide +kernel⟩, Nat.le_of_ble_eq_true rfl⟩
theorem vX1_addStep : MV mX1_addStep 1 := ⟨oX1_addStep, (Gs_of (tb_3 (i := 191) (by decide +kernel)) rfl), Gs_sel (i := 44) (q := (yX1_addStep, 9)) (by decide +kernel) rfl⟩
abbrev mX1_addRow : MN := (yX1_addRow, cX1_addRow, 3, (some .int))
set_option maxRecDepth 20000 in
theorem oX1_addRow : MO mX1_addRow 2 := ⟨(Gs_of (tb_3 (i := 212) rfl) rfl), (Gs_of (tb_1 (i := 4) (by decide +kernel)) rfl), ⟨by decide +kernel, by decide +kernel, by decide +kernel⟩, Nat.le_of_ble_eq_true rfl⟩
theorem vX1_addRow : MV mX1_addRow 2 := ⟨oX1_addRow, (Gs_of (tb_3 (i := 211) (by decide +kernel)) rfl), Gs_sel (i := 46) (q := (yX1_addRow, 9)) (by decide +kernel) rfl⟩
abbrev mX1_allSeenOn : MN := (yX1_allSeenOn, cX1_allSeenOn, 4, (some .boolean))
set_option maxRecDepth 20000 in
theorem oX1_allSeenOn : MO mX1_allSeenOn 1 := ⟨(Gs_of (tb_3 (i := 170) rfl) rfl), (Gs_of (tb_1 (i := 4) (by decide +kernel)) rfl), ⟨by decide +kernel, by decide +kernel, by decide +kernel⟩, Nat.le_of_ble_eq_true rfl⟩
theorem vX1_allSeenOn : MV mX1_allSeenOn 1 := ⟨oX1_allSeenOn, (Gs_of (tb_3 (i := 169) (by decide +kernel)) rfl), Gs_sel (i := 43) (q := (yX1_allSeenOn, 9)) (by decide +kernel) rfl⟩
abbrev mX1_danceOn : MN := (yX1_danceOn, cX1_danceOn, 3, none)
set_option maxRecDepth 20000 in
theorem oX1_danceOn : MO mX1_danceOn 1 := ⟨(Gs_of (tb_3 (i := 200) rfl) rfl), (Gs_of (tb_1 (i := 4) (by decide +kernel)) rfl), ⟨by decide +kernel, by decide +kernel, by decide +kernel⟩, Nat.le_of_ble_eq_true rfl⟩
theorem vX1_danceOn : MV mX1_danceOn 1 := ⟨oX1_danceOn, (Gs_of (tb_3 (i := 199) (by decide +kernel)) rfl), Gs_sel (i := 45) (q := (yX1_danceOn, 9)) (by decide +kernel) rfl⟩
abbrev mX1_followRound : MN := (yX1_followRound, cX1_followRound, 2, none)
set_option maxRecDepth 20000 in
theorem oX1_followRound : MO mX1_followRound 1 := ⟨(Gs_of (tb_3 (i := 203) rfl) rfl), (Gs_of (tb_1 (i := 4) (by decide +kernel)) rfl), ⟨by decide +kernel, by decide +kernel, by decide +kernel⟩, Nat.le_of_ble_eq_true rfl⟩
theorem sX1_followRound : MS mX1_followRound 1 := ⟨oX1_followRound, (Gs_of (tb_3 (i := 202) (by decide +kernel)) rfl)⟩
abbrev mX1_firstWrongRow : MN := (yX1_firstWrongRow, cX1_firstWrongRow, 3, (some .int))
set_option maxRecDepth 20000 in
theorem oX1_firstWrongRow : MO mX1_firstWrongRow 1 := ⟨(Gs_of (tb_3 (i := 220) rfl) rfl), (Gs_of (tb_1 (i := 4) (by decide +kernel)) rfl), ⟨by decide +kernel, by decide +kernel, by decide +kernel⟩, Nat.le_of_ble_eq_true rfl⟩
theorem vX1_firstWrongRow : MV mX1_firstWrongRow 1 := ⟨oX1_firstWrongRow, (Gs_of (tb_3 (i := 219) (by decide +kernel)) rfl), Gs_sel (i := 47) (q := (yX1_firstWrongRow, 9)) (by decide +kernel) rfl⟩
abbrev mX2_init : MN := (yX2_init, cX2_init, 2, none)
set_option maxRecDepth 20000 in
theorem oX2_init : MO mX2_init 1 := ⟨(Gs_of (tb_1 (i := 62) rfl) rfl), (Gs_of (tb_1 (i := 3) (by decide +kernel)) rfl), ⟨by decide +kernel, by decide +kernel, by decide +kernel⟩, Nat.le_of_ble_eq_true rfl⟩
abbrev mX2_become : MN := (yX2_become, cX2_become, 2, none)
set_option maxRecDepth 20000 in
theorem oX2_become : MO mX2_become 1 := ⟨(Gs_of (tb_3 (i := 72) rfl) rfl), (Gs_of (tb_1 (i := 3) (by decide +kernel)) rfl), ⟨by decide +kernel, by decide +kernel, by decide +kernel⟩, Nat.le_of_ble_eq_true rfl⟩
theorem vX2_become : MV mX2_become 1 := ⟨oX2_become, (Gs_of (tb_3 (i := 71) (by decide +kernel)) rfl), Gs_sel (i := 32) (q := (yX2_become, 9)) (by decide +kernel) rfl⟩
abbrev mX2_has : MN := (yX2_has, cX2_has, 2, (some .boolean))
set_option maxRecDepth 20000 in
theorem oX2_has : MO mX2_has 1 := ⟨(Gs_of (tb_2 (i := 20) rfl) rfl), (Gs_of (tb_1 (i := 3) (by decide +kernel)) rfl), ⟨by decide +kernel, by decide +kernel, by decide +kernel⟩, Nat.le_of_ble_eq_true rfl⟩
theorem vX2_has : MV mX2_has 1 := ⟨oX2_has, (Gs_of (tb_2 (i := 19) (by decide +kernel)) rfl), Gs_sel (i := 3) (q := (yX2_has, 9)) (by decide +kernel) rfl⟩
abbrev mX2_hasPlace : MN := (yX2_hasPlace, cX2_hasPlace, 2, (some .boolean))
set_option maxRecDepth 20000 in
theorem oX2_hasPlace : MO mX2_hasPlace 1 := ⟨(Gs_of (tb_2 (i := 8) rfl) rfl), (Gs_of (tb_1 (i := 3) (by decide +kernel)) rfl), ⟨by decide +kernel, by decide +kernel, by decide +kernel⟩, Nat.le_of_ble_eq_true rfl⟩
theorem vX2_hasPlace : MV mX2_hasPlace 1 := ⟨oX2_hasPlace, (Gs_of (tb_2 (i := 7) (by decide +kernel)) rfl), Gs_sel (i := 0) (q := (yX2_hasPlace, 9)) (by decide +kernel) rfl⟩
abbrev mX2_wasOf : MN := (yX2_wasOf, cX2_wasOf, 3, (some .int))
set_option maxRecDepth 20000 in
theorem oX2_wasOf : MO mX2_wasOf 2 := ⟨(Gs_of (tb_2 (i := 50) rfl) rfl), (Gs_of (tb_1 (i := 3) (by decide +kernel)) rfl), ⟨by decide +kernel, by decide +kernel, by decide +kernel⟩, Nat.le_of_ble_eq_true rfl⟩
theorem vX2_wasOf : MV mX2_wasOf 2 := ⟨oX2_wasOf, (Gs_of (tb_2 (i := 49) (by decide +kernel)) rfl), Gs_sel (i := 8) (q := (yX2_wasOf, 9)) (by decide +kernel) rfl⟩
abbrev mX2_join : MN := (yX2_join, cX2_join, 6, (some .int))
set_option maxRecDepth 20000 in
theorem oX2_join : MO mX2_join 3 := ⟨(Gs_of (tb_2 (i := 12) rfl) rfl), (Gs_of (tb_1 (i := 3) (by decide +kernel)) rfl), ⟨by decide +kernel, by decide +kernel, by decide +kernel⟩, Nat.le_of_ble_eq_true rfl⟩
theorem vX2_join : MV mX2_join 3 := ⟨oX2_join, (Gs_of (tb_2 (i := 11) (by decide +kernel)) rfl), Gs_sel (i := 1) (q := (yX2_join, 9)) (by decide +kernel) rfl⟩
abbrev mX2_follow : MN := (yX2_follow, cX2_follow, 3, none)
set_option maxRecDepth 20000 in
theorem oX2_follow : MO mX2_follow 2 := ⟨(Gs_of (tb_2 (i := 69) rfl) rfl), (Gs_of (tb_1 (i := 3) (by decide +kernel)) rfl), ⟨by decide +kernel, by decide +kernel, by decide +kernel⟩, Nat.le_of_ble_eq_true rfl⟩
theorem vX2_follow : MV mX2_follow 2 := ⟨oX2_follow, (Gs_of (tb_2 (i := 68) (by decide +kernel)) rfl), Gs_sel (i := 10) (q := (yX2_follow, 9)) (by decide +kernel) rfl⟩
abbrev mX2_standAt : MN := (yX2_standAt, cX2_standAt, 4, none)
set_option maxRecDepth 20000 in
theorem oX2_standAt : MO mX2_standAt 2 := ⟨(Gs_of (tb_2 (i := 16) rfl) rfl), (Gs_of (tb_1 (i := 3) (by decide +kernel)) rfl), ⟨by decide +kernel, by decide +kernel, by decide +kernel⟩, Nat.le_of_ble_eq_true rfl⟩
theorem vX2_standAt : MV mX2_standAt 2 := ⟨oX2_standAt, (Gs_of (tb_2 (i := 15) (by decide +kernel)) rfl), Gs_sel (i := 2) (q := (yX2_standAt, 9)) (by decide +kernel) rfl⟩
abbrev mX2_wrapAll : MN := (yX2_wrapAll, cX2_wrapAll, 2, none)
set_option maxRecDepth 20000 in
theorem oX2_wrapAll : MO mX2_wrapAll 0 := ⟨(Gs_of (tb_3 (i := 31) rfl) rfl), (Gs_of (tb_1 (i := 3) (by decide +kernel)) rfl), ⟨by decide +kernel, by decide +kernel, by decide +kernel⟩, Nat.le_of_ble_eq_true rfl⟩
theorem vX2_wrapAll : MV mX2_wrapAll 0 := ⟨oX2_wrapAll, (Gs_of (tb_3 (i := 30) (by decide +kernel)) rfl), Gs_sel (i := 26) (q := (yX2_wrapAll, 9)) (by decide +kernel) rfl⟩
abbrev mX2_letterOf : MN := (yX2_letterOf, cX2_letterOf, 3, (some .int))
set_option maxRecDepth 20000 in
theorem oX2_letterOf : MO mX2_letterOf 2 := ⟨(Gs_of (tb_2 (i := 41) rfl) rfl), (Gs_of (tb_1 (i := 3) (by decide +kernel)) rfl), ⟨by decide +kernel, by decide +kernel, by decide +kernel⟩, Nat.le_of_ble_eq_true rfl⟩
theorem vX2_letterOf : MV mX2_letterOf 2 := ⟨oX2_letterOf, (Gs_of (tb_2 (i := 40) (by decide +kernel)) rfl), Gs_sel (i := 6) (q := (yX2_letterOf, 9)) (by decide +kernel) rfl⟩
abbrev mX2_goesOf : MN := (yX2_goesOf, cX2_goesOf, 8, (some .int))
set_option maxRecDepth 20000 in
theorem oX2_goesOf : MO mX2_goesOf 1 := ⟨(Gs_of (tb_2 (i := 45) rfl) rfl), (Gs_of (tb_1 (i := 3) (by decide +kernel)) rfl), ⟨by decide +kernel, by decide +kernel, by decide +kernel⟩, Nat.le_of_ble_eq_true rfl⟩
theorem vX2_goesOf : MV mX2_goesOf 1 := ⟨oX2_goesOf, (Gs_of (tb_2 (i := 44) (by decide +kernel)) rfl), Gs_sel (i := 7) (q := (yX2_goesOf, 9)) (by decide +kernel) rfl⟩
abbrev mX2_isLazyNow : MN := (yX2_isLazyNow, cX2_isLazyNow, 2, (some .boolean))
set_option maxRecDepth 20000 in
theorem oX2_isLazyNow : MO mX2_isLazyNow 1 := ⟨(Gs_of (tb_2 (i := 54) rfl) rfl), (Gs_of (tb_1 (i := 3) (by decide +kernel)) rfl), ⟨by decide +kernel, by decide +kernel, by decide +kernel⟩, Nat.le_of_ble_eq_true rfl⟩
theorem vX2_isLazyNow : MV mX2_isLazyNow 1 := ⟨oX2_isLazyNow, (Gs_of (tb_2 (i := 53) (by decide +kernel)) rfl), Gs_sel (i := 9) (q := (yX2_isLazyNow, 9)) (by decide +kernel) rfl⟩
abbrev mX2_goBeat : MN := (yX2_goBeat, cX2_goBeat, 5, none)
set_option maxRecDepth 20000 in
theorem oX2_goBeat : MO mX2_goBeat 1 := ⟨(Gs_of (tb_3 (i := 52) rfl) rfl), (Gs_of (tb_1 (i := 3) (by decide +kernel)) rfl), ⟨by decide +kernel, by decide +kernel, by decide +kernel⟩, Nat.le_of_ble_eq_true rfl⟩
theorem vX2_goBeat : MV mX2_goBeat 1 := ⟨oX2_goBeat, (Gs_of (tb_3 (i := 51) (by decide +kernel)) rfl), Gs_sel (i := 29) (q := (yX2_goBeat, 9)) (by decide +kernel) rfl⟩
abbrev mX2_goBeats : MN := (yX2_goBeats, cX2_goBeats, 3, none)
set_option maxRecDepth 20000 in
theorem oX2_goBeats : MO mX2_goBeats 1 := ⟨(Gs_of (tb_3 (i := 48) rfl) rfl), (Gs_of (tb_1 (i := 3) (by decide +kernel)) rfl), ⟨by decide +kernel, by decide +kernel, by decide +kernel⟩, Nat.le_of_ble_eq_true rfl⟩
theorem vX2_goBeats : MV mX2_goBeats 1 := ⟨oX2_goBeats, (Gs_of (tb_3 (i := 47) (by decide +kernel)) rfl), Gs_sel (i := 28) (q := (yX2_goBeats, 9)) (by decide +kernel) rfl⟩
abbrev mX2_beatsTillTogether : MN := (yX2_beatsTillTogether, cX2_beatsTillTogether, 4, (some .int))
set_option maxRecDepth 20000 in
theorem oX2_beatsTillTogether : MO mX2_beatsTillTogether 2 := ⟨(Gs_of (tb_3 (i := 93) rfl) rfl), (Gs_of (tb_1 (i := 3) (by decide +kernel)) rfl), ⟨by decide +kernel, by decide +kernel, by decide +kernel⟩, Nat.le_of_ble_eq_true rfl⟩
theorem vX2_beatsTillTogether : MV mX2_beatsTillTogether 2 := ⟨oX2_beatsTillTogether, (Gs_of (tb_3 (i := 92) (by decide +kernel)) rfl), Gs_sel (i := 35) (q := (yX2_beatsTillTogether, 9)) (by decide +kernel) rfl⟩
abbrev mX2_beatsAlone : MN := (yX2_beatsAlone, cX2_beatsAlone, 5, (some .int))
set_option maxRecDepth 20000 in
theorem oX2_beatsAlone : MO mX2_beatsAlone 2 := ⟨(Gs_of (tb_3 (i := 131) rfl) rfl), (Gs_of (tb_1 (i := 3) (by decide +kernel)) rfl), ⟨by decide +kernel, by decide +kernel, by decide +kernel⟩, Nat.le_of_ble_eq_true rfl⟩
theorem vX2_beatsAlone : MV mX2_beatsAlone 2 := ⟨oX2_beatsAlone, (Gs_of (tb_3 (i := 130) (by decide +kernel)) rfl), Gs_sel (i := 39) (q := (yX2_beatsAlone, 9)) (by decide +kernel) rfl⟩
abbrev mX2_areTogether : MN := (yX2_areTogether, cX2_areTogether, 2, (some .boolean))
set_option maxRecDepth 20000 in
theorem oX2_areTogether : MO mX2_areTogether 0 := ⟨(Gs_of (tb_3 (i := 97) rfl) rfl), (Gs_of (tb_1 (i := 3) (by decide +kernel)) rfl), ⟨by decide +kernel, by decide +kernel, by decide +kernel⟩, Nat.le_of_ble_eq_true rfl⟩
theorem vX2_areTogether : MV mX2_areTogether 0 := ⟨oX2_areTogether, (Gs_of (tb_3 (i := 96) (by decide +kernel)) rfl), Gs_sel (i := 36) (q := (yX2_areTogether, 9)) (by decide +kernel) rfl⟩
abbrev mX2_isAlone : MN := (yX2_isAlone, cX2_isAlone, 3, (some .boolean))
set_option maxRecDepth 20000 in
theorem oX2_isAlone : MO mX2_isAlone 1 := ⟨(Gs_of (tb_3 (i := 135) rfl) rfl), (Gs_of (tb_1 (i := 3) (by decide +kernel)) rfl), ⟨by decide +kernel, by decide +kernel, by decide +kernel⟩, Nat.le_of_ble_eq_true rfl⟩
theorem vX2_isAlone : MV mX2_isAlone 1 := ⟨oX2_isAlone, (Gs_of (tb_3 (i := 134) (by decide +kernel)) rfl), Gs_sel (i := 40) (q := (yX2_isAlone, 9)) (by decide +kernel) rfl⟩
abbrev mX2_nobodyMoves : MN := (yX2_nobodyMoves, cX2_nobodyMoves, 2, (some .boolean))
set_option maxRecDepth 20000 in
theorem oX2_nobodyMoves : MO mX2_nobodyMoves 0 := ⟨(Gs_of (tb_3 (i := 105) rfl) rfl), (Gs_of (tb_1 (i := 3) (by decide +kernel)) rfl), ⟨by decide +kernel, by decide +kernel, by decide +kernel⟩, Nat.le_of_ble_eq_true rfl⟩
theorem vX2_nobodyMoves : MV mX2_nobodyMoves 0 := ⟨oX2_nobodyMoves, (Gs_of (tb_3 (i := 104) (by decide +kernel)) rfl), Gs_sel (i := 37) (q := (yX2_nobodyMoves, 9)) (by decide +kernel) rfl⟩
abbrev mX2_standsAs : MN := (yX2_standsAs, cX2_standsAs, 3, (some .boolean))
set_option maxRecDepth 20000 in
theorem oX2_standsAs : MO mX2_standsAs 1 := ⟨(Gs_of (tb_3 (i := 85) rfl) rfl), (Gs_of (tb_1 (i := 3) (by decide +kernel)) rfl), ⟨by decide +kernel, by decide +kernel, by decide +kernel⟩, Nat.le_of_ble_eq_true rfl⟩
theorem vX2_standsAs : MV mX2_standsAs 1 := ⟨oX2_standsAs, (Gs_of (tb_3 (i := 84) (by decide +kernel)) rfl), Gs_sel (i := 34) (q := (yX2_standsAs, 9)) (by decide +kernel) rfl⟩
abbrev mX2_placesTaken : MN := (yX2_placesTaken, cX2_placesTaken, 5, (some .int))
set_option maxRecDepth 20000 in
theorem oX2_placesTaken : MO mX2_placesTaken 0 := ⟨(Gs_of (tb_3 (i := 40) rfl) rfl), (Gs_of (tb_1 (i := 3) (by decide +kernel)) rfl), ⟨by decide +kernel, by decide +kernel, by decide +kernel⟩, Nat.le_of_ble_eq_true rfl⟩
theorem vX2_placesTaken : MV mX2_placesTaken 0 := ⟨oX2_placesTaken, (Gs_of (tb_3 (i := 39) (by decide +kernel)) rfl), Gs_sel (i := 27) (q := (yX2_placesTaken, 9)) (by decide +kernel) rfl⟩
abbrev mX2_apart : MN := (yX2_apart, cX2_apart, 4, (some .int))
set_option maxRecDepth 20000 in
theorem oX2_apart : MO mX2_apart 2 := ⟨(Gs_of (tb_3 (i := 117) rfl) rfl), (Gs_of (tb_1 (i := 3) (by decide +kernel)) rfl), ⟨by decide +kernel, by decide +kernel, by decide +kernel⟩, Nat.le_of_ble_eq_true rfl⟩
theorem vX2_apart : MV mX2_apart 2 := ⟨oX2_apart, (Gs_of (tb_3 (i := 116) (by decide +kernel)) rfl), Gs_sel (i := 38) (q := (yX2_apart, 9)) (by decide +kernel) rfl⟩
abbrev mX2_countStanding : MN := (yX2_countStanding, cX2_countStanding, 4, none)
set_option maxRecDepth 20000 in
theorem oX2_countStanding : MO mX2_countStanding 1 := ⟨(Gs_of (tb_3 (i := 154) rfl) rfl), (Gs_of (tb_1 (i := 3) (by decide +kernel)) rfl), ⟨by decide +kernel, by decide +kernel, by decide +kernel⟩, Nat.le_of_ble_eq_true rfl⟩
theorem vX2_countStanding : MV mX2_countStanding 1 := ⟨oX2_countStanding, (Gs_of (tb_3 (i := 153) (by decide +kernel)) rfl), Gs_sel (i := 41) (q := (yX2_countStanding, 9)) (by decide +kernel) rfl⟩
abbrev mX3_init : MN := (yX3_init, cX3_init, 1, none)
set_option maxRecDepth 20000 in
theorem oX3_init : MO mX3_init 0 := ⟨(Gs_of (tb_1 (i := 29) rfl) rfl), (Gs_of (tb_1 (i := 2) (by decide +kernel)) rfl), ⟨by decide +kernel, by decide +kernel, by decide +kernel⟩, Nat.le_of_ble_eq_true rfl⟩
abbrev mX3_clear : MN := (yX3_clear, cX3_clear, 1, none)
set_option maxRecDepth 20000 in
theorem oX3_clear : MO mX3_clear 0 := ⟨(Gs_of (tb_2 (i := 98) rfl) rfl), (Gs_of (tb_1 (i := 2) (by decide +kernel)) rfl), ⟨by decide +kernel, by decide +kernel, by decide +kernel⟩, Nat.le_of_ble_eq_true rfl⟩
theorem vX3_clear : MV mX3_clear 0 := ⟨oX3_clear, (Gs_of (tb_2 (i := 97) (by decide +kernel)) rfl), Gs_sel (i := 13) (q := (yX3_clear, 7)) (by decide +kernel) rfl⟩
abbrev mX3_setWide : MN := (yX3_setWide, cX3_setWide, 2, none)
set_option maxRecDepth 20000 in
theorem oX3_setWide : MO mX3_setWide 1 := ⟨(Gs_of (tb_2 (i := 177) rfl) rfl), (Gs_of (tb_1 (i := 2) (by decide +kernel)) rfl), ⟨by decide +kernel, by decide +kernel, by decide +kernel⟩, Nat.le_of_ble_eq_true rfl⟩
theorem vX3_setWide : MV mX3_setWide 1 := ⟨oX3_setWide, (Gs_of (tb_2 (i := 176) (by decide +kernel)) rfl), Gs_sel (i := 19) (q := (yX3_setWide, 7)) (by decide +kernel) rfl⟩
abbrev mX3_addCode : MN := (yX3_addCode, cX3_addCode, 2, none)
set_option maxRecDepth 20000 in
theorem oX3_addCode : MO mX3_addCode 1 := ⟨(Gs_of (tb_3 (i := 23) rfl) rfl), (Gs_of (tb_1 (i := 2) (by decide +kernel)) rfl), ⟨by decide +kernel, by decide +kernel, by decide +kernel⟩, Nat.le_of_ble_eq_true rfl⟩
theorem vX3_addCode : MV mX3_addCode 1 := ⟨oX3_addCode, (Gs_of (tb_3 (i := 22) (by decide +kernel)) rfl), Gs_sel (i := 24) (q := (yX3_addCode, 7)) (by decide +kernel) rfl⟩
abbrev mX3_testCode : MN := (yX3_testCode, cX3_testCode, 3, (some .int))
set_option maxRecDepth 20000 in
theorem oX3_testCode : MO mX3_testCode 3 := ⟨(Gs_of (tb_3 (i := 19) rfl) rfl), (Gs_of (tb_1 (i := 2) (by decide +kernel)) rfl), ⟨by decide +kernel, by decide +kernel, by decide +kernel⟩, Nat.le_of_ble_eq_true rfl⟩
theorem sX3_testCode : MS mX3_testCode 3 := ⟨oX3_testCode, (Gs_of (tb_3 (i := 18) (by decide +kernel)) rfl)⟩
abbrev mX3_addStep : MN := (yX3_addStep, cX3_addStep, 2, none)
set_option maxRecDepth 20000 in
theorem oX3_addStep : MO mX3_addStep 1 := ⟨(Gs_of (tb_3 (i := 27) rfl) rfl), (Gs_of (tb_1 (i := 2) (by decide +kernel)) rfl), ⟨by decide +kernel, by decide +kernel, by decide +kernel⟩, Nat.le_of_ble_eq_true rfl⟩
theorem vX3_addStep : MV mX3_addStep 1 := ⟨oX3_addStep, (Gs_of (tb_3 (i := 26) (by decide +kernel)) rfl), Gs_sel (i := 25) (q := (yX3_addStep, 7)) (by decide +kernel) rfl⟩
abbrev mX3_stopsAfter : MN := (yX3_stopsAfter, cX3_stopsAfter, 2, (some .boolean))
set_option maxRecDepth 20000 in
theorem oX3_stopsAfter : MO mX3_stopsAfter 1 := ⟨(Gs_of (tb_3 (i := 56) rfl) rfl), (Gs_of (tb_1 (i := 2) (by decide +kernel)) rfl), ⟨by decide +kernel, by decide +kernel, by decide +kernel⟩, Nat.le_of_ble_eq_true rfl⟩
theorem vX3_stopsAfter : MV mX3_stopsAfter 1 := ⟨oX3_stopsAfter, (Gs_of (tb_3 (i := 55) (by decide +kernel)) rfl), Gs_sel (i := 30) (q := (yX3_stopsAfter, 7)) (by decide +kernel) rfl⟩
abbrev mX3_stepFor : MN := (yX3_stepFor, cX3_stepFor, 6, (some .int))
set_option maxRecDepth 20000 in
theorem oX3_stepFor : MO mX3_stepFor 2 := ⟨(Gs_of (tb_2 (i := 29) rfl) rfl), (Gs_of (tb_1 (i := 2) (by decide +kernel)) rfl), ⟨by decide +kernel, by decide +kernel, by decide +kernel⟩, Nat.le_of_ble_eq_true rfl⟩
theorem vX3_stepFor : MV mX3_stepFor 2 := ⟨oX3_stepFor, (Gs_of (tb_2 (i := 28) (by decide +kernel)) rfl), Gs_sel (i := 4) (q := (yX3_stepFor, 7)) (by decide +kernel) rfl⟩
abbrev mX3_holds : MN := (yX3_holds, cX3_holds, 9, (some .boolean))
set_option maxRecDepth 20000 in
theorem oX3_holds : MO mX3_holds 4 := ⟨(Gs_of (tb_2 (i := 33) rfl) rfl), (Gs_of (tb_1 (i := 2) (by decide +kernel)) rfl), ⟨by decide +kernel, by decide +kernel, by decide +kernel⟩, Nat.le_of_ble_eq_true rfl⟩
theorem vX3_holds : MV mX3_holds 4 := ⟨oX3_holds, (Gs_of (tb_2 (i := 32) (by decide +kernel)) rfl), Gs_sel (i := 5) (q := (yX3_holds, 7)) (by decide +kernel) rfl⟩
abbrev mX3_passes : MN := (yX3_passes, cX3_passes, 6, (some .boolean))
set_option maxRecDepth 20000 in
theorem oX3_passes : MO mX3_passes 3 := ⟨(Gs_of (tb_2 (i := 37) rfl) rfl), (Gs_of (tb_1 (i := 2) (by decide +kernel)) rfl), ⟨by decide +kernel, by decide +kernel, by decide +kernel⟩, Nat.le_of_ble_eq_true rfl⟩
theorem sX3_passes : MS mX3_passes 3 := ⟨oX3_passes, (Gs_of (tb_2 (i := 36) (by decide +kernel)) rfl)⟩
abbrev mX4_init : MN := (yX4_init, cX4_init, 1, none)
set_option maxRecDepth 20000 in
theorem oX4_init : MO mX4_init 0 := ⟨(Gs_of (tb_1 (i := 144) rfl) rfl), (Gs_of (tb_1 (i := 5) (by decide +kernel)) rfl), ⟨by decide +kernel, by decide +kernel, by decide +kernel⟩, Nat.le_of_ble_eq_true rfl⟩
abbrev mX4_add : MN := (yX4_add, cX4_add, 2, none)
set_option maxRecDepth 20000 in
theorem oX4_add : MO mX4_add 1 := ⟨(Gs_of (tb_2 (i := 86) rfl) rfl), (Gs_of (tb_1 (i := 5) (by decide +kernel)) rfl), ⟨by decide +kernel, by decide +kernel, by decide +kernel⟩, Nat.le_of_ble_eq_true rfl⟩
theorem vX4_add : MV mX4_add 1 := ⟨oX4_add, (Gs_of (tb_2 (i := 85) (by decide +kernel)) rfl), Gs_sel (i := 11) (q := (yX4_add, 3)) (by decide +kernel) rfl⟩
abbrev mX4_readInto : MN := (yX4_readInto, cX4_readInto, 3, (some .boolean))
set_option maxRecDepth 20000 in
theorem oX4_readInto : MO mX4_readInto 1 := ⟨(Gs_of (tb_2 (i := 94) rfl) rfl), (Gs_of (tb_1 (i := 5) (by decide +kernel)) rfl), ⟨by decide +kernel, by decide +kernel, by decide +kernel⟩, Nat.le_of_ble_eq_true rfl⟩
theorem vX4_readInto : MV mX4_readInto 1 := ⟨oX4_readInto, (Gs_of (tb_2 (i := 93) (by decide +kernel)) rfl), Gs_sel (i := 12) (q := (yX4_readInto, 3)) (by decide +kernel) rfl⟩
abbrev mX4_readClause : MN := (yX4_readClause, cX4_readClause, 4, (some .boolean))
set_option maxRecDepth 20000 in
theorem oX4_readClause : MO mX4_readClause 1 := ⟨(Gs_of (tb_2 (i := 102) rfl) rfl), (Gs_of (tb_1 (i := 5) (by decide +kernel)) rfl), ⟨by decide +kernel, by decide +kernel, by decide +kernel⟩, Nat.le_of_ble_eq_true rfl⟩
theorem vX4_readClause : MV mX4_readClause 1 := ⟨oX4_readClause, (Gs_of (tb_2 (i := 101) (by decide +kernel)) rfl), Gs_sel (i := 14) (q := (yX4_readClause, 3)) (by decide +kernel) rfl⟩
abbrev mX4_wordOf : MN := (yX4_wordOf, cX4_wordOf, 1, (some (.object "java/lang/String")))
set_option maxRecDepth 20000 in
theorem oX4_wordOf : MO mX4_wordOf 1 := ⟨(Gs_of (tb_2 (i := 109) rfl) rfl), (Gs_of (tb_1 (i := 5) (by decide +kernel)) rfl), ⟨by decide +kernel, by decide +kernel, by decide +kernel⟩, Nat.le_of_ble_eq_true rfl⟩
theorem sX4_wordOf : MS mX4_wordOf 1 := ⟨oX4_wordOf, (Gs_of (tb_2 (i := 108) (by decide +kernel)) rfl)⟩
abbrev mX4_readAnyOf : MN := (yX4_readAnyOf, cX4_readAnyOf, 4, (some .boolean))
set_option maxRecDepth 20000 in
theorem oX4_readAnyOf : MO mX4_readAnyOf 2 := ⟨(Gs_of (tb_2 (i := 187) rfl) rfl), (Gs_of (tb_1 (i := 5) (by decide +kernel)) rfl), ⟨by decide +kernel, by decide +kernel, by decide +kernel⟩, Nat.le_of_ble_eq_true rfl⟩
theorem vX4_readAnyOf : MV mX4_readAnyOf 2 := ⟨oX4_readAnyOf, (Gs_of (tb_2 (i := 186) (by decide +kernel)) rfl), Gs_sel (i := 20) (q := (yX4_readAnyOf, 3)) (by decide +kernel) rfl⟩
abbrev mX4_readAllOf : MN := (yX4_readAllOf, cX4_readAllOf, 4, (some .boolean))
set_option maxRecDepth 20000 in
theorem oX4_readAllOf : MO mX4_readAllOf 2 := ⟨(Gs_of (tb_2 (i := 191) rfl) rfl), (Gs_of (tb_1 (i := 5) (by decide +kernel)) rfl), ⟨by decide +kernel, by decide +kernel, by decide +kernel⟩, Nat.le_of_ble_eq_true rfl⟩
theorem vX4_readAllOf : MV mX4_readAllOf 2 := ⟨oX4_readAllOf, (Gs_of (tb_2 (i := 190) (by decide +kernel)) rfl), Gs_sel (i := 21) (q := (yX4_readAllOf, 3)) (by decide +kernel) rfl⟩
abbrev mX4_readOne : MN := (yX4_readOne, cX4_readOne, 4, (some .boolean))
set_option maxRecDepth 20000 in
theorem oX4_readOne : MO mX4_readOne 2 := ⟨(Gs_of (tb_2 (i := 195) rfl) rfl), (Gs_of (tb_1 (i := 5) (by decide +kernel)) rfl), ⟨by decide +kernel, by decide +kernel, by decide +kernel⟩, Nat.le_of_ble_eq_true rfl⟩
theorem vX4_readOne : MV mX4_readOne 2 := ⟨oX4_readOne, (Gs_of (tb_2 (i := 194) (by decide +kernel)) rfl), Gs_sel (i := 22) (q := (yX4_readOne, 3)) (by decide +kernel) rfl⟩
abbrev mX4_readTest : MN := (yX4_readTest, cX4_readTest, 5, (some .boolean))
set_option maxRecDepth 20000 in
theorem oX4_readTest : MO mX4_readTest 1 := ⟨(Gs_of (tb_2 (i := 199) rfl) rfl), (Gs_of (tb_1 (i := 5) (by decide +kernel)) rfl), ⟨by decide +kernel, by decide +kernel, by decide +kernel⟩, Nat.le_of_ble_eq_true rfl⟩
theorem vX4_readTest : MV mX4_readTest 1 := ⟨oX4_readTest, (Gs_of (tb_2 (i := 198) (by decide +kernel)) rfl), Gs_sel (i := 23) (q := (yX4_readTest, 3)) (by decide +kernel) rfl⟩
abbrev mX4_readNumber : MN := (yX4_readNumber, cX4_readNumber, 4, (some .int))
set_option maxRecDepth 20000 in
theorem oX4_readNumber : MO mX4_readNumber 0 := ⟨(Gs_of (tb_2 (i := 173) rfl) rfl), (Gs_of (tb_1 (i := 5) (by decide +kernel)) rfl), ⟨by decide +kernel, by decide +kernel, by decide +kernel⟩, Nat.le_of_ble_eq_true rfl⟩
theorem vX4_readNumber : MV mX4_readNumber 0 := ⟨oX4_readNumber, (Gs_of (tb_2 (i := 172) (by decide +kernel)) rfl), Gs_sel (i := 18) (q := (yX4_readNumber, 3)) (by decide +kernel) rfl⟩
abbrev mX4_takesAll : MN := (yX4_takesAll, cX4_takesAll, 3, (some .boolean))
set_option maxRecDepth 20000 in
theorem oX4_takesAll : MO mX4_takesAll 1 := ⟨(Gs_of (tb_2 (i := 117) rfl) rfl), (Gs_of (tb_1 (i := 5) (by decide +kernel)) rfl), ⟨by decide +kernel, by decide +kernel, by decide +kernel⟩, Nat.le_of_ble_eq_true rfl⟩
theorem vX4_takesAll : MV mX4_takesAll 1 := ⟨oX4_takesAll, (Gs_of (tb_2 (i := 116) (by decide +kernel)) rfl), Gs_sel (i := 16) (q := (yX4_takesAll, 3)) (by decide +kernel) rfl⟩
abbrev mX4_takes : MN := (yX4_takes, cX4_takes, 2, (some .boolean))
set_option maxRecDepth 20000 in
theorem oX4_takes : MO mX4_takes 1 := ⟨(Gs_of (tb_2 (i := 169) rfl) rfl), (Gs_of (tb_1 (i := 5) (by decide +kernel)) rfl), ⟨by decide +kernel, by decide +kernel, by decide +kernel⟩, Nat.le_of_ble_eq_true rfl⟩
theorem vX4_takes : MV mX4_takes 1 := ⟨oX4_takes, (Gs_of (tb_2 (i := 168) (by decide +kernel)) rfl), Gs_sel (i := 17) (q := (yX4_takes, 3)) (by decide +kernel) rfl⟩
abbrev mX4_ahead : MN := (yX4_ahead, cX4_ahead, 1, (some .char))
set_option maxRecDepth 20000 in
theorem oX4_ahead : MO mX4_ahead 0 := ⟨(Gs_of (tb_2 (i := 106) rfl) rfl), (Gs_of (tb_1 (i := 5) (by decide +kernel)) rfl), ⟨by decide +kernel, by decide +kernel, by decide +kernel⟩, Nat.le_of_ble_eq_true rfl⟩
theorem vX4_ahead : MV mX4_ahead 0 := ⟨oX4_ahead, (Gs_of (tb_2 (i := 105) (by decide +kernel)) rfl), Gs_sel (i := 15) (q := (yX4_ahead, 3)) (by decide +kernel) rfl⟩
abbrev mX5_init : MN := (yX5_init, cX5_init, 1, none)
set_option maxRecDepth 20000 in
theorem oX5_init : MO mX5_init 0 := ⟨(Gs_of (tb_1 (i := 188) rfl) rfl), (Gs_of (tb_1 (i := 7) (by decide +kernel)) rfl), ⟨by decide +kernel, by decide +kernel, by decide +kernel⟩, Nat.le_of_ble_eq_true rfl⟩
abbrev mX5_become : MN := (yX5_become, cX5_become, 3, none)
set_option maxRecDepth 20000 in
theorem oX5_become : MO mX5_become 2 := ⟨(Gs_of (tb_4 (i := 49) rfl) rfl), (Gs_of (tb_1 (i := 7) (by decide +kernel)) rfl), ⟨by decide +kernel, by decide +kernel, by decide +kernel⟩, Nat.le_of_ble_eq_true rfl⟩
theorem vX5_become : MV mX5_become 2 := ⟨oX5_become, (Gs_of (tb_4 (i := 48) (by decide +kernel)) rfl), Gs_sel (i := 53) (q := (yX5_become, 3)) (by decide +kernel) rfl⟩
abbrev mX5_fitted : MN := (yX5_fitted, cX5_fitted, 3, (some .long))
set_option maxRecDepth 20000 in
theorem oX5_fitted : MO mX5_fitted 1 := ⟨(Gs_of (tb_4 (i := 62) rfl) rfl), (Gs_of (tb_1 (i := 7) (by decide +kernel)) rfl), ⟨by decide +kernel, by decide +kernel, by decide +kernel⟩, Nat.le_of_ble_eq_true rfl⟩
theorem vX5_fitted : MV mX5_fitted 1 := ⟨oX5_fitted, (Gs_of (tb_4 (i := 61) (by decide +kernel)) rfl), Gs_sel (i := 54) (q := (yX5_fitted, 3)) (by decide +kernel) rfl⟩
abbrev mX5_hasStretch : MN := (yX5_hasStretch, cX5_hasStretch, 3, (some .boolean))
set_option maxRecDepth 20000 in
theorem oX5_hasStretch : MO mX5_hasStretch 2 := ⟨(Gs_of (tb_4 (i := 74) rfl) rfl), (Gs_of (tb_1 (i := 7) (by decide +kernel)) rfl), ⟨by decide +kernel, by decide +kernel, by decide +kernel⟩, Nat.le_of_ble_eq_true rfl⟩
theorem vX5_hasStretch : MV mX5_hasStretch 2 := ⟨oX5_hasStretch, (Gs_of (tb_4 (i := 73) (by decide +kernel)) rfl), Gs_sel (i := 55) (q := (yX5_hasStretch, 3)) (by decide +kernel) rfl⟩
abbrev mX6_init : MN := (yX6_init, cX6_init, 3, none)
set_option maxRecDepth 20000 in
theorem oX6_init : MO mX6_init 0 := ⟨(Gs_of (tb_1 (i := 21) rfl) rfl), (Gs_of (tb_1 (i := 1) (by decide +kernel)) rfl), ⟨by decide +kernel, by decide +kernel, by decide +kernel⟩, Nat.le_of_ble_eq_true rfl⟩
abbrev mX6_dancer : MN := (yX6_dancer, cX6_dancer, 4, (some .int))
set_option maxRecDepth 20000 in
theorem oX6_dancer : MO mX6_dancer 3 := ⟨(Gs_of (tb_2 (i := 4) rfl) rfl), (Gs_of (tb_1 (i := 1) (by decide +kernel)) rfl), ⟨by decide +kernel, by decide +kernel, by decide +kernel⟩, Nat.le_of_ble_eq_true rfl⟩
theorem vX6_dancer : MV mX6_dancer 3 := ⟨oX6_dancer, (Gs_of (tb_2 (i := 2) (by decide +kernel)) rfl), (Gs_of (tb_2 (i := 3) (by decide +kernel)) rfl)⟩
abbrev mX6_of : MN := (yX6_of, cX6_of, 3, (some .int))
set_option maxRecDepth 20000 in
theorem oX6_of : MO mX6_of 2 := ⟨(Gs_of (tb_2 (i := 24) rfl) rfl), (Gs_of (tb_1 (i := 1) (by decide +kernel)) rfl), ⟨by decide +kernel, by decide +kernel, by decide +kernel⟩, Nat.le_of_ble_eq_true rfl⟩
theorem vX6_of : MV mX6_of 2 := ⟨oX6_of, (Gs_of (tb_2 (i := 22) (by decide +kernel)) rfl), (Gs_of (tb_2 (i := 23) (by decide +kernel)) rfl)⟩
abbrev mX6_after : MN := (yX6_after, cX6_after, 4, (some .int))
set_option maxRecDepth 20000 in
theorem oX6_after : MO mX6_after 2 := ⟨(Gs_of (tb_2 (i := 65) rfl) rfl), (Gs_of (tb_1 (i := 1) (by decide +kernel)) rfl), ⟨by decide +kernel, by decide +kernel, by decide +kernel⟩, Nat.le_of_ble_eq_true rfl⟩
theorem vX6_after : MV mX6_after 2 := ⟨oX6_after, (Gs_of (tb_2 (i := 63) (by decide +kernel)) rfl), (Gs_of (tb_2 (i := 64) (by decide +kernel)) rfl)⟩
abbrev mX6_begin : MN := (yX6_begin, cX6_begin, 4, (some .int))
set_option maxRecDepth 20000 in
theorem oX6_begin : MO mX6_begin 2 := ⟨(Gs_of (tb_2 (i := 73) rfl) rfl), (Gs_of (tb_1 (i := 1) (by decide +kernel)) rfl), ⟨by decide +kernel, by decide +kernel, by decide +kernel⟩, Nat.le_of_ble_eq_true rfl⟩
theorem vX6_begin : MV mX6_begin 2 := ⟨oX6_begin, (Gs_of (tb_2 (i := 71) (by decide +kernel)) rfl), (Gs_of (tb_2 (i := 72) (by decide +kernel)) rfl)⟩
abbrev mX6_row : MN := (yX6_row, cX6_row, 6, (some .int))
set_option maxRecDepth 20000 in
theorem oX6_row : MO mX6_row 3 := ⟨(Gs_of (tb_2 (i := 78) rfl) rfl), (Gs_of (tb_1 (i := 1) (by decide +kernel)) rfl), ⟨by decide +kernel, by decide +kernel, by decide +kernel⟩, Nat.le_of_ble_eq_true rfl⟩
theorem vX6_row : MV mX6_row 3 := ⟨oX6_row, (Gs_of (tb_2 (i := 76) (by decide +kernel)) rfl), (Gs_of (tb_2 (i := 77) (by decide +kernel)) rfl)⟩
abbrev mX6_feed : MN := (yX6_feed, cX6_feed, 2, (some .int))
set_option maxRecDepth 20000 in
theorem oX6_feed : MO mX6_feed 1 := ⟨(Gs_of (tb_2 (i := 82) rfl) rfl), (Gs_of (tb_1 (i := 1) (by decide +kernel)) rfl), ⟨by decide +kernel, by decide +kernel, by decide +kernel⟩, Nat.le_of_ble_eq_true rfl⟩
theorem vX6_feed : MV mX6_feed 1 := ⟨oX6_feed, (Gs_of (tb_2 (i := 80) (by decide +kernel)) rfl), (Gs_of (tb_2 (i := 81) (by decide +kernel)) rfl)⟩
abbrev mX6_hall : MN := (yX6_hall, cX6_hall, 3, (some .int))
set_option maxRecDepth 20000 in
theorem oX6_hall : MO mX6_hall 0 := ⟨(Gs_of (tb_2 (i := 90) rfl) rfl), (Gs_of (tb_1 (i := 1) (by decide +kernel)) rfl), ⟨by decide +kernel, by decide +kernel, by decide +kernel⟩, Nat.le_of_ble_eq_true rfl⟩
theorem vX6_hall : MV mX6_hall 0 := ⟨oX6_hall, (Gs_of (tb_2 (i := 88) (by decide +kernel)) rfl), (Gs_of (tb_2 (i := 89) (by decide +kernel)) rfl)⟩
abbrev mX6_told : MN := (yX6_told, cX6_told, 2, (some .int))
set_option maxRecDepth 20000 in
theorem oX6_told : MO mX6_told 1 := ⟨(Gs_of (tb_3 (i := 36) rfl) rfl), (Gs_of (tb_1 (i := 1) (by decide +kernel)) rfl), ⟨by decide +kernel, by decide +kernel, by decide +kernel⟩, Nat.le_of_ble_eq_true rfl⟩
theorem vX6_told : MV mX6_told 1 := ⟨oX6_told, (Gs_of (tb_3 (i := 34) (by decide +kernel)) rfl), (Gs_of (tb_3 (i := 35) (by decide +kernel)) rfl)⟩
abbrev mX6_pass : MN := (yX6_pass, cX6_pass, 2, (some .int))
set_option maxRecDepth 20000 in
theorem oX6_pass : MO mX6_pass 1 := ⟨(Gs_of (tb_3 (i := 44) rfl) rfl), (Gs_of (tb_1 (i := 1) (by decide +kernel)) rfl), ⟨by decide +kernel, by decide +kernel, by decide +kernel⟩, Nat.le_of_ble_eq_true rfl⟩
theorem vX6_pass : MV mX6_pass 1 := ⟨oX6_pass, (Gs_of (tb_3 (i := 42) (by decide +kernel)) rfl), (Gs_of (tb_3 (i := 43) (by decide +kernel)) rfl)⟩
abbrev mX6_on : MN := (yX6_on, cX6_on, 3, (some .int))
set_option maxRecDepth 20000 in
theorem oX6_on : MO mX6_on 2 := ⟨(Gs_of (tb_3 (i := 64) rfl) rfl), (Gs_of (tb_1 (i := 1) (by decide +kernel)) rfl), ⟨by decide +kernel, by decide +kernel, by decide +kernel⟩, Nat.le_of_ble_eq_true rfl⟩
theorem vX6_on : MV mX6_on 2 := ⟨oX6_on, (Gs_of (tb_3 (i := 62) (by decide +kernel)) rfl), (Gs_of (tb_3 (i := 63) (by decide +kernel)) rfl)⟩
abbrev mX6_again : MN := (yX6_again, cX6_again, 2, (some .int))
set_option maxRecDepth 20000 in
theorem oX6_again : MO mX6_again 0 := ⟨(Gs_of (tb_3 (i := 80) rfl) rfl), (Gs_of (tb_1 (i := 1) (by decide +kernel)) rfl), ⟨by decide +kernel, by decide +kernel, by decide +kernel⟩, Nat.le_of_ble_eq_true rfl⟩
theorem vX6_again : MV mX6_again 0 := ⟨oX6_again, (Gs_of (tb_3 (i := 78) (by decide +kernel)) rfl), (Gs_of (tb_3 (i := 79) (by decide +kernel)) rfl)⟩
abbrev mX6_together : MN := (yX6_together, cX6_together, 1, (some .int))
set_option maxRecDepth 20000 in
theorem oX6_together : MO mX6_together 0 := ⟨(Gs_of (tb_3 (i := 89) rfl) rfl), (Gs_of (tb_1 (i := 1) (by decide +kernel)) rfl), ⟨by decide +kernel, by decide +kernel, by decide +kernel⟩, Nat.le_of_ble_eq_true rfl⟩
theorem vX6_together : MV mX6_together 0 := ⟨oX6_together, (Gs_of (tb_3 (i := 87) (by decide +kernel)) rfl), (Gs_of (tb_3 (i := 88) (by decide +kernel)) rfl)⟩
abbrev mX6_still : MN := (yX6_still, cX6_still, 2, (some .int))
set_option maxRecDepth 20000 in
theorem oX6_still : MO mX6_still 0 := ⟨(Gs_of (tb_3 (i := 101) rfl) rfl), (Gs_of (tb_1 (i := 1) (by decide +kernel)) rfl), ⟨by decide +kernel, by decide +kernel, by decide +kernel⟩, Nat.le_of_ble_eq_true rfl⟩
theorem vX6_still : MV mX6_still 0 := ⟨oX6_still, (Gs_of (tb_3 (i := 99) (by decide +kernel)) rfl), (Gs_of (tb_3 (i := 100) (by decide +kernel)) rfl)⟩
abbrev mX6_meet : MN := (yX6_meet, cX6_meet, 4, (some .int))
set_option maxRecDepth 20000 in
theorem oX6_meet : MO mX6_meet 2 := ⟨(Gs_of (tb_3 (i := 109) rfl) rfl), (Gs_of (tb_1 (i := 1) (by decide +kernel)) rfl), ⟨by decide +kernel, by decide +kernel, by decide +kernel⟩, Nat.le_of_ble_eq_true rfl⟩
theorem vX6_meet : MV mX6_meet 2 := ⟨oX6_meet, (Gs_of (tb_3 (i := 107) (by decide +kernel)) rfl), (Gs_of (tb_3 (i := 108) (by decide +kernel)) rfl)⟩
abbrev mX6_far : MN := (yX6_far, cX6_far, 6, (some .int))
set_option maxRecDepth 20000 in
theorem oX6_far : MO mX6_far 3 := ⟨(Gs_of (tb_3 (i := 113) rfl) rfl), (Gs_of (tb_1 (i := 1) (by decide +kernel)) rfl), ⟨by decide +kernel, by decide +kernel, by decide +kernel⟩, Nat.le_of_ble_eq_true rfl⟩
theorem vX6_far : MV mX6_far 3 := ⟨oX6_far, (Gs_of (tb_3 (i := 111) (by decide +kernel)) rfl), (Gs_of (tb_3 (i := 112) (by decide +kernel)) rfl)⟩
abbrev mX6_whom : MN := (yX6_whom, cX6_whom, 6, (some .int))
set_option maxRecDepth 20000 in
theorem oX6_whom : MO mX6_whom 1 := ⟨(Gs_of (tb_3 (i := 123) rfl) rfl), (Gs_of (tb_1 (i := 1) (by decide +kernel)) rfl), ⟨by decide +kernel, by decide +kernel, by decide +kernel⟩, Nat.le_of_ble_eq_true rfl⟩
theorem vX6_whom : MV mX6_whom 1 := ⟨oX6_whom, (Gs_of (tb_3 (i := 121) (by decide +kernel)) rfl), (Gs_of (tb_3 (i := 122) (by decide +kernel)) rfl)⟩
abbrev mX6_alone : MN := (yX6_alone, cX6_alone, 8, (some .int))
set_option maxRecDepth 20000 in
theorem oX6_alone : MO mX6_alone 3 := ⟨(Gs_of (tb_3 (i := 127) rfl) rfl), (Gs_of (tb_1 (i := 1) (by decide +kernel)) rfl), ⟨by decide +kernel, by decide +kernel, by decide +kernel⟩, Nat.le_of_ble_eq_true rfl⟩
theorem vX6_alone : MV mX6_alone 3 := ⟨oX6_alone, (Gs_of (tb_3 (i := 125) (by decide +kernel)) rfl), (Gs_of (tb_3 (i := 126) (by decide +kernel)) rfl)⟩
abbrev mX6_stop : MN := (yX6_stop, cX6_stop, 6, (some .int))
set_option maxRecDepth 20000 in
theorem oX6_stop : MO mX6_stop 0 := ⟨(Gs_of (tb_3 (i := 139) rfl) rfl), (Gs_of (tb_1 (i := 1) (by decide +kernel)) rfl), ⟨by decide +kernel, by decide +kernel, by decide +kernel⟩, Nat.le_of_ble_eq_true rfl⟩
theorem vX6_stop : MV mX6_stop 0 := ⟨oX6_stop, (Gs_of (tb_3 (i := 137) (by decide +kernel)) rfl), (Gs_of (tb_3 (i := 138) (by decide +kernel)) rfl)⟩
abbrev mX6_begins : MN := (yX6_begins, cX6_begins, 7, (some .int))
set_option maxRecDepth 20000 in
theorem oX6_begins : MO mX6_begins 3 := ⟨(Gs_of (tb_3 (i := 143) rfl) rfl), (Gs_of (tb_1 (i := 1) (by decide +kernel)) rfl), ⟨by decide +kernel, by decide +kernel, by decide +kernel⟩, Nat.le_of_ble_eq_true rfl⟩
theorem vX6_begins : MV mX6_begins 3 := ⟨oX6_begins, (Gs_of (tb_3 (i := 141) (by decide +kernel)) rfl), (Gs_of (tb_3 (i := 142) (by decide +kernel)) rfl)⟩
abbrev mX6_crowd : MN := (yX6_crowd, cX6_crowd, 4, (some .int))
set_option maxRecDepth 20000 in
theorem oX6_crowd : MO mX6_crowd 1 := ⟨(Gs_of (tb_3 (i := 147) rfl) rfl), (Gs_of (tb_1 (i := 1) (by decide +kernel)) rfl), ⟨by decide +kernel, by decide +kernel, by decide +kernel⟩, Nat.le_of_ble_eq_true rfl⟩
theorem vX6_crowd : MV mX6_crowd 1 := ⟨oX6_crowd, (Gs_of (tb_3 (i := 145) (by decide +kernel)) rfl), (Gs_of (tb_3 (i := 146) (by decide +kernel)) rfl)⟩
abbrev mX6_see : MN := (yX6_see, cX6_see, 4, (some .int))
set_option maxRecDepth 20000 in
theorem oX6_see : MO mX6_see 3 := ⟨(Gs_of (tb_3 (i := 158) rfl) rfl), (Gs_of (tb_1 (i := 1) (by decide +kernel)) rfl), ⟨by decide +kernel, by decide +kernel, by decide +kernel⟩, Nat.le_of_ble_eq_true rfl⟩
theorem vX6_see : MV mX6_see 3 := ⟨oX6_see, (Gs_of (tb_3 (i := 156) (by decide +kernel)) rfl), (Gs_of (tb_3 (i := 157) (by decide +kernel)) rfl)⟩
abbrev mX6_can : MN := (yX6_can, cX6_can, 4, (some .int))
set_option maxRecDepth 20000 in
theorem oX6_can : MO mX6_can 1 := ⟨(Gs_of (tb_3 (i := 166) rfl) rfl), (Gs_of (tb_1 (i := 1) (by decide +kernel)) rfl), ⟨by decide +kernel, by decide +kernel, by decide +kernel⟩, Nat.le_of_ble_eq_true rfl⟩
theorem vX6_can : MV mX6_can 1 := ⟨oX6_can, (Gs_of (tb_3 (i := 164) (by decide +kernel)) rfl), (Gs_of (tb_3 (i := 165) (by decide +kernel)) rfl)⟩
abbrev mX6_odds : MN := (yX6_odds, cX6_odds, 5, (some .long))
set_option maxRecDepth 20000 in
theorem oX6_odds : MO mX6_odds 2 := ⟨(Gs_of (tb_3 (i := 176) rfl) rfl), (Gs_of (tb_1 (i := 1) (by decide +kernel)) rfl), ⟨by decide +kernel, by decide +kernel, by decide +kernel⟩, Nat.le_of_ble_eq_true rfl⟩
theorem vX6_odds : MV mX6_odds 2 := ⟨oX6_odds, (Gs_of (tb_3 (i := 174) (by decide +kernel)) rfl), (Gs_of (tb_3 (i := 175) (by decide +kernel)) rfl)⟩
abbrev mX6_mean : MN := (yX6_mean, cX6_mean, 7, (some .long))
set_option maxRecDepth 20000 in
theorem oX6_mean : MO mX6_mean 2 := ⟨(Gs_of (tb_3 (i := 184) rfl) rfl), (Gs_of (tb_1 (i := 1) (by decide +kernel)) rfl), ⟨by decide +kernel, by decide +kernel, by decide +kernel⟩, Nat.le_of_ble_eq_true rfl⟩
theorem vX6_mean : MV mX6_mean 2 := ⟨oX6_mean, (Gs_of (tb_3 (i := 182) (by decide +kernel)) rfl), (Gs_of (tb_3 (i := 183) (by decide +kernel)) rfl)⟩
abbrev mX6_dance : MN := (yX6_dance, cX6_dance, 2, (some .int))
set_option maxRecDepth 20000 in
theorem oX6_dance : MO mX6_dance 1 := ⟨(Gs_of (tb_3 (i := 188) rfl) rfl), (Gs_of (tb_1 (i := 1) (by decide +kernel)) rfl), ⟨by decide +kernel, by decide +kernel, by decide +kernel⟩, Nat.le_of_ble_eq_true rfl⟩
theorem vX6_dance : MV mX6_dance 1 := ⟨oX6_dance, (Gs_of (tb_3 (i := 186) (by decide +kernel)) rfl), (Gs_of (tb_3 (i := 187) (by decide +kernel)) rfl)⟩
abbrev mX6_danced : MN := (yX6_danced, cX6_danced, 2, (some .int))
set_option maxRecDepth 20000 in
theorem oX6_danced : MO mX6_danced 1 := ⟨(Gs_of (tb_3 (i := 196) rfl) rfl), (Gs_of (tb_1 (i := 1) (by decide +kernel)) rfl), ⟨by decide +kernel, by decide +kernel, by decide +kernel⟩, Nat.le_of_ble_eq_true rfl⟩
theorem vX6_danced : MV mX6_danced 1 := ⟨oX6_danced, (Gs_of (tb_3 (i := 194) (by decide +kernel)) rfl), (Gs_of (tb_3 (i := 195) (by decide +kernel)) rfl)⟩
abbrev mX6_book : MN := (yX6_book, cX6_book, 3, (some .int))
set_option maxRecDepth 20000 in
theorem oX6_book : MO mX6_book 2 := ⟨(Gs_of (tb_3 (i := 208) rfl) rfl), (Gs_of (tb_1 (i := 1) (by decide +kernel)) rfl), ⟨by decide +kernel, by decide +kernel, by decide +kernel⟩, Nat.le_of_ble_eq_true rfl⟩
theorem vX6_book : MV mX6_book 2 := ⟨oX6_book, (Gs_of (tb_3 (i := 206) (by decide +kernel)) rfl), (Gs_of (tb_3 (i := 207) (by decide +kernel)) rfl)⟩
abbrev mX6_looked : MN := (yX6_looked, cX6_looked, 1, (some .int))
set_option maxRecDepth 20000 in
theorem oX6_looked : MO mX6_looked 0 := ⟨(Gs_of (tb_3 (i := 216) rfl) rfl), (Gs_of (tb_1 (i := 1) (by decide +kernel)) rfl), ⟨by decide +kernel, by decide +kernel, by decide +kernel⟩, Nat.le_of_ble_eq_true rfl⟩
theorem vX6_looked : MV mX6_looked 0 := ⟨oX6_looked, (Gs_of (tb_3 (i := 214) (by decide +kernel)) rfl), (Gs_of (tb_3 (i := 215) (by decide +kernel)) rfl)⟩
abbrev mX6_judge : MN := (yX6_judge, cX6_judge, 8, (some .int))
set_option maxRecDepth 20000 in
theorem oX6_judge : MO mX6_judge 2 := ⟨(Gs_of (tb_3 (i := 224) rfl) rfl), (Gs_of (tb_1 (i := 1) (by decide +kernel)) rfl), ⟨by decide +kernel, by decide +kernel, by decide +kernel⟩, Nat.le_of_ble_eq_true rfl⟩
theorem vX6_judge : MV mX6_judge 2 := ⟨oX6_judge, (Gs_of (tb_3 (i := 222) (by decide +kernel)) rfl), (Gs_of (tb_3 (i := 223) (by decide +kernel)) rfl)⟩
abbrev mX6_image : MN := (yX6_image, cX6_image, 1, (some .int))
set_option maxRecDepth 20000 in
theorem oX6_image : MO mX6_image 0 := ⟨(Gs_of (tb_3 (i := 231) rfl) rfl), (Gs_of (tb_1 (i := 1) (by decide +kernel)) rfl), ⟨by decide +kernel, by decide +kernel, by decide +kernel⟩, Nat.le_of_ble_eq_true rfl⟩
theorem vX6_image : MV mX6_image 0 := ⟨oX6_image, (Gs_of (tb_3 (i := 229) (by decide +kernel)) rfl), (Gs_of (tb_3 (i := 230) (by decide +kernel)) rfl)⟩
abbrev mX6_undo : MN := (yX6_undo, cX6_undo, 1, (some .int))
set_option maxRecDepth 20000 in
theorem oX6_undo : MO mX6_undo 0 := ⟨(Gs_of (tb_4 (i := 0) rfl) rfl), (Gs_of (tb_1 (i := 1) (by decide +kernel)) rfl), ⟨by decide +kernel, by decide +kernel, by decide +kernel⟩, Nat.le_of_ble_eq_true rfl⟩
theorem vX6_undo : MV mX6_undo 0 := ⟨oX6_undo, (Gs_of (tb_3 (i := 238) (by decide +kernel)) rfl), (Gs_of (tb_3 (i := 239) (by decide +kernel)) rfl)⟩
abbrev mX6_act : MN := (yX6_act, cX6_act, 4, (some .int))
set_option maxRecDepth 20000 in
theorem oX6_act : MO mX6_act 3 := ⟨(Gs_of (tb_4 (i := 4) rfl) rfl), (Gs_of (tb_1 (i := 1) (by decide +kernel)) rfl), ⟨by decide +kernel, by decide +kernel, by decide +kernel⟩, Nat.le_of_ble_eq_true rfl⟩
theorem vX6_act : MV mX6_act 3 := ⟨oX6_act, (Gs_of (tb_4 (i := 2) (by decide +kernel)) rfl), (Gs_of (tb_4 (i := 3) (by decide +kernel)) rfl)⟩
abbrev mX6_trace : MN := (yX6_trace, cX6_trace, 2, (some .int))
set_option maxRecDepth 20000 in
theorem oX6_trace : MO mX6_trace 1 := ⟨(Gs_of (tb_4 (i := 32) rfl) rfl), (Gs_of (tb_1 (i := 1) (by decide +kernel)) rfl), ⟨by decide +kernel, by decide +kernel, by decide +kernel⟩, Nat.le_of_ble_eq_true rfl⟩
theorem vX6_trace : MV mX6_trace 1 := ⟨oX6_trace, (Gs_of (tb_4 (i := 30) (by decide +kernel)) rfl), (Gs_of (tb_4 (i := 31) (by decide +kernel)) rfl)⟩
abbrev mX6_taken : MN := (yX6_taken, cX6_taken, 6, (some .int))
set_option maxRecDepth 20000 in
theorem oX6_taken : MO mX6_taken 2 := ⟨(Gs_of (tb_4 (i := 36) rfl) rfl), (Gs_of (tb_1 (i := 1) (by decide +kernel)) rfl), ⟨by decide +kernel, by decide +kernel, by decide +kernel⟩, Nat.le_of_ble_eq_true rfl⟩
theorem vX6_taken : MV mX6_taken 2 := ⟨oX6_taken, (Gs_of (tb_4 (i := 34) (by decide +kernel)) rfl), (Gs_of (tb_4 (i := 35) (by decide +kernel)) rfl)⟩
abbrev mX6_count : MN := (yX6_count, cX6_count, 2, (some .int))
set_option maxRecDepth 20000 in
theorem oX6_count : MO mX6_count 1 := ⟨(Gs_of (tb_4 (i := 41) rfl) rfl), (Gs_of (tb_1 (i := 1) (by decide +kernel)) rfl), ⟨by decide +kernel, by decide +kernel, by decide +kernel⟩, Nat.le_of_ble_eq_true rfl⟩
theorem vX6_count : MV mX6_count 1 := ⟨oX6_count, (Gs_of (tb_4 (i := 39) (by decide +kernel)) rfl), (Gs_of (tb_4 (i := 40) (by decide +kernel)) rfl)⟩
abbrev mX6_tape : MN := (yX6_tape, cX6_tape, 4, (some .int))
set_option maxRecDepth 20000 in
theorem oX6_tape : MO mX6_tape 3 := ⟨(Gs_of (tb_4 (i := 45) rfl) rfl), (Gs_of (tb_1 (i := 1) (by decide +kernel)) rfl), ⟨by decide +kernel, by decide +kernel, by decide +kernel⟩, Nat.le_of_ble_eq_true rfl⟩
theorem vX6_tape : MV mX6_tape 3 := ⟨oX6_tape, (Gs_of (tb_4 (i := 43) (by decide +kernel)) rfl), (Gs_of (tb_4 (i := 44) (by decide +kernel)) rfl)⟩
abbrev mX6_item : MN := (yX6_item, cX6_item, 6, (some .int))
set_option maxRecDepth 20000 in
theorem oX6_item : MO mX6_item 3 := ⟨(Gs_of (tb_4 (i := 58) rfl) rfl), (Gs_of (tb_1 (i := 1) (by decide +kernel)) rfl), ⟨by decide +kernel, by decide +kernel, by decide +kernel⟩, Nat.le_of_ble_eq_true rfl⟩
theorem vX6_item : MV mX6_item 3 := ⟨oX6_item, (Gs_of (tb_4 (i := 56) (by decide +kernel)) rfl), (Gs_of (tb_4 (i := 57) (by decide +kernel)) rfl)⟩
abbrev mX6_read : MN := (yX6_read, cX6_read, 4, (some .long))
set_option maxRecDepth 20000 in
theorem oX6_read : MO mX6_read 2 := ⟨(Gs_of (tb_4 (i := 66) rfl) rfl), (Gs_of (tb_1 (i := 1) (by decide +kernel)) rfl), ⟨by decide +kernel, by decide +kernel, by decide +kernel⟩, Nat.le_of_ble_eq_true rfl⟩
theorem vX6_read : MV mX6_read 2 := ⟨oX6_read, (Gs_of (tb_4 (i := 64) (by decide +kernel)) rfl), (Gs_of (tb_4 (i := 65) (by decide +kernel)) rfl)⟩
abbrev mX6_shift : MN := (yX6_shift, cX6_shift, 8, (some .int))
set_option maxRecDepth 20000 in
theorem oX6_shift : MO mX6_shift 5 := ⟨(Gs_of (tb_4 (i := 70) rfl) rfl), (Gs_of (tb_1 (i := 1) (by decide +kernel)) rfl), ⟨by decide +kernel, by decide +kernel, by decide +kernel⟩, Nat.le_of_ble_eq_true rfl⟩
theorem vX6_shift : MV mX6_shift 5 := ⟨oX6_shift, (Gs_of (tb_4 (i := 68) (by decide +kernel)) rfl), (Gs_of (tb_4 (i := 69) (by decide +kernel)) rfl)⟩
abbrev mX6_asksForPlaces : MN := (yX6_asksForPlaces, cX6_asksForPlaces, 2, (some .boolean))
set_option maxRecDepth 20000 in
theorem oX6_asksForPlaces : MO mX6_asksForPlaces 1 := ⟨(Gs_of (tb_3 (i := 68) rfl) rfl), (Gs_of (tb_1 (i := 1) (by decide +kernel)) rfl), ⟨by decide +kernel, by decide +kernel, by decide +kernel⟩, Nat.le_of_ble_eq_true rfl⟩
theorem vX6_asksForPlaces : MV mX6_asksForPlaces 1 := ⟨oX6_asksForPlaces, (Gs_of (tb_3 (i := 67) (by decide +kernel)) rfl), Gs_sel (i := 31) (q := (yX6_asksForPlaces, 12)) (by decide +kernel) rfl⟩
abbrev mX6_placesAsked : MN := (yX6_placesAsked, cX6_placesAsked, 2, (some .int))
set_option maxRecDepth 20000 in
theorem oX6_placesAsked : MO mX6_placesAsked 1 := ⟨(Gs_of (tb_3 (i := 76) rfl) rfl), (Gs_of (tb_1 (i := 1) (by decide +kernel)) rfl), ⟨by decide +kernel, by decide +kernel, by decide +kernel⟩, Nat.le_of_ble_eq_true rfl⟩
theorem vX6_placesAsked : MV mX6_placesAsked 1 := ⟨oX6_placesAsked, (Gs_of (tb_3 (i := 75) (by decide +kernel)) rfl), Gs_sel (i := 33) (q := (yX6_placesAsked, 12)) (by decide +kernel) rfl⟩
abbrev mX6_isTape : MN := (yX6_isTape, cX6_isTape, 1, (some .boolean))
set_option maxRecDepth 20000 in
theorem oX6_isTape : MO mX6_isTape 1 := ⟨(Gs_of (tb_3 (i := 227) rfl) rfl), (Gs_of (tb_1 (i := 1) (by decide +kernel)) rfl), ⟨by decide +kernel, by decide +kernel, by decide +kernel⟩, Nat.le_of_ble_eq_true rfl⟩
theorem sX6_isTape : MS mX6_isTape 1 := ⟨oX6_isTape, (Gs_of (tb_3 (i := 226) (by decide +kernel)) rfl)⟩
abbrev mX6_partOfFraction : MN := (yX6_partOfFraction, cX6_partOfFraction, 4, (some .long))
set_option maxRecDepth 20000 in
theorem oX6_partOfFraction : MO mX6_partOfFraction 3 := ⟨(Gs_of (tb_3 (i := 180) rfl) rfl), (Gs_of (tb_1 (i := 1) (by decide +kernel)) rfl), ⟨by decide +kernel, by decide +kernel, by decide +kernel⟩, Nat.le_of_ble_eq_true rfl⟩
theorem sX6_partOfFraction : MS mX6_partOfFraction 3 := ⟨oX6_partOfFraction, (Gs_of (tb_3 (i := 179) (by decide +kernel)) rfl)⟩
abbrev mX6_modulo : MN := (yX6_modulo, cX6_modulo, 2, (some .int))
set_option maxRecDepth 20000 in
theorem oX6_modulo : MO mX6_modulo 2 := ⟨(Gs_of (tb_2 (i := 57) rfl) rfl), (Gs_of (tb_1 (i := 1) (by decide +kernel)) rfl), ⟨by decide +kernel, by decide +kernel, by decide +kernel⟩, Nat.le_of_ble_eq_true rfl⟩
theorem sX6_modulo : MS mX6_modulo 2 := ⟨oX6_modulo, (Gs_of (tb_2 (i := 56) (by decide +kernel)) rfl)⟩
abbrev mX7_init : MN := (yX7_init, cX7_init, 1, none)
set_option maxRecDepth 20000 in
theorem oX7_init : MO mX7_init 0 := ⟨(Gs_of (tb_4 (i := 80) rfl) rfl), (Gs_of (tb_1 (i := 8) (by decide +kernel)) rfl), ⟨by decide +kernel, by decide +kernel, by decide +kernel⟩, Nat.le_of_ble_eq_true rfl⟩
abbrev mX7_in : MN := (yX7_in, cX7_in, 4, (some .boolean))
set_option maxRecDepth 20000 in
theorem oX7_in : MO mX7_in 3 := ⟨(Gs_of (tb_5 (i := 43) rfl) rfl), (Gs_of (tb_1 (i := 8) (by decide +kernel)) rfl), ⟨by decide +kernel, by decide +kernel, by decide +kernel⟩, Nat.le_of_ble_eq_true rfl⟩
theorem vX7_in : MV mX7_in 3 := ⟨oX7_in, (Gs_of (tb_5 (i := 42) (by decide +kernel)) rfl), Gs_sel (i := 56) (q := (yX7_in, 64)) (by decide +kernel) rfl⟩
abbrev mX7_isDancer : MN := (yX7_isDancer, cX7_isDancer, 2, (some .boolean))
set_option maxRecDepth 20000 in
theorem oX7_isDancer : MO mX7_isDancer 1 := ⟨(Gs_of (tb_5 (i := 71) rfl) rfl), (Gs_of (tb_1 (i := 8) (by decide +kernel)) rfl), ⟨by decide +kernel, by decide +kernel, by decide +kernel⟩, Nat.le_of_ble_eq_true rfl⟩
theorem vX7_isDancer : MV mX7_isDancer 1 := ⟨oX7_isDancer, (Gs_of (tb_5 (i := 70) (by decide +kernel)) rfl), Gs_sel (i := 62) (q := (yX7_isDancer, 64)) (by decide +kernel) rfl⟩
abbrev mX7_isPlace : MN := (yX7_isPlace, cX7_isPlace, 2, (some .boolean))
set_option maxRecDepth 20000 in
theorem oX7_isPlace : MO mX7_isPlace 1 := ⟨(Gs_of (tb_6 (i := 39) rfl) rfl), (Gs_of (tb_1 (i := 8) (by decide +kernel)) rfl), ⟨by decide +kernel, by decide +kernel, by decide +kernel⟩, Nat.le_of_ble_eq_true rfl⟩
theorem vX7_isPlace : MV mX7_isPlace 1 := ⟨oX7_isPlace, (Gs_of (tb_6 (i := 38) (by decide +kernel)) rfl), Gs_sel (i := 95) (q := (yX7_isPlace, 64)) (by decide +kernel) rfl⟩
abbrev mX7_isBeats : MN := (yX7_isBeats, cX7_isBeats, 2, (some .boolean))
set_option maxRecDepth 20000 in
theorem oX7_isBeats : MO mX7_isBeats 1 := ⟨(Gs_of (tb_5 (i := 187) rfl) rfl), (Gs_of (tb_1 (i := 8) (by decide +kernel)) rfl), ⟨by decide +kernel, by decide +kernel, by decide +kernel⟩, Nat.le_of_ble_eq_true rfl⟩
theorem vX7_isBeats : MV mX7_isBeats 1 := ⟨oX7_isBeats, (Gs_of (tb_5 (i := 186) (by decide +kernel)) rfl), Gs_sel (i := 84) (q := (yX7_isBeats, 64)) (by decide +kernel) rfl⟩
abbrev mX7_laysAll : MN := (yX7_laysAll, cX7_laysAll, 4, none)
set_option maxRecDepth 20000 in
theorem oX7_laysAll : MO mX7_laysAll 2 := ⟨(Gs_of (tb_5 (i := 63) rfl) rfl), (Gs_of (tb_1 (i := 8) (by decide +kernel)) rfl), ⟨by decide +kernel, by decide +kernel, by decide +kernel⟩, Nat.le_of_ble_eq_true rfl⟩
theorem vX7_laysAll : MV mX7_laysAll 2 := ⟨oX7_laysAll, (Gs_of (tb_5 (i := 62) (by decide +kernel)) rfl), Gs_sel (i := 61) (q := (yX7_laysAll, 64)) (by decide +kernel) rfl⟩
abbrev mX7_dancer : MN := (yX7_dancer, cX7_dancer, 5, (some .int))
set_option maxRecDepth 20000 in
theorem oX7_dancer : MO mX7_dancer 3 := ⟨(Gs_of (tb_5 (i := 39) rfl) rfl), (Gs_of (tb_1 (i := 8) (by decide +kernel)) rfl), ⟨by decide +kernel, by decide +kernel, by decide +kernel⟩, Nat.le_of_ble_eq_true rfl⟩
theorem vX7_dancer : MV mX7_dancer 3 := ⟨oX7_dancer, (Gs_of (tb_5 (i := 37) (by decide +kernel)) rfl), (Gs_of (tb_5 (i := 38) (by decide +kernel)) rfl)⟩
abbrev mX7_after : MN := (yX7_after, cX7_after, 4, (some .int))
set_option maxRecDepth 20000 in
theorem oX7_after : MO mX7_after 2 := ⟨(Gs_of (tb_5 (i := 67) rfl) rfl), (Gs_of (tb_1 (i := 8) (by decide +kernel)) rfl), ⟨by decide +kernel, by decide +kernel, by decide +kernel⟩, Nat.le_of_ble_eq_true rfl⟩
theorem vX7_after : MV mX7_after 2 := ⟨oX7_after, (Gs_of (tb_5 (i := 65) (by decide +kernel)) rfl), (Gs_of (tb_5 (i := 66) (by decide +kernel)) rfl)⟩
abbrev mX7_begin : MN := (yX7_begin, cX7_begin, 4, (some .int))
set_option maxRecDepth 20000 in
theorem oX7_begin : MO mX7_begin 2 := ⟨(Gs_of (tb_5 (i := 75) rfl) rfl), (Gs_of (tb_1 (i := 8) (by decide +kernel)) rfl), ⟨by decide +kernel, by decide +kernel, by decide +kernel⟩, Nat.le_of_ble_eq_true rfl⟩
theorem vX7_begin : MV mX7_begin 2 := ⟨oX7_begin, (Gs_of (tb_5 (i := 73) (by decide +kernel)) rfl), (Gs_of (tb_5 (i := 74) (by decide +kernel)) rfl)⟩
abbrev mX7_row : MN := (yX7_row, cX7_row, 5, (some .int))
set_option maxRecDepth 20000 in
theorem oX7_row : MO mX7_row 3 := ⟨(Gs_of (tb_5 (i := 79) rfl) rfl), (Gs_of (tb_1 (i := 8) (by decide +kernel)) rfl), ⟨by decide +kernel, by decide +kernel, by decide +kernel⟩, Nat.le_of_ble_eq_true rfl⟩
theorem vX7_row : MV mX7_row 3 := ⟨oX7_row, (Gs_of (tb_5 (i := 77) (by decide +kernel)) rfl), (Gs_of (tb_5 (i := 78) (by decide +kernel)) rfl)⟩
abbrev mX7_feed : MN := (yX7_feed, cX7_feed, 2, (some .int))
set_option maxRecDepth 20000 in
theorem oX7_feed : MO mX7_feed 1 := ⟨(Gs_of (tb_5 (i := 83) rfl) rfl), (Gs_of (tb_1 (i := 8) (by decide +kernel)) rfl), ⟨by decide +kernel, by decide +kernel, by decide +kernel⟩, Nat.le_of_ble_eq_true rfl⟩
theorem vX7_feed : MV mX7_feed 1 := ⟨oX7_feed, (Gs_of (tb_5 (i := 81) (by decide +kernel)) rfl), (Gs_of (tb_5 (i := 82) (by decide +kernel)) rfl)⟩
abbrev mX7_next : MN := (yX7_next, cX7_next, 1, (some .int))
set_option maxRecDepth 20000 in
theorem oX7_next : MO mX7_next 0 := ⟨(Gs_of (tb_5 (i := 103) rfl) rfl), (Gs_of (tb_1 (i := 8) (by decide +kernel)) rfl), ⟨by decide +kernel, by decide +kernel, by decide +kernel⟩, Nat.le_of_ble_eq_true rfl⟩
theorem vX7_next : MV mX7_next 0 := ⟨oX7_next, (Gs_of (tb_5 (i := 102) (by decide +kernel)) rfl), Gs_sel (i := 66) (q := (yX7_next, 64)) (by decide +kernel) rfl⟩
abbrev mX7_takes : MN := (yX7_takes, cX7_takes, 2, (some .boolean))
set_option maxRecDepth 20000 in
theorem oX7_takes : MO mX7_takes 1 := ⟨(Gs_of (tb_5 (i := 111) rfl) rfl), (Gs_of (tb_1 (i := 8) (by decide +kernel)) rfl), ⟨by decide +kernel, by decide +kernel, by decide +kernel⟩, Nat.le_of_ble_eq_true rfl⟩
theorem vX7_takes : MV mX7_takes 1 := ⟨oX7_takes, (Gs_of (tb_5 (i := 110) (by decide +kernel)) rfl), Gs_sel (i := 68) (q := (yX7_takes, 64)) (by decide +kernel) rfl⟩
abbrev mX7_takesWord : MN := (yX7_takesWord, cX7_takesWord, 4, (some .boolean))
set_option maxRecDepth 20000 in
theorem oX7_takesWord : MO mX7_takesWord 2 := ⟨(Gs_of (tb_5 (i := 107) rfl) rfl), (Gs_of (tb_1 (i := 8) (by decide +kernel)) rfl), ⟨by decide +kernel, by decide +kernel, by decide +kernel⟩, Nat.le_of_ble_eq_true rfl⟩
theorem vX7_takesWord : MV mX7_takesWord 2 := ⟨oX7_takesWord, (Gs_of (tb_5 (i := 106) (by decide +kernel)) rfl), Gs_sel (i := 67) (q := (yX7_takesWord, 64)) (by decide +kernel) rfl⟩
abbrev mX7_isDigit : MN := (yX7_isDigit, cX7_isDigit, 1, (some .boolean))
set_option maxRecDepth 20000 in
theorem oX7_isDigit : MO mX7_isDigit 0 := ⟨(Gs_of (tb_5 (i := 119) rfl) rfl), (Gs_of (tb_1 (i := 8) (by decide +kernel)) rfl), ⟨by decide +kernel, by decide +kernel, by decide +kernel⟩, Nat.le_of_ble_eq_true rfl⟩
theorem vX7_isDigit : MV mX7_isDigit 0 := ⟨oX7_isDigit, (Gs_of (tb_5 (i := 118) (by decide +kernel)) rfl), Gs_sel (i := 70) (q := (yX7_isDigit, 64)) (by decide +kernel) rfl⟩
abbrev mX7_takesNumber : MN := (yX7_takesNumber, cX7_takesNumber, 2, (some .boolean))
set_option maxRecDepth 20000 in
theorem oX7_takesNumber : MO mX7_takesNumber 0 := ⟨(Gs_of (tb_5 (i := 115) rfl) rfl), (Gs_of (tb_1 (i := 8) (by decide +kernel)) rfl), ⟨by decide +kernel, by decide +kernel, by decide +kernel⟩, Nat.le_of_ble_eq_true rfl⟩
theorem vX7_takesNumber : MV mX7_takesNumber 0 := ⟨oX7_takesNumber, (Gs_of (tb_5 (i := 114) (by decide +kernel)) rfl), Gs_sel (i := 69) (q := (yX7_takesNumber, 64)) (by decide +kernel) rfl⟩
abbrev mX7_emits : MN := (yX7_emits, cX7_emits, 2, none)
set_option maxRecDepth 20000 in
theorem oX7_emits : MO mX7_emits 1 := ⟨(Gs_of (tb_5 (i := 135) rfl) rfl), (Gs_of (tb_1 (i := 8) (by decide +kernel)) rfl), ⟨by decide +kernel, by decide +kernel, by decide +kernel⟩, Nat.le_of_ble_eq_true rfl⟩
theorem vX7_emits : MV mX7_emits 1 := ⟨oX7_emits, (Gs_of (tb_5 (i := 134) (by decide +kernel)) rfl), Gs_sel (i := 74) (q := (yX7_emits, 64)) (by decide +kernel) rfl⟩
abbrev mX7_whole : MN := (yX7_whole, cX7_whole, 1, none)
set_option maxRecDepth 20000 in
theorem oX7_whole : MO mX7_whole 0 := ⟨(Gs_of (tb_5 (i := 139) rfl) rfl), (Gs_of (tb_1 (i := 8) (by decide +kernel)) rfl), ⟨by decide +kernel, by decide +kernel, by decide +kernel⟩, Nat.le_of_ble_eq_true rfl⟩
theorem vX7_whole : MV mX7_whole 0 := ⟨oX7_whole, (Gs_of (tb_5 (i := 138) (by decide +kernel)) rfl), Gs_sel (i := 75) (q := (yX7_whole, 64)) (by decide +kernel) rfl⟩
abbrev mX7_settle : MN := (yX7_settle, cX7_settle, 2, none)
set_option maxRecDepth 20000 in
theorem oX7_settle : MO mX7_settle 1 := ⟨(Gs_of (tb_5 (i := 143) rfl) rfl), (Gs_of (tb_1 (i := 8) (by decide +kernel)) rfl), ⟨by decide +kernel, by decide +kernel, by decide +kernel⟩, Nat.le_of_ble_eq_true rfl⟩
theorem vX7_settle : MV mX7_settle 1 := ⟨oX7_settle, (Gs_of (tb_5 (i := 142) (by decide +kernel)) rfl), Gs_sel (i := 76) (q := (yX7_settle, 64)) (by decide +kernel) rfl⟩
abbrev mX7_place : MN := (yX7_place, cX7_place, 2, (some .int))
set_option maxRecDepth 20000 in
theorem oX7_place : MO mX7_place 1 := ⟨(Gs_of (tb_5 (i := 131) rfl) rfl), (Gs_of (tb_1 (i := 8) (by decide +kernel)) rfl), ⟨by decide +kernel, by decide +kernel, by decide +kernel⟩, Nat.le_of_ble_eq_true rfl⟩
theorem vX7_place : MV mX7_place 1 := ⟨oX7_place, (Gs_of (tb_5 (i := 130) (by decide +kernel)) rfl), Gs_sel (i := 73) (q := (yX7_place, 64)) (by decide +kernel) rfl⟩
abbrev mX7_takesTest : MN := (yX7_takesTest, cX7_takesTest, 3, (some .boolean))
set_option maxRecDepth 20000 in
theorem oX7_takesTest : MO mX7_takesTest 0 := ⟨(Gs_of (tb_5 (i := 127) rfl) rfl), (Gs_of (tb_1 (i := 8) (by decide +kernel)) rfl), ⟨by decide +kernel, by decide +kernel, by decide +kernel⟩, Nat.le_of_ble_eq_true rfl⟩
theorem vX7_takesTest : MV mX7_takesTest 0 := ⟨oX7_takesTest, (Gs_of (tb_5 (i := 126) (by decide +kernel)) rfl), Gs_sel (i := 72) (q := (yX7_takesTest, 64)) (by decide +kernel) rfl⟩
abbrev mX7_takesE : MN := (yX7_takesE, cX7_takesE, 4, (some .boolean))
set_option maxRecDepth 20000 in
theorem oX7_takesE : MO mX7_takesE 1 := ⟨(Gs_of (tb_5 (i := 123) rfl) rfl), (Gs_of (tb_1 (i := 8) (by decide +kernel)) rfl), ⟨by decide +kernel, by decide +kernel, by decide +kernel⟩, Nat.le_of_ble_eq_true rfl⟩
theorem vX7_takesE : MV mX7_takesE 1 := ⟨oX7_takesE, (Gs_of (tb_5 (i := 122) (by decide +kernel)) rfl), Gs_sel (i := 71) (q := (yX7_takesE, 64)) (by decide +kernel) rfl⟩
abbrev mX7_takesHead : MN := (yX7_takesHead, cX7_takesHead, 2, (some .boolean))
set_option maxRecDepth 20000 in
theorem oX7_takesHead : MO mX7_takesHead 1 := ⟨(Gs_of (tb_5 (i := 99) rfl) rfl), (Gs_of (tb_1 (i := 8) (by decide +kernel)) rfl), ⟨by decide +kernel, by decide +kernel, by decide +kernel⟩, Nat.le_of_ble_eq_true rfl⟩
theorem vX7_takesHead : MV mX7_takesHead 1 := ⟨oX7_takesHead, (Gs_of (tb_5 (i := 98) (by decide +kernel)) rfl), Gs_sel (i := 65) (q := (yX7_takesHead, 64)) (by decide +kernel) rfl⟩
abbrev mX7_takesClause : MN := (yX7_takesClause, cX7_takesClause, 2, (some .boolean))
set_option maxRecDepth 20000 in
theorem oX7_takesClause : MO mX7_takesClause 1 := ⟨(Gs_of (tb_5 (i := 95) rfl) rfl), (Gs_of (tb_1 (i := 8) (by decide +kernel)) rfl), ⟨by decide +kernel, by decide +kernel, by decide +kernel⟩, Nat.le_of_ble_eq_true rfl⟩
theorem vX7_takesClause : MV mX7_takesClause 1 := ⟨oX7_takesClause, (Gs_of (tb_5 (i := 94) (by decide +kernel)) rfl), Gs_sel (i := 64) (q := (yX7_takesClause, 64)) (by decide +kernel) rfl⟩
abbrev mX7_goesText : MN := (yX7_goesText, cX7_goesText, 3, (some .boolean))
set_option maxRecDepth 20000 in
theorem oX7_goesText : MO mX7_goesText 1 := ⟨(Gs_of (tb_5 (i := 91) rfl) rfl), (Gs_of (tb_1 (i := 8) (by decide +kernel)) rfl), ⟨by decide +kernel, by decide +kernel, by decide +kernel⟩, Nat.le_of_ble_eq_true rfl⟩
theorem vX7_goesText : MV mX7_goesText 1 := ⟨oX7_goesText, (Gs_of (tb_5 (i := 90) (by decide +kernel)) rfl), Gs_sel (i := 63) (q := (yX7_goesText, 64)) (by decide +kernel) rfl⟩
abbrev mX7_hall : MN := (yX7_hall, cX7_hall, 3, (some .int))
set_option maxRecDepth 20000 in
theorem oX7_hall : MO mX7_hall 0 := ⟨(Gs_of (tb_5 (i := 87) rfl) rfl), (Gs_of (tb_1 (i := 8) (by decide +kernel)) rfl), ⟨by decide +kernel, by decide +kernel, by decide +kernel⟩, Nat.le_of_ble_eq_true rfl⟩
theorem vX7_hall : MV mX7_hall 0 := ⟨oX7_hall, (Gs_of (tb_5 (i := 85) (by decide +kernel)) rfl), (Gs_of (tb_5 (i := 86) (by decide +kernel)) rfl)⟩
abbrev mX7_firstClause : MN := (yX7_firstClause, cX7_firstClause, 1, (some .int))
set_option maxRecDepth 20000 in
theorem oX7_firstClause : MO mX7_firstClause 0 := ⟨(Gs_of (tb_5 (i := 55) rfl) rfl), (Gs_of (tb_1 (i := 8) (by decide +kernel)) rfl), ⟨by decide +kernel, by decide +kernel, by decide +kernel⟩, Nat.le_of_ble_eq_true rfl⟩
theorem vX7_firstClause : MV mX7_firstClause 0 := ⟨oX7_firstClause, (Gs_of (tb_5 (i := 54) (by decide +kernel)) rfl), Gs_sel (i := 59) (q := (yX7_firstClause, 64)) (by decide +kernel) rfl⟩
abbrev mX7_behindClauses : MN := (yX7_behindClauses, cX7_behindClauses, 1, (some .int))
set_option maxRecDepth 20000 in
theorem oX7_behindClauses : MO mX7_behindClauses 0 := ⟨(Gs_of (tb_5 (i := 59) rfl) rfl), (Gs_of (tb_1 (i := 8) (by decide +kernel)) rfl), ⟨by decide +kernel, by decide +kernel, by decide +kernel⟩, Nat.le_of_ble_eq_true rfl⟩
theorem vX7_behindClauses : MV mX7_behindClauses 0 := ⟨oX7_behindClauses, (Gs_of (tb_5 (i := 58) (by decide +kernel)) rfl), Gs_sel (i := 60) (q := (yX7_behindClauses, 64)) (by decide +kernel) rfl⟩
abbrev mX7_lastOf : MN := (yX7_lastOf, cX7_lastOf, 5, (some .int))
set_option maxRecDepth 20000 in
theorem oX7_lastOf : MO mX7_lastOf 2 := ⟨(Gs_of (tb_5 (i := 51) rfl) rfl), (Gs_of (tb_1 (i := 8) (by decide +kernel)) rfl), ⟨by decide +kernel, by decide +kernel, by decide +kernel⟩, Nat.le_of_ble_eq_true rfl⟩
theorem vX7_lastOf : MV mX7_lastOf 2 := ⟨oX7_lastOf, (Gs_of (tb_5 (i := 50) (by decide +kernel)) rfl), Gs_sel (i := 58) (q := (yX7_lastOf, 64)) (by decide +kernel) rfl⟩
abbrev mX7_wide : MN := (yX7_wide, cX7_wide, 2, (some .int))
set_option maxRecDepth 20000 in
theorem oX7_wide : MO mX7_wide 0 := ⟨(Gs_of (tb_5 (i := 47) rfl) rfl), (Gs_of (tb_1 (i := 8) (by decide +kernel)) rfl), ⟨by decide +kernel, by decide +kernel, by decide +kernel⟩, Nat.le_of_ble_eq_true rfl⟩
theorem vX7_wide : MV mX7_wide 0 := ⟨oX7_wide, (Gs_of (tb_5 (i := 46) (by decide +kernel)) rfl), Gs_sel (i := 57) (q := (yX7_wide, 64)) (by decide +kernel) rfl⟩
abbrev mX7_skip : MN := (yX7_skip, cX7_skip, 1, (some .int))
set_option maxRecDepth 20000 in
theorem oX7_skip : MO mX7_skip 0 := ⟨(Gs_of (tb_5 (i := 175) rfl) rfl), (Gs_of (tb_1 (i := 8) (by decide +kernel)) rfl), ⟨by decide +kernel, by decide +kernel, by decide +kernel⟩, Nat.le_of_ble_eq_true rfl⟩
theorem vX7_skip : MV mX7_skip 0 := ⟨oX7_skip, (Gs_of (tb_5 (i := 174) (by decide +kernel)) rfl), Gs_sel (i := 82) (q := (yX7_skip, 64)) (by decide +kernel) rfl⟩
abbrev mX7_factOf : MN := (yX7_factOf, cX7_factOf, 3, (some .int))
set_option maxRecDepth 20000 in
theorem oX7_factOf : MO mX7_factOf 2 := ⟨(Gs_of (tb_5 (i := 159) rfl) rfl), (Gs_of (tb_1 (i := 8) (by decide +kernel)) rfl), ⟨by decide +kernel, by decide +kernel, by decide +kernel⟩, Nat.le_of_ble_eq_true rfl⟩
theorem vX7_factOf : MV mX7_factOf 2 := ⟨oX7_factOf, (Gs_of (tb_5 (i := 158) (by decide +kernel)) rfl), Gs_sel (i := 79) (q := (yX7_factOf, 64)) (by decide +kernel) rfl⟩
abbrev mX7_holds : MN := (yX7_holds, cX7_holds, 8, (some .boolean))
set_option maxRecDepth 20000 in
theorem oX7_holds : MO mX7_holds 2 := ⟨(Gs_of (tb_5 (i := 155) rfl) rfl), (Gs_of (tb_1 (i := 8) (by decide +kernel)) rfl), ⟨by decide +kernel, by decide +kernel, by decide +kernel⟩, Nat.le_of_ble_eq_true rfl⟩
theorem vX7_holds : MV mX7_holds 2 := ⟨oX7_holds, (Gs_of (tb_5 (i := 154) (by decide +kernel)) rfl), Gs_sel (i := 78) (q := (yX7_holds, 64)) (by decide +kernel) rfl⟩
abbrev mX7_step : MN := (yX7_step, cX7_step, 4, (some .int))
set_option maxRecDepth 20000 in
theorem oX7_step : MO mX7_step 1 := ⟨(Gs_of (tb_5 (i := 151) rfl) rfl), (Gs_of (tb_1 (i := 8) (by decide +kernel)) rfl), ⟨by decide +kernel, by decide +kernel, by decide +kernel⟩, Nat.le_of_ble_eq_true rfl⟩
theorem vX7_step : MV mX7_step 1 := ⟨oX7_step, (Gs_of (tb_5 (i := 150) (by decide +kernel)) rfl), Gs_sel (i := 77) (q := (yX7_step, 64)) (by decide +kernel) rfl⟩
abbrev mX7_round : MN := (yX7_round, cX7_round, 3, (some .int))
set_option maxRecDepth 20000 in
theorem oX7_round : MO mX7_round 1 := ⟨(Gs_of (tb_5 (i := 167) rfl) rfl), (Gs_of (tb_1 (i := 8) (by decide +kernel)) rfl), ⟨by decide +kernel, by decide +kernel, by decide +kernel⟩, Nat.le_of_ble_eq_true rfl⟩
theorem vX7_round : MV mX7_round 1 := ⟨oX7_round, (Gs_of (tb_5 (i := 166) (by decide +kernel)) rfl), Gs_sel (i := 81) (q := (yX7_round, 64)) (by decide +kernel) rfl⟩
abbrev mX7_goes : MN := (yX7_goes, cX7_goes, 7, (some .int))
set_option maxRecDepth 20000 in
theorem oX7_goes : MO mX7_goes 1 := ⟨(Gs_of (tb_5 (i := 163) rfl) rfl), (Gs_of (tb_1 (i := 8) (by decide +kernel)) rfl), ⟨by decide +kernel, by decide +kernel, by decide +kernel⟩, Nat.le_of_ble_eq_true rfl⟩
theorem vX7_goes : MV mX7_goes 1 := ⟨oX7_goes, (Gs_of (tb_5 (i := 162) (by decide +kernel)) rfl), Gs_sel (i := 80) (q := (yX7_goes, 64)) (by decide +kernel) rfl⟩
abbrev mX7_of : MN := (yX7_of, cX7_of, 3, (some .int))
set_option maxRecDepth 20000 in
theorem oX7_of : MO mX7_of 2 := ⟨(Gs_of (tb_5 (i := 147) rfl) rfl), (Gs_of (tb_1 (i := 8) (by decide +kernel)) rfl), ⟨by decide +kernel, by decide +kernel, by decide +kernel⟩, Nat.le_of_ble_eq_true rfl⟩
theorem vX7_of : MV mX7_of 2 := ⟨oX7_of, (Gs_of (tb_5 (i := 145) (by decide +kernel)) rfl), (Gs_of (tb_5 (i := 146) (by decide +kernel)) rfl)⟩
abbrev mX7_many : MN := (yX7_many, cX7_many, 3, (some .int))
set_option maxRecDepth 20000 in
theorem oX7_many : MO mX7_many 0 := ⟨(Gs_of (tb_5 (i := 179) rfl) rfl), (Gs_of (tb_1 (i := 8) (by decide +kernel)) rfl), ⟨by decide +kernel, by decide +kernel, by decide +kernel⟩, Nat.le_of_ble_eq_true rfl⟩
theorem vX7_many : MV mX7_many 0 := ⟨oX7_many, (Gs_of (tb_5 (i := 178) (by decide +kernel)) rfl), Gs_sel (i := 83) (q := (yX7_many, 64)) (by decide +kernel) rfl⟩
abbrev mX7_told : MN := (yX7_told, cX7_told, 2, (some .int))
set_option maxRecDepth 20000 in
theorem oX7_told : MO mX7_told 1 := ⟨(Gs_of (tb_5 (i := 171) rfl) rfl), (Gs_of (tb_1 (i := 8) (by decide +kernel)) rfl), ⟨by decide +kernel, by decide +kernel, by decide +kernel⟩, Nat.le_of_ble_eq_true rfl⟩
theorem vX7_told : MV mX7_told 1 := ⟨oX7_told, (Gs_of (tb_5 (i := 169) (by decide +kernel)) rfl), (Gs_of (tb_5 (i := 170) (by decide +kernel)) rfl)⟩
abbrev mX7_goBeat : MN := (yX7_goBeat, cX7_goBeat, 4, none)
set_option maxRecDepth 20000 in
theorem oX7_goBeat : MO mX7_goBeat 1 := ⟨(Gs_of (tb_5 (i := 195) rfl) rfl), (Gs_of (tb_1 (i := 8) (by decide +kernel)) rfl), ⟨by decide +kernel, by decide +kernel, by decide +kernel⟩, Nat.le_of_ble_eq_true rfl⟩
theorem vX7_goBeat : MV mX7_goBeat 1 := ⟨oX7_goBeat, (Gs_of (tb_5 (i := 194) (by decide +kernel)) rfl), Gs_sel (i := 86) (q := (yX7_goBeat, 64)) (by decide +kernel) rfl⟩
abbrev mX7_go : MN := (yX7_go, cX7_go, 1, none)
set_option maxRecDepth 20000 in
theorem oX7_go : MO mX7_go 0 := ⟨(Gs_of (tb_5 (i := 191) rfl) rfl), (Gs_of (tb_1 (i := 8) (by decide +kernel)) rfl), ⟨by decide +kernel, by decide +kernel, by decide +kernel⟩, Nat.le_of_ble_eq_true rfl⟩
theorem vX7_go : MV mX7_go 0 := ⟨oX7_go, (Gs_of (tb_5 (i := 190) (by decide +kernel)) rfl), Gs_sel (i := 85) (q := (yX7_go, 64)) (by decide +kernel) rfl⟩
abbrev mX7_pass : MN := (yX7_pass, cX7_pass, 3, (some .int))
set_option maxRecDepth 20000 in
theorem oX7_pass : MO mX7_pass 1 := ⟨(Gs_of (tb_5 (i := 183) rfl) rfl), (Gs_of (tb_1 (i := 8) (by decide +kernel)) rfl), ⟨by decide +kernel, by decide +kernel, by decide +kernel⟩, Nat.le_of_ble_eq_true rfl⟩
theorem vX7_pass : MV mX7_pass 1 := ⟨oX7_pass, (Gs_of (tb_5 (i := 181) (by decide +kernel)) rfl), (Gs_of (tb_5 (i := 182) (by decide +kernel)) rfl)⟩
abbrev mX7_save : MN := (yX7_save, cX7_save, 2, none)
set_option maxRecDepth 20000 in
theorem oX7_save : MO mX7_save 0 := ⟨(Gs_of (tb_5 (i := 203) rfl) rfl), (Gs_of (tb_1 (i := 8) (by decide +kernel)) rfl), ⟨by decide +kernel, by decide +kernel, by decide +kernel⟩, Nat.le_of_ble_eq_true rfl⟩
theorem vX7_save : MV mX7_save 0 := ⟨oX7_save, (Gs_of (tb_5 (i := 202) (by decide +kernel)) rfl), Gs_sel (i := 87) (q := (yX7_save, 64)) (by decide +kernel) rfl⟩
abbrev mX7_putBack : MN := (yX7_putBack, cX7_putBack, 2, none)
set_option maxRecDepth 20000 in
theorem oX7_putBack : MO mX7_putBack 0 := ⟨(Gs_of (tb_5 (i := 207) rfl) rfl), (Gs_of (tb_1 (i := 8) (by decide +kernel)) rfl), ⟨by decide +kernel, by decide +kernel, by decide +kernel⟩, Nat.le_of_ble_eq_true rfl⟩
theorem vX7_putBack : MV mX7_putBack 0 := ⟨oX7_putBack, (Gs_of (tb_5 (i := 206) (by decide +kernel)) rfl), Gs_sel (i := 88) (q := (yX7_putBack, 64)) (by decide +kernel) rfl⟩
abbrev mX7_on : MN := (yX7_on, cX7_on, 4, (some .int))
set_option maxRecDepth 20000 in
theorem oX7_on : MO mX7_on 2 := ⟨(Gs_of (tb_5 (i := 199) rfl) rfl), (Gs_of (tb_1 (i := 8) (by decide +kernel)) rfl), ⟨by decide +kernel, by decide +kernel, by decide +kernel⟩, Nat.le_of_ble_eq_true rfl⟩
theorem vX7_on : MV mX7_on 2 := ⟨oX7_on, (Gs_of (tb_5 (i := 197) (by decide +kernel)) rfl), (Gs_of (tb_5 (i := 198) (by decide +kernel)) rfl)⟩
abbrev mX7_isAsKept : MN := (yX7_isAsKept, cX7_isAsKept, 2, (some .boolean))
set_option maxRecDepth 20000 in
theorem oX7_isAsKept : MO mX7_isAsKept 0 := ⟨(Gs_of (tb_5 (i := 215) rfl) rfl), (Gs_of (tb_1 (i := 8) (by decide +kernel)) rfl), ⟨by decide +kernel, by decide +kernel, by decide +kernel⟩, Nat.le_of_ble_eq_true rfl⟩
theorem vX7_isAsKept : MV mX7_isAsKept 0 := ⟨oX7_isAsKept, (Gs_of (tb_5 (i := 214) (by decide +kernel)) rfl), Gs_sel (i := 89) (q := (yX7_isAsKept, 64)) (by decide +kernel) rfl⟩
abbrev mX7_again : MN := (yX7_again, cX7_again, 3, (some .int))
set_option maxRecDepth 20000 in
theorem oX7_again : MO mX7_again 0 := ⟨(Gs_of (tb_5 (i := 211) rfl) rfl), (Gs_of (tb_1 (i := 8) (by decide +kernel)) rfl), ⟨by decide +kernel, by decide +kernel, by decide +kernel⟩, Nat.le_of_ble_eq_true rfl⟩
theorem vX7_again : MV mX7_again 0 := ⟨oX7_again, (Gs_of (tb_5 (i := 209) (by decide +kernel)) rfl), (Gs_of (tb_5 (i := 210) (by decide +kernel)) rfl)⟩
abbrev mX7_togetherBy : MN := (yX7_togetherBy, cX7_togetherBy, 3, (some .int))
set_option maxRecDepth 20000 in
theorem oX7_togetherBy : MO mX7_togetherBy 1 := ⟨(Gs_of (tb_5 (i := 223) rfl) rfl), (Gs_of (tb_1 (i := 8) (by decide +kernel)) rfl), ⟨by decide +kernel, by decide +kernel, by decide +kernel⟩, Nat.le_of_ble_eq_true rfl⟩
theorem vX7_togetherBy : MV mX7_togetherBy 1 := ⟨oX7_togetherBy, (Gs_of (tb_5 (i := 222) (by decide +kernel)) rfl), Gs_sel (i := 90) (q := (yX7_togetherBy, 64)) (by decide +kernel) rfl⟩
abbrev mX7_together : MN := (yX7_together, cX7_together, 1, (some .int))
set_option maxRecDepth 20000 in
theorem oX7_together : MO mX7_together 0 := ⟨(Gs_of (tb_5 (i := 219) rfl) rfl), (Gs_of (tb_1 (i := 8) (by decide +kernel)) rfl), ⟨by decide +kernel, by decide +kernel, by decide +kernel⟩, Nat.le_of_ble_eq_true rfl⟩
theorem vX7_together : MV mX7_together 0 := ⟨oX7_together, (Gs_of (tb_5 (i := 217) (by decide +kernel)) rfl), (Gs_of (tb_5 (i := 218) (by decide +kernel)) rfl)⟩
abbrev mX7_isStill : MN := (yX7_isStill, cX7_isStill, 2, (some .boolean))
set_option maxRecDepth 20000 in
theorem oX7_isStill : MO mX7_isStill 0 := ⟨(Gs_of (tb_5 (i := 231) rfl) rfl), (Gs_of (tb_1 (i := 8) (by decide +kernel)) rfl), ⟨by decide +kernel, by decide +kernel, by decide +kernel⟩, Nat.le_of_ble_eq_true rfl⟩
theorem vX7_isStill : MV mX7_isStill 0 := ⟨oX7_isStill, (Gs_of (tb_5 (i := 230) (by decide +kernel)) rfl), Gs_sel (i := 91) (q := (yX7_isStill, 64)) (by decide +kernel) rfl⟩
abbrev mX7_still : MN := (yX7_still, cX7_still, 2, (some .int))
set_option maxRecDepth 20000 in
theorem oX7_still : MO mX7_still 0 := ⟨(Gs_of (tb_5 (i := 227) rfl) rfl), (Gs_of (tb_1 (i := 8) (by decide +kernel)) rfl), ⟨by decide +kernel, by decide +kernel, by decide +kernel⟩, Nat.le_of_ble_eq_true rfl⟩
theorem vX7_still : MV mX7_still 0 := ⟨oX7_still, (Gs_of (tb_5 (i := 225) (by decide +kernel)) rfl), (Gs_of (tb_5 (i := 226) (by decide +kernel)) rfl)⟩
abbrev mX7_meet : MN := (yX7_meet, cX7_meet, 4, (some .int))
set_option maxRecDepth 20000 in
theorem oX7_meet : MO mX7_meet 2 := ⟨(Gs_of (tb_5 (i := 235) rfl) rfl), (Gs_of (tb_1 (i := 8) (by decide +kernel)) rfl), ⟨by decide +kernel, by decide +kernel, by decide +kernel⟩, Nat.le_of_ble_eq_true rfl⟩
theorem vX7_meet : MV mX7_meet 2 := ⟨oX7_meet, (Gs_of (tb_5 (i := 233) (by decide +kernel)) rfl), (Gs_of (tb_5 (i := 234) (by decide +kernel)) rfl)⟩
abbrev mX7_apart : MN := (yX7_apart, cX7_apart, 4, (some .int))
set_option maxRecDepth 20000 in
theorem oX7_apart : MO mX7_apart 2 := ⟨(Gs_of (tb_6 (i := 3) rfl) rfl), (Gs_of (tb_1 (i := 8) (by decide +kernel)) rfl), ⟨by decide +kernel, by decide +kernel, by decide +kernel⟩, Nat.le_of_ble_eq_true rfl⟩
theorem vX7_apart : MV mX7_apart 2 := ⟨oX7_apart, (Gs_of (tb_6 (i := 2) (by decide +kernel)) rfl), Gs_sel (i := 92) (q := (yX7_apart, 64)) (by decide +kernel) rfl⟩
abbrev mX7_far : MN := (yX7_far, cX7_far, 6, (some .int))
set_option maxRecDepth 20000 in
theorem oX7_far : MO mX7_far 3 := ⟨(Gs_of (tb_5 (i := 239) rfl) rfl), (Gs_of (tb_1 (i := 8) (by decide +kernel)) rfl), ⟨by decide +kernel, by decide +kernel, by decide +kernel⟩, Nat.le_of_ble_eq_true rfl⟩
theorem vX7_far : MV mX7_far 3 := ⟨oX7_far, (Gs_of (tb_5 (i := 237) (by decide +kernel)) rfl), (Gs_of (tb_5 (i := 238) (by decide +kernel)) rfl)⟩
abbrev mX7_whom : MN := (yX7_whom, cX7_whom, 7, (some .int))
set_option maxRecDepth 20000 in
theorem oX7_whom : MO mX7_whom 1 := ⟨(Gs_of (tb_6 (i := 7) rfl) rfl), (Gs_of (tb_1 (i := 8) (by decide +kernel)) rfl), ⟨by decide +kernel, by decide +kernel, by decide +kernel⟩, Nat.le_of_ble_eq_true rfl⟩
theorem vX7_whom : MV mX7_whom 1 := ⟨oX7_whom, (Gs_of (tb_6 (i := 5) (by decide +kernel)) rfl), (Gs_of (tb_6 (i := 6) (by decide +kernel)) rfl)⟩
abbrev mX7_isAlone : MN := (yX7_isAlone, cX7_isAlone, 3, (some .boolean))
set_option maxRecDepth 20000 in
theorem oX7_isAlone : MO mX7_isAlone 1 := ⟨(Gs_of (tb_6 (i := 15) rfl) rfl), (Gs_of (tb_1 (i := 8) (by decide +kernel)) rfl), ⟨by decide +kernel, by decide +kernel, by decide +kernel⟩, Nat.le_of_ble_eq_true rfl⟩
theorem vX7_isAlone : MV mX7_isAlone 1 := ⟨oX7_isAlone, (Gs_of (tb_6 (i := 14) (by decide +kernel)) rfl), Gs_sel (i := 93) (q := (yX7_isAlone, 64)) (by decide +kernel) rfl⟩
abbrev mX7_alone : MN := (yX7_alone, cX7_alone, 9, (some .int))
set_option maxRecDepth 20000 in
theorem oX7_alone : MO mX7_alone 3 := ⟨(Gs_of (tb_6 (i := 11) rfl) rfl), (Gs_of (tb_1 (i := 8) (by decide +kernel)) rfl), ⟨by decide +kernel, by decide +kernel, by decide +kernel⟩, Nat.le_of_ble_eq_true rfl⟩
theorem vX7_alone : MV mX7_alone 3 := ⟨oX7_alone, (Gs_of (tb_6 (i := 9) (by decide +kernel)) rfl), (Gs_of (tb_6 (i := 10) (by decide +kernel)) rfl)⟩
abbrev mX7_stop : MN := (yX7_stop, cX7_stop, 5, (some .int))
set_option maxRecDepth 20000 in
theorem oX7_stop : MO mX7_stop 0 := ⟨(Gs_of (tb_6 (i := 19) rfl) rfl), (Gs_of (tb_1 (i := 8) (by decide +kernel)) rfl), ⟨by decide +kernel, by decide +kernel, by decide +kernel⟩, Nat.le_of_ble_eq_true rfl⟩
theorem vX7_stop : MV mX7_stop 0 := ⟨oX7_stop, (Gs_of (tb_6 (i := 17) (by decide +kernel)) rfl), (Gs_of (tb_6 (i := 18) (by decide +kernel)) rfl)⟩
abbrev mX7_begins : MN := (yX7_begins, cX7_begins, 8, (some .int))
set_option maxRecDepth 20000 in
theorem oX7_begins : MO mX7_begins 3 := ⟨(Gs_of (tb_6 (i := 23) rfl) rfl), (Gs_of (tb_1 (i := 8) (by decide +kernel)) rfl), ⟨by decide +kernel, by decide +kernel, by decide +kernel⟩, Nat.le_of_ble_eq_true rfl⟩
theorem vX7_begins : MV mX7_begins 3 := ⟨oX7_begins, (Gs_of (tb_6 (i := 21) (by decide +kernel)) rfl), (Gs_of (tb_6 (i := 22) (by decide +kernel)) rfl)⟩
abbrev mX7_counts : MN := (yX7_counts, cX7_counts, 2, none)
set_option maxRecDepth 20000 in
theorem oX7_counts : MO mX7_counts 0 := ⟨(Gs_of (tb_6 (i := 31) rfl) rfl), (Gs_of (tb_1 (i := 8) (by decide +kernel)) rfl), ⟨by decide +kernel, by decide +kernel, by decide +kernel⟩, Nat.le_of_ble_eq_true rfl⟩
theorem vX7_counts : MV mX7_counts 0 := ⟨oX7_counts, (Gs_of (tb_6 (i := 30) (by decide +kernel)) rfl), Gs_sel (i := 94) (q := (yX7_counts, 64)) (by decide +kernel) rfl⟩
abbrev mX7_crowd : MN := (yX7_crowd, cX7_crowd, 4, (some .int))
set_option maxRecDepth 20000 in
theorem oX7_crowd : MO mX7_crowd 1 := ⟨(Gs_of (tb_6 (i := 27) rfl) rfl), (Gs_of (tb_1 (i := 8) (by decide +kernel)) rfl), ⟨by decide +kernel, by decide +kernel, by decide +kernel⟩, Nat.le_of_ble_eq_true rfl⟩
theorem vX7_crowd : MV mX7_crowd 1 := ⟨oX7_crowd, (Gs_of (tb_6 (i := 25) (by decide +kernel)) rfl), (Gs_of (tb_6 (i := 26) (by decide +kernel)) rfl)⟩
abbrev mX7_see : MN := (yX7_see, cX7_see, 4, (some .int))
set_option maxRecDepth 20000 in
theorem oX7_see : MO mX7_see 3 := ⟨(Gs_of (tb_6 (i := 35) rfl) rfl), (Gs_of (tb_1 (i := 8) (by decide +kernel)) rfl), ⟨by decide +kernel, by decide +kernel, by decide +kernel⟩, Nat.le_of_ble_eq_true rfl⟩
theorem vX7_see : MV mX7_see 3 := ⟨oX7_see, (Gs_of (tb_6 (i := 33) (by decide +kernel)) rfl), (Gs_of (tb_6 (i := 34) (by decide +kernel)) rfl)⟩
abbrev mX7_isSeen : MN := (yX7_isSeen, cX7_isSeen, 4, (some .boolean))
set_option maxRecDepth 20000 in
theorem oX7_isSeen : MO mX7_isSeen 0 := ⟨(Gs_of (tb_6 (i := 47) rfl) rfl), (Gs_of (tb_1 (i := 8) (by decide +kernel)) rfl), ⟨by decide +kernel, by decide +kernel, by decide +kernel⟩, Nat.le_of_ble_eq_true rfl⟩
theorem vX7_isSeen : MV mX7_isSeen 0 := ⟨oX7_isSeen, (Gs_of (tb_6 (i := 46) (by decide +kernel)) rfl), Gs_sel (i := 96) (q := (yX7_isSeen, 64)) (by decide +kernel) rfl⟩
abbrev mX7_can : MN := (yX7_can, cX7_can, 5, (some .int))
set_option maxRecDepth 20000 in
theorem oX7_can : MO mX7_can 1 := ⟨(Gs_of (tb_6 (i := 43) rfl) rfl), (Gs_of (tb_1 (i := 8) (by decide +kernel)) rfl), ⟨by decide +kernel, by decide +kernel, by decide +kernel⟩, Nat.le_of_ble_eq_true rfl⟩
theorem vX7_can : MV mX7_can 1 := ⟨oX7_can, (Gs_of (tb_6 (i := 41) (by decide +kernel)) rfl), (Gs_of (tb_6 (i := 42) (by decide +kernel)) rfl)⟩
abbrev mX7_divisor : MN := (yX7_divisor, cX7_divisor, 6, (some .int))
set_option maxRecDepth 20000 in
theorem oX7_divisor : MO mX7_divisor 2 := ⟨(Gs_of (tb_6 (i := 60) rfl) rfl), (Gs_of (tb_1 (i := 8) (by decide +kernel)) rfl), ⟨by decide +kernel, by decide +kernel, by decide +kernel⟩, Nat.le_of_ble_eq_true rfl⟩
theorem vX7_divisor : MV mX7_divisor 2 := ⟨oX7_divisor, (Gs_of (tb_6 (i := 59) (by decide +kernel)) rfl), Gs_sel (i := 98) (q := (yX7_divisor, 64)) (by decide +kernel) rfl⟩
abbrev mX7_lowest : MN := (yX7_lowest, cX7_lowest, 5, (some .long))
set_option maxRecDepth 20000 in
theorem oX7_lowest : MO mX7_lowest 3 := ⟨(Gs_of (tb_6 (i := 56) rfl) rfl), (Gs_of (tb_1 (i := 8) (by decide +kernel)) rfl), ⟨by decide +kernel, by decide +kernel, by decide +kernel⟩, Nat.le_of_ble_eq_true rfl⟩
theorem vX7_lowest : MV mX7_lowest 3 := ⟨oX7_lowest, (Gs_of (tb_6 (i := 55) (by decide +kernel)) rfl), Gs_sel (i := 97) (q := (yX7_lowest, 64)) (by decide +kernel) rfl⟩
abbrev mX7_odds : MN := (yX7_odds, cX7_odds, 6, (some .long))
set_option maxRecDepth 20000 in
theorem oX7_odds : MO mX7_odds 2 := ⟨(Gs_of (tb_6 (i := 51) rfl) rfl), (Gs_of (tb_1 (i := 8) (by decide +kernel)) rfl), ⟨by decide +kernel, by decide +kernel, by decide +kernel⟩, Nat.le_of_ble_eq_true rfl⟩
theorem vX7_odds : MV mX7_odds 2 := ⟨oX7_odds, (Gs_of (tb_6 (i := 49) (by decide +kernel)) rfl), (Gs_of (tb_6 (i := 50) (by decide +kernel)) rfl)⟩
abbrev mX7_mean : MN := (yX7_mean, cX7_mean, 6, (some .long))
set_option maxRecDepth 20000 in
theorem oX7_mean : MO mX7_mean 2 := ⟨(Gs_of (tb_6 (i := 64) rfl) rfl), (Gs_of (tb_1 (i := 8) (by decide +kernel)) rfl), ⟨by decide +kernel, by decide +kernel, by decide +kernel⟩, Nat.le_of_ble_eq_true rfl⟩
theorem vX7_mean : MV mX7_mean 2 := ⟨oX7_mean, (Gs_of (tb_6 (i := 62) (by decide +kernel)) rfl), (Gs_of (tb_6 (i := 63) (by decide +kernel)) rfl)⟩
abbrev mX7_dance : MN := (yX7_dance, cX7_dance, 2, (some .int))
set_option maxRecDepth 20000 in
theorem oX7_dance : MO mX7_dance 1 := ⟨(Gs_of (tb_6 (i := 68) rfl) rfl), (Gs_of (tb_1 (i := 8) (by decide +kernel)) rfl), ⟨by decide +kernel, by decide +kernel, by decide +kernel⟩, Nat.le_of_ble_eq_true rfl⟩
theorem vX7_dance : MV mX7_dance 1 := ⟨oX7_dance, (Gs_of (tb_6 (i := 66) (by decide +kernel)) rfl), (Gs_of (tb_6 (i := 67) (by decide +kernel)) rfl)⟩
abbrev mX7_danced : MN := (yX7_danced, cX7_danced, 4, (some .int))
set_option maxRecDepth 20000 in
theorem oX7_danced : MO mX7_danced 1 := ⟨(Gs_of (tb_6 (i := 72) rfl) rfl), (Gs_of (tb_1 (i := 8) (by decide +kernel)) rfl), ⟨by decide +kernel, by decide +kernel, by decide +kernel⟩, Nat.le_of_ble_eq_true rfl⟩
theorem vX7_danced : MV mX7_danced 1 := ⟨oX7_danced, (Gs_of (tb_6 (i := 70) (by decide +kernel)) rfl), (Gs_of (tb_6 (i := 71) (by decide +kernel)) rfl)⟩
abbrev mX7_book : MN := (yX7_book, cX7_book, 3, (some .int))
set_option maxRecDepth 20000 in
theorem oX7_book : MO mX7_book 2 := ⟨(Gs_of (tb_6 (i := 76) rfl) rfl), (Gs_of (tb_1 (i := 8) (by decide +kernel)) rfl), ⟨by decide +kernel, by decide +kernel, by decide +kernel⟩, Nat.le_of_ble_eq_true rfl⟩
theorem vX7_book : MV mX7_book 2 := ⟨oX7_book, (Gs_of (tb_6 (i := 74) (by decide +kernel)) rfl), (Gs_of (tb_6 (i := 75) (by decide +kernel)) rfl)⟩
abbrev mX7_looked : MN := (yX7_looked, cX7_looked, 2, (some .int))
set_option maxRecDepth 20000 in
theorem oX7_looked : MO mX7_looked 0 := ⟨(Gs_of (tb_6 (i := 80) rfl) rfl), (Gs_of (tb_1 (i := 8) (by decide +kernel)) rfl), ⟨by decide +kernel, by decide +kernel, by decide +kernel⟩, Nat.le_of_ble_eq_true rfl⟩
theorem vX7_looked : MV mX7_looked 0 := ⟨oX7_looked, (Gs_of (tb_6 (i := 78) (by decide +kernel)) rfl), (Gs_of (tb_6 (i := 79) (by decide +kernel)) rfl)⟩
abbrev mX7_judge : MN := (yX7_judge, cX7_judge, 4, (some .int))
set_option maxRecDepth 20000 in
theorem oX7_judge : MO mX7_judge 2 := ⟨(Gs_of (tb_6 (i := 84) rfl) rfl), (Gs_of (tb_1 (i := 8) (by decide +kernel)) rfl), ⟨by decide +kernel, by decide +kernel, by decide +kernel⟩, Nat.le_of_ble_eq_true rfl⟩
theorem vX7_judge : MV mX7_judge 2 := ⟨oX7_judge, (Gs_of (tb_6 (i := 82) (by decide +kernel)) rfl), (Gs_of (tb_6 (i := 83) (by decide +kernel)) rfl)⟩
abbrev mX7_image : MN := (yX7_image, cX7_image, 2, (some .int))
set_option maxRecDepth 20000 in
theorem oX7_image : MO mX7_image 0 := ⟨(Gs_of (tb_6 (i := 92) rfl) rfl), (Gs_of (tb_1 (i := 8) (by decide +kernel)) rfl), ⟨by decide +kernel, by decide +kernel, by decide +kernel⟩, Nat.le_of_ble_eq_true rfl⟩
theorem vX7_image : MV mX7_image 0 := ⟨oX7_image, (Gs_of (tb_6 (i := 90) (by decide +kernel)) rfl), (Gs_of (tb_6 (i := 91) (by decide +kernel)) rfl)⟩
abbrev mX7_undo : MN := (yX7_undo, cX7_undo, 2, (some .int))
set_option maxRecDepth 20000 in
theorem oX7_undo : MO mX7_undo 0 := ⟨(Gs_of (tb_6 (i := 96) rfl) rfl), (Gs_of (tb_1 (i := 8) (by decide +kernel)) rfl), ⟨by decide +kernel, by decide +kernel, by decide +kernel⟩, Nat.le_of_ble_eq_true rfl⟩
theorem vX7_undo : MV mX7_undo 0 := ⟨oX7_undo, (Gs_of (tb_6 (i := 94) (by decide +kernel)) rfl), (Gs_of (tb_6 (i := 95) (by decide +kernel)) rfl)⟩
abbrev mX7_body : MN := (yX7_body, cX7_body, 2, none)
set_option maxRecDepth 20000 in
theorem oX7_body : MO mX7_body 1 := ⟨(Gs_of (tb_6 (i := 108) rfl) rfl), (Gs_of (tb_1 (i := 8) (by decide +kernel)) rfl), ⟨by decide +kernel, by decide +kernel, by decide +kernel⟩, Nat.le_of_ble_eq_true rfl⟩
theorem vX7_body : MV mX7_body 1 := ⟨oX7_body, (Gs_of (tb_6 (i := 107) (by decide +kernel)) rfl), Gs_sel (i := 101) (q := (yX7_body, 64)) (by decide +kernel) rfl⟩
abbrev mX7_dancerSteps : MN := (yX7_dancerSteps, cX7_dancerSteps, 3, (some .int))
set_option maxRecDepth 20000 in
theorem oX7_dancerSteps : MO mX7_dancerSteps 2 := ⟨(Gs_of (tb_6 (i := 112) rfl) rfl), (Gs_of (tb_1 (i := 8) (by decide +kernel)) rfl), ⟨by decide +kernel, by decide +kernel, by decide +kernel⟩, Nat.le_of_ble_eq_true rfl⟩
theorem vX7_dancerSteps : MV mX7_dancerSteps 2 := ⟨oX7_dancerSteps, (Gs_of (tb_6 (i := 111) (by decide +kernel)) rfl), Gs_sel (i := 102) (q := (yX7_dancerSteps, 64)) (by decide +kernel) rfl⟩
abbrev mX7_stepsAct : MN := (yX7_stepsAct, cX7_stepsAct, 3, (some .int))
set_option maxRecDepth 20000 in
theorem oX7_stepsAct : MO mX7_stepsAct 2 := ⟨(Gs_of (tb_6 (i := 104) rfl) rfl), (Gs_of (tb_1 (i := 8) (by decide +kernel)) rfl), ⟨by decide +kernel, by decide +kernel, by decide +kernel⟩, Nat.le_of_ble_eq_true rfl⟩
theorem vX7_stepsAct : MV mX7_stepsAct 2 := ⟨oX7_stepsAct, (Gs_of (tb_6 (i := 103) (by decide +kernel)) rfl), Gs_sel (i := 100) (q := (yX7_stepsAct, 64)) (by decide +kernel) rfl⟩
abbrev mX7_dancerTurns : MN := (yX7_dancerTurns, cX7_dancerTurns, 3, (some .int))
set_option maxRecDepth 20000 in
theorem oX7_dancerTurns : MO mX7_dancerTurns 2 := ⟨(Gs_of (tb_6 (i := 124) rfl) rfl), (Gs_of (tb_1 (i := 8) (by decide +kernel)) rfl), ⟨by decide +kernel, by decide +kernel, by decide +kernel⟩, Nat.le_of_ble_eq_true rfl⟩
theorem vX7_dancerTurns : MV mX7_dancerTurns 2 := ⟨oX7_dancerTurns, (Gs_of (tb_6 (i := 123) (by decide +kernel)) rfl), Gs_sel (i := 105) (q := (yX7_dancerTurns, 64)) (by decide +kernel) rfl⟩
abbrev mX7_lateTurns : MN := (yX7_lateTurns, cX7_lateTurns, 3, (some .int))
set_option maxRecDepth 20000 in
theorem oX7_lateTurns : MO mX7_lateTurns 2 := ⟨(Gs_of (tb_6 (i := 120) rfl) rfl), (Gs_of (tb_1 (i := 8) (by decide +kernel)) rfl), ⟨by decide +kernel, by decide +kernel, by decide +kernel⟩, Nat.le_of_ble_eq_true rfl⟩
theorem vX7_lateTurns : MV mX7_lateTurns 2 := ⟨oX7_lateTurns, (Gs_of (tb_6 (i := 119) (by decide +kernel)) rfl), Gs_sel (i := 104) (q := (yX7_lateTurns, 64)) (by decide +kernel) rfl⟩
abbrev mX7_turnsAct : MN := (yX7_turnsAct, cX7_turnsAct, 4, (some .int))
set_option maxRecDepth 20000 in
theorem oX7_turnsAct : MO mX7_turnsAct 2 := ⟨(Gs_of (tb_6 (i := 116) rfl) rfl), (Gs_of (tb_1 (i := 8) (by decide +kernel)) rfl), ⟨by decide +kernel, by decide +kernel, by decide +kernel⟩, Nat.le_of_ble_eq_true rfl⟩
theorem vX7_turnsAct : MV mX7_turnsAct 2 := ⟨oX7_turnsAct, (Gs_of (tb_6 (i := 115) (by decide +kernel)) rfl), Gs_sel (i := 103) (q := (yX7_turnsAct, 64)) (by decide +kernel) rfl⟩
abbrev mX7_dancerTells : MN := (yX7_dancerTells, cX7_dancerTells, 3, (some .int))
set_option maxRecDepth 20000 in
theorem oX7_dancerTells : MO mX7_dancerTells 2 := ⟨(Gs_of (tb_6 (i := 132) rfl) rfl), (Gs_of (tb_1 (i := 8) (by decide +kernel)) rfl), ⟨by decide +kernel, by decide +kernel, by decide +kernel⟩, Nat.le_of_ble_eq_true rfl⟩
theorem vX7_dancerTells : MV mX7_dancerTells 2 := ⟨oX7_dancerTells, (Gs_of (tb_6 (i := 131) (by decide +kernel)) rfl), Gs_sel (i := 107) (q := (yX7_dancerTells, 64)) (by decide +kernel) rfl⟩
abbrev mX7_tellsAct : MN := (yX7_tellsAct, cX7_tellsAct, 4, (some .int))
set_option maxRecDepth 20000 in
theorem oX7_tellsAct : MO mX7_tellsAct 2 := ⟨(Gs_of (tb_6 (i := 128) rfl) rfl), (Gs_of (tb_1 (i := 8) (by decide +kernel)) rfl), ⟨by decide +kernel, by decide +kernel, by decide +kernel⟩, Nat.le_of_ble_eq_true rfl⟩
theorem vX7_tellsAct : MV mX7_tellsAct 2 := ⟨oX7_tellsAct, (Gs_of (tb_6 (i := 127) (by decide +kernel)) rfl), Gs_sel (i := 106) (q := (yX7_tellsAct, 64)) (by decide +kernel) rfl⟩
abbrev mX7_act : MN := (yX7_act, cX7_act, 4, (some .int))
set_option maxRecDepth 20000 in
theorem oX7_act : MO mX7_act 3 := ⟨(Gs_of (tb_6 (i := 100) rfl) rfl), (Gs_of (tb_1 (i := 8) (by decide +kernel)) rfl), ⟨by decide +kernel, by decide +kernel, by decide +kernel⟩, Nat.le_of_ble_eq_true rfl⟩
theorem vX7_act : MV mX7_act 3 := ⟨oX7_act, (Gs_of (tb_6 (i := 98) (by decide +kernel)) rfl), (Gs_of (tb_6 (i := 99) (by decide +kernel)) rfl)⟩
abbrev mX7_trace : MN := (yX7_trace, cX7_trace, 2, (some .int))
set_option maxRecDepth 20000 in
theorem oX7_trace : MO mX7_trace 1 := ⟨(Gs_of (tb_6 (i := 136) rfl) rfl), (Gs_of (tb_1 (i := 8) (by decide +kernel)) rfl), ⟨by decide +kernel, by decide +kernel, by decide +kernel⟩, Nat.le_of_ble_eq_true rfl⟩
theorem vX7_trace : MV mX7_trace 1 := ⟨oX7_trace, (Gs_of (tb_6 (i := 134) (by decide +kernel)) rfl), (Gs_of (tb_6 (i := 135) (by decide +kernel)) rfl)⟩
abbrev mX7_taken : MN := (yX7_taken, cX7_taken, 4, (some .int))
set_option maxRecDepth 20000 in
theorem oX7_taken : MO mX7_taken 2 := ⟨(Gs_of (tb_6 (i := 140) rfl) rfl), (Gs_of (tb_1 (i := 8) (by decide +kernel)) rfl), ⟨by decide +kernel, by decide +kernel, by decide +kernel⟩, Nat.le_of_ble_eq_true rfl⟩
theorem vX7_taken : MV mX7_taken 2 := ⟨oX7_taken, (Gs_of (tb_6 (i := 138) (by decide +kernel)) rfl), (Gs_of (tb_6 (i := 139) (by decide +kernel)) rfl)⟩
abbrev mX7_count : MN := (yX7_count, cX7_count, 2, (some .int))
set_option maxRecDepth 20000 in
theorem oX7_count : MO mX7_count 1 := ⟨(Gs_of (tb_6 (i := 144) rfl) rfl), (Gs_of (tb_1 (i := 8) (by decide +kernel)) rfl), ⟨by decide +kernel, by decide +kernel, by decide +kernel⟩, Nat.le_of_ble_eq_true rfl⟩
theorem vX7_count : MV mX7_count 1 := ⟨oX7_count, (Gs_of (tb_6 (i := 142) (by decide +kernel)) rfl), (Gs_of (tb_6 (i := 143) (by decide +kernel)) rfl)⟩
abbrev mX7_isTape : MN := (yX7_isTape, cX7_isTape, 2, (some .boolean))
set_option maxRecDepth 20000 in
theorem oX7_isTape : MO mX7_isTape 1 := ⟨(Gs_of (tb_6 (i := 88) rfl) rfl), (Gs_of (tb_1 (i := 8) (by decide +kernel)) rfl), ⟨by decide +kernel, by decide +kernel, by decide +kernel⟩, Nat.le_of_ble_eq_true rfl⟩
theorem vX7_isTape : MV mX7_isTape 1 := ⟨oX7_isTape, (Gs_of (tb_6 (i := 87) (by decide +kernel)) rfl), Gs_sel (i := 99) (q := (yX7_isTape, 64)) (by decide +kernel) rfl⟩
abbrev mX7_tape : MN := (yX7_tape, cX7_tape, 5, (some .int))
set_option maxRecDepth 20000 in
theorem oX7_tape : MO mX7_tape 3 := ⟨(Gs_of (tb_6 (i := 148) rfl) rfl), (Gs_of (tb_1 (i := 8) (by decide +kernel)) rfl), ⟨by decide +kernel, by decide +kernel, by decide +kernel⟩, Nat.le_of_ble_eq_true rfl⟩
theorem vX7_tape : MV mX7_tape 3 := ⟨oX7_tape, (Gs_of (tb_6 (i := 146) (by decide +kernel)) rfl), (Gs_of (tb_6 (i := 147) (by decide +kernel)) rfl)⟩
abbrev mX7_narrow : MN := (yX7_narrow, cX7_narrow, 4, (some .long))
set_option maxRecDepth 20000 in
theorem oX7_narrow : MO mX7_narrow 2 := ⟨(Gs_of (tb_6 (i := 156) rfl) rfl), (Gs_of (tb_1 (i := 8) (by decide +kernel)) rfl), ⟨by decide +kernel, by decide +kernel, by decide +kernel⟩, Nat.le_of_ble_eq_true rfl⟩
theorem vX7_narrow : MV mX7_narrow 2 := ⟨oX7_narrow, (Gs_of (tb_6 (i := 155) (by decide +kernel)) rfl), Gs_sel (i := 108) (q := (yX7_narrow, 64)) (by decide +kernel) rfl⟩
abbrev mX7_item : MN := (yX7_item, cX7_item, 5, (some .int))
set_option maxRecDepth 20000 in
theorem oX7_item : MO mX7_item 3 := ⟨(Gs_of (tb_6 (i := 152) rfl) rfl), (Gs_of (tb_1 (i := 8) (by decide +kernel)) rfl), ⟨by decide +kernel, by decide +kernel, by decide +kernel⟩, Nat.le_of_ble_eq_true rfl⟩
theorem vX7_item : MV mX7_item 3 := ⟨oX7_item, (Gs_of (tb_6 (i := 150) (by decide +kernel)) rfl), (Gs_of (tb_6 (i := 151) (by decide +kernel)) rfl)⟩
abbrev mX7_read : MN := (yX7_read, cX7_read, 3, (some .long))
set_option maxRecDepth 20000 in
theorem oX7_read : MO mX7_read 2 := ⟨(Gs_of (tb_6 (i := 160) rfl) rfl), (Gs_of (tb_1 (i := 8) (by decide +kernel)) rfl), ⟨by decide +kernel, by decide +kernel, by decide +kernel⟩, Nat.le_of_ble_eq_true rfl⟩
theorem vX7_read : MV mX7_read 2 := ⟨oX7_read, (Gs_of (tb_6 (i := 158) (by decide +kernel)) rfl), (Gs_of (tb_6 (i := 159) (by decide +kernel)) rfl)⟩
abbrev mX7_shift : MN := (yX7_shift, cX7_shift, 7, (some .int))
set_option maxRecDepth 20000 in
theorem oX7_shift : MO mX7_shift 5 := ⟨(Gs_of (tb_6 (i := 164) rfl) rfl), (Gs_of (tb_1 (i := 8) (by decide +kernel)) rfl), ⟨by decide +kernel, by decide +kernel, by decide +kernel⟩, Nat.le_of_ble_eq_true rfl⟩
theorem vX7_shift : MV mX7_shift 5 := ⟨oX7_shift, (Gs_of (tb_6 (i := 162) (by decide +kernel)) rfl), (Gs_of (tb_6 (i := 163) (by decide +kernel)) rfl)⟩
abbrev mJ11_isValidCodePoint_9a6ad : MN := (yJ11_isValidCodePoint_9a6ad, cJ11_isValidCodePoint_9a6ad, 2, (some .boolean))
set_option maxRecDepth 20000 in
theorem oJ11_isValidCodePoint_9a6ad : MO mJ11_isValidCodePoint_9a6ad 1 := ⟨(Gs_of (tb_3 (i := 7) rfl) rfl), (Gs_of (tb_1 (i := 14) (by decide +kernel)) rfl), ⟨by decide +kernel, by decide +kernel, by decide +kernel⟩, Nat.le_of_ble_eq_true rfl⟩
theorem sJ11_isValidCodePoint_9a6ad : MS mJ11_isValidCodePoint_9a6ad 1 := ⟨oJ11_isValidCodePoint_9a6ad, (Gs_of (tb_3 (i := 6) (by decide +kernel)) rfl)⟩
abbrev mJ11_highSurrogate_5068e : MN := (yJ11_highSurrogate_5068e, cJ11_highSurrogate_5068e, 1, (some .char))
set_option maxRecDepth 20000 in
theorem oJ11_highSurrogate_5068e : MO mJ11_highSurrogate_5068e 1 := ⟨(Gs_of (tb_3 (i := 10) rfl) rfl), (Gs_of (tb_1 (i := 14) (by decide +kernel)) rfl), ⟨by decide +kernel, by decide +kernel, by decide +kernel⟩, Nat.le_of_ble_eq_true rfl⟩
theorem sJ11_highSurrogate_5068e : MS mJ11_highSurrogate_5068e 1 := ⟨oJ11_highSurrogate_5068e, (Gs_of (tb_3 (i := 9) (by decide +kernel)) rfl)⟩
abbrev mJ11_lowSurrogate_5068e : MN := (yJ11_lowSurrogate_5068e, cJ11_lowSurrogate_5068e, 1, (some .char))
set_option maxRecDepth 20000 in
theorem oJ11_lowSurrogate_5068e : MO mJ11_lowSurrogate_5068e 1 := ⟨(Gs_of (tb_3 (i := 14) rfl) rfl), (Gs_of (tb_1 (i := 14) (by decide +kernel)) rfl), ⟨by decide +kernel, by decide +kernel, by decide +kernel⟩, Nat.le_of_ble_eq_true rfl⟩
theorem sJ11_lowSurrogate_5068e : MS mJ11_lowSurrogate_5068e 1 := ⟨oJ11_lowSurrogate_5068e, (Gs_of (tb_3 (i := 13) (by decide +kernel)) rfl)⟩
abbrev mJ9_floorMod_7cf53 : MN := (yJ9_floorMod_7cf53, cJ9_floorMod_7cf53, 3, (some .int))
set_option maxRecDepth 20000 in
theorem oJ9_floorMod_7cf53 : MO mJ9_floorMod_7cf53 2 := ⟨(Gs_of (tb_2 (i := 60) rfl) rfl), (Gs_of (tb_1 (i := 9) (by decide +kernel)) rfl), ⟨by decide +kernel, by decide +kernel, by decide +kernel⟩, Nat.le_of_ble_eq_true rfl⟩
theorem sJ9_floorMod_7cf53 : MS mJ9_floorMod_7cf53 2 := ⟨oJ9_floorMod_7cf53, (Gs_of (tb_2 (i := 59) (by decide +kernel)) rfl)⟩
abbrev mJ9_max_7cf53 : MN := (yJ9_max_7cf53, cJ9_max_7cf53, 2, (some .int))
set_option maxRecDepth 20000 in
theorem oJ9_max_7cf53 : MO mJ9_max_7cf53 2 := ⟨(Gs_of (tb_2 (i := 183) rfl) rfl), (Gs_of (tb_1 (i := 9) (by decide +kernel)) rfl), ⟨by decide +kernel, by decide +kernel, by decide +kernel⟩, Nat.le_of_ble_eq_true rfl⟩
theorem sJ9_max_7cf53 : MS mJ9_max_7cf53 2 := ⟨oJ9_max_7cf53, (Gs_of (tb_2 (i := 182) (by decide +kernel)) rfl)⟩
abbrev mJ9_min_7cf53 : MN := (yJ9_min_7cf53, cJ9_min_7cf53, 2, (some .int))
set_option maxRecDepth 20000 in
theorem oJ9_min_7cf53 : MO mJ9_min_7cf53 2 := ⟨(Gs_of (tb_2 (i := 180) rfl) rfl), (Gs_of (tb_1 (i := 9) (by decide +kernel)) rfl), ⟨by decide +kernel, by decide +kernel, by decide +kernel⟩, Nat.le_of_ble_eq_true rfl⟩
theorem sJ9_min_7cf53 : MS mJ9_min_7cf53 2 := ⟨oJ9_min_7cf53, (Gs_of (tb_2 (i := 179) (by decide +kernel)) rfl)⟩
abbrev mJ0_length_8abf5 : MN := (yJ0_length_8abf5, cJ0_length_8abf5, 1, (some .int))
set_option maxRecDepth 20000 in
theorem oJ0_length_8abf5 : MO mJ0_length_8abf5 0 := ⟨(Gs_of (tb_2 (i := 121) rfl) rfl), (Gs_of (tb_1 (i := 10) (by decide +kernel)) rfl), ⟨by decide +kernel, by decide +kernel, by decide +kernel⟩, Nat.le_of_ble_eq_true rfl⟩
theorem vJ0_length_8abf5 : MV mJ0_length_8abf5 0 := ⟨oJ0_length_8abf5, (Gs_of (tb_2 (i := 119) (by decide +kernel)) rfl), (Gs_of (tb_2 (i := 120) (by decide +kernel)) rfl)⟩
abbrev mJ0_charAt_5068e : MN := (yJ0_charAt_5068e, cJ0_charAt_5068e, 2, (some .char))
set_option maxRecDepth 20000 in
theorem oJ0_charAt_5068e : MO mJ0_charAt_5068e 1 := ⟨(Gs_of (tb_2 (i := 131) rfl) rfl), (Gs_of (tb_1 (i := 10) (by decide +kernel)) rfl), ⟨by decide +kernel, by decide +kernel, by decide +kernel⟩, Nat.le_of_ble_eq_true rfl⟩
theorem vJ0_charAt_5068e : MV mJ0_charAt_5068e 1 := ⟨oJ0_charAt_5068e, (Gs_of (tb_2 (i := 129) (by decide +kernel)) rfl), (Gs_of (tb_2 (i := 130) (by decide +kernel)) rfl)⟩
abbrev mJ0_indexOf_0f7a4 : MN := (yJ0_indexOf_0f7a4, cJ0_indexOf_0f7a4, 2, (some .int))
set_option maxRecDepth 20000 in
theorem oJ0_indexOf_0f7a4 : MO mJ0_indexOf_0f7a4 1 := ⟨(Gs_of (tb_2 (i := 204) rfl) rfl), (Gs_of (tb_1 (i := 10) (by decide +kernel)) rfl), ⟨by decide +kernel, by decide +kernel, by decide +kernel⟩, Nat.le_of_ble_eq_true rfl⟩
theorem vJ0_indexOf_0f7a4 : MV mJ0_indexOf_0f7a4 1 := ⟨oJ0_indexOf_0f7a4, (Gs_of (tb_2 (i := 202) (by decide +kernel)) rfl), (Gs_of (tb_2 (i := 203) (by decide +kernel)) rfl)⟩
abbrev mJ0_indexOf_7cf53 : MN := (yJ0_indexOf_7cf53, cJ0_indexOf_7cf53, 3, (some .int))
set_option maxRecDepth 20000 in
theorem oJ0_indexOf_7cf53 : MO mJ0_indexOf_7cf53 2 := ⟨(Gs_of (tb_2 (i := 208) rfl) rfl), (Gs_of (tb_1 (i := 10) (by decide +kernel)) rfl), ⟨by decide +kernel, by decide +kernel, by decide +kernel⟩, Nat.le_of_ble_eq_true rfl⟩
theorem vJ0_indexOf_7cf53 : MV mJ0_indexOf_7cf53 2 := ⟨oJ0_indexOf_7cf53, (Gs_of (tb_2 (i := 206) (by decide +kernel)) rfl), (Gs_of (tb_2 (i := 207) (by decide +kernel)) rfl)⟩
abbrev mJ0_coder_7d493 : MN := (yJ0_coder_7d493, cJ0_coder_7d493, 1, (some .byte))
set_option maxRecDepth 20000 in
theorem oJ0_coder_7d493 : MO mJ0_coder_7d493 0 := ⟨(Gs_of (tb_2 (i := 125) rfl) rfl), (Gs_of (tb_1 (i := 10) (by decide +kernel)) rfl), ⟨by decide +kernel, by decide +kernel, by decide +kernel⟩, Nat.le_of_ble_eq_true rfl⟩
theorem vJ0_coder_7d493 : MV mJ0_coder_7d493 0 := ⟨oJ0_coder_7d493, (Gs_of (tb_2 (i := 123) (by decide +kernel)) rfl), (Gs_of (tb_2 (i := 124) (by decide +kernel)) rfl)⟩
abbrev mJ0_isLatin1_aae02 : MN := (yJ0_isLatin1_aae02, cJ0_isLatin1_aae02, 1, (some .boolean))
set_option maxRecDepth 20000 in
theorem oJ0_isLatin1_aae02 : MO mJ0_isLatin1_aae02 0 := ⟨(Gs_of (tb_2 (i := 135) rfl) rfl), (Gs_of (tb_1 (i := 10) (by decide +kernel)) rfl), ⟨by decide +kernel, by decide +kernel, by decide +kernel⟩, Nat.le_of_ble_eq_true rfl⟩
theorem vJ0_isLatin1_aae02 : MV mJ0_isLatin1_aae02 0 := ⟨oJ0_isLatin1_aae02, (Gs_of (tb_2 (i := 133) (by decide +kernel)) rfl), (Gs_of (tb_2 (i := 134) (by decide +kernel)) rfl)⟩
abbrev mJ0_checkIndex_df160 : MN := (yJ0_checkIndex_df160, cJ0_checkIndex_df160, 2, none)
set_option maxRecDepth 20000 in
theorem oJ0_checkIndex_df160 : MO mJ0_checkIndex_df160 2 := ⟨(Gs_of (tb_2 (i := 141) rfl) rfl), (Gs_of (tb_1 (i := 10) (by decide +kernel)) rfl), ⟨by decide +kernel, by decide +kernel, by decide +kernel⟩, Nat.le_of_ble_eq_true rfl⟩
theorem sJ0_checkIndex_df160 : MS mJ0_checkIndex_df160 2 := ⟨oJ0_checkIndex_df160, (Gs_of (tb_2 (i := 140) (by decide +kernel)) rfl)⟩
abbrev mJ0_checkBoundsBeginEnd_23922 : MN := (yJ0_checkBoundsBeginEnd_23922, cJ0_checkBoundsBeginEnd_23922, 3, none)
set_option maxRecDepth 20000 in
theorem oJ0_checkBoundsBeginEnd_23922 : MO mJ0_checkBoundsBeginEnd_23922 3 := ⟨(Gs_of (tb_2 (i := 235) rfl) rfl), (Gs_of (tb_1 (i := 10) (by decide +kernel)) rfl), ⟨by decide +kernel, by decide +kernel, by decide +kernel⟩, Nat.le_of_ble_eq_true rfl⟩
theorem sJ0_checkBoundsBeginEnd_23922 : MS mJ0_checkBoundsBeginEnd_23922 3 := ⟨oJ0_checkBoundsBeginEnd_23922, (Gs_of (tb_2 (i := 234) (by decide +kernel)) rfl)⟩
abbrev mJ1_charAt_3b067 : MN := (yJ1_charAt_3b067, cJ1_charAt_3b067, 2, (some .char))
set_option maxRecDepth 20000 in
theorem oJ1_charAt_3b067 : MO mJ1_charAt_3b067 2 := ⟨(Gs_of (tb_2 (i := 138) rfl) rfl), (Gs_of (tb_1 (i := 11) (by decide +kernel)) rfl), ⟨by decide +kernel, by decide +kernel, by decide +kernel⟩, Nat.le_of_ble_eq_true rfl⟩
theorem sJ1_charAt_3b067 : MS mJ1_charAt_3b067 2 := ⟨oJ1_charAt_3b067, (Gs_of (tb_2 (i := 137) (by decide +kernel)) rfl)⟩
abbrev mJ1_canEncode_9a6ad : MN := (yJ1_canEncode_9a6ad, cJ1_canEncode_9a6ad, 1, (some .boolean))
set_option maxRecDepth 20000 in
theorem oJ1_canEncode_9a6ad : MO mJ1_canEncode_9a6ad 1 := ⟨(Gs_of (tb_2 (i := 215) rfl) rfl), (Gs_of (tb_1 (i := 11) (by decide +kernel)) rfl), ⟨by decide +kernel, by decide +kernel, by decide +kernel⟩, Nat.le_of_ble_eq_true rfl⟩
theorem sJ1_canEncode_9a6ad : MS mJ1_canEncode_9a6ad 1 := ⟨oJ1_canEncode_9a6ad, (Gs_of (tb_2 (i := 214) (by decide +kernel)) rfl)⟩
abbrev mJ1_indexOf_4cfef : MN := (yJ1_indexOf_4cfef, cJ1_indexOf_4cfef, 4, (some .int))
set_option maxRecDepth 20000 in
theorem oJ1_indexOf_4cfef : MO mJ1_indexOf_4cfef 4 := ⟨(Gs_of (tb_2 (i := 212) rfl) rfl), (Gs_of (tb_1 (i := 11) (by decide +kernel)) rfl), ⟨by decide +kernel, by decide +kernel, by decide +kernel⟩, Nat.le_of_ble_eq_true rfl⟩
theorem sJ1_indexOf_4cfef : MS mJ1_indexOf_4cfef 4 := ⟨oJ1_indexOf_4cfef, (Gs_of (tb_2 (i := 211) (by decide +kernel)) rfl)⟩
abbrev mJ1_indexOfChar_4cfef : MN := (yJ1_indexOfChar_4cfef, cJ1_indexOfChar_4cfef, 6, (some .int))
set_option maxRecDepth 20000 in
theorem oJ1_indexOfChar_4cfef : MO mJ1_indexOfChar_4cfef 4 := ⟨(Gs_of (tb_2 (i := 220) rfl) rfl), (Gs_of (tb_1 (i := 11) (by decide +kernel)) rfl), ⟨by decide +kernel, by decide +kernel, by decide +kernel⟩, Nat.le_of_ble_eq_true rfl⟩
theorem sJ1_indexOfChar_4cfef : MS mJ1_indexOfChar_4cfef 4 := ⟨oJ1_indexOfChar_4cfef, (Gs_of (tb_2 (i := 219) (by decide +kernel)) rfl)⟩
abbrev mJ2_getChar_3b067 : MN := (yJ2_getChar_3b067, cJ2_getChar_3b067, 2, (some .char))
set_option maxRecDepth 20000 in
theorem oJ2_getChar_3b067 : MO mJ2_getChar_3b067 2 := ⟨(Gs_of (tb_2 (i := 159) rfl) rfl), (Gs_of (tb_1 (i := 13) (by decide +kernel)) rfl), ⟨by decide +kernel, by decide +kernel, by decide +kernel⟩, Nat.le_of_ble_eq_true rfl⟩
theorem sJ2_getChar_3b067 : MS mJ2_getChar_3b067 2 := ⟨oJ2_getChar_3b067, (Gs_of (tb_2 (i := 158) (by decide +kernel)) rfl)⟩
abbrev mJ2_length_9d52b : MN := (yJ2_length_9d52b, cJ2_length_9d52b, 1, (some .int))
set_option maxRecDepth 20000 in
theorem oJ2_length_9d52b : MO mJ2_length_9d52b 1 := ⟨(Gs_of (tb_2 (i := 155) rfl) rfl), (Gs_of (tb_1 (i := 13) (by decide +kernel)) rfl), ⟨by decide +kernel, by decide +kernel, by decide +kernel⟩, Nat.le_of_ble_eq_true rfl⟩
theorem sJ2_length_9d52b : MS mJ2_length_9d52b 1 := ⟨oJ2_length_9d52b, (Gs_of (tb_2 (i := 154) (by decide +kernel)) rfl)⟩
abbrev mJ2_indexOf_4cfef : MN := (yJ2_indexOf_4cfef, cJ2_indexOf_4cfef, 4, (some .int))
set_option maxRecDepth 20000 in
theorem oJ2_indexOf_4cfef : MO mJ2_indexOf_4cfef 4 := ⟨(Gs_of (tb_2 (i := 223) rfl) rfl), (Gs_of (tb_1 (i := 13) (by decide +kernel)) rfl), ⟨by decide +kernel, by decide +kernel, by decide +kernel⟩, Nat.le_of_ble_eq_true rfl⟩
theorem sJ2_indexOf_4cfef : MS mJ2_indexOf_4cfef 4 := ⟨oJ2_indexOf_4cfef, (Gs_of (tb_2 (i := 222) (by decide +kernel)) rfl)⟩
abbrev mJ2_indexOfChar_4cfef : MN := (yJ2_indexOfChar_4cfef, cJ2_indexOfChar_4cfef, 4, (some .int))
set_option maxRecDepth 20000 in
theorem oJ2_indexOfChar_4cfef : MO mJ2_indexOfChar_4cfef 4 := ⟨(Gs_of (tb_2 (i := 229) rfl) rfl), (Gs_of (tb_1 (i := 13) (by decide +kernel)) rfl), ⟨by decide +kernel, by decide +kernel, by decide +kernel⟩, Nat.le_of_ble_eq_true rfl⟩
theorem sJ2_indexOfChar_4cfef : MS mJ2_indexOfChar_4cfef 4 := ⟨oJ2_indexOfChar_4cfef, (Gs_of (tb_2 (i := 228) (by decide +kernel)) rfl)⟩
abbrev mJ2_indexOfCharUnsafe_4cfef : MN := (yJ2_indexOfCharUnsafe_4cfef, cJ2_indexOfCharUnsafe_4cfef, 5, (some .int))
set_option maxRecDepth 20000 in
theorem oJ2_indexOfCharUnsafe_4cfef : MO mJ2_indexOfCharUnsafe_4cfef 4 := ⟨(Gs_of (tb_3 (i := 1) rfl) rfl), (Gs_of (tb_1 (i := 13) (by decide +kernel)) rfl), ⟨by decide +kernel, by decide +kernel, by decide +kernel⟩, Nat.le_of_ble_eq_true rfl⟩
theorem sJ2_indexOfCharUnsafe_4cfef : MS mJ2_indexOfCharUnsafe_4cfef 4 := ⟨oJ2_indexOfCharUnsafe_4cfef, (Gs_of (tb_3 (i := 0) (by decide +kernel)) rfl)⟩
abbrev mJ2_indexOfSupplementary_4cfef : MN := (yJ2_indexOfSupplementary_4cfef, cJ2_indexOfSupplementary_4cfef, 7, (some .int))
set_option maxRecDepth 20000 in
theorem oJ2_indexOfSupplementary_4cfef : MO mJ2_indexOfSupplementary_4cfef 4 := ⟨(Gs_of (tb_3 (i := 4) rfl) rfl), (Gs_of (tb_1 (i := 13) (by decide +kernel)) rfl), ⟨by decide +kernel, by decide +kernel, by decide +kernel⟩, Nat.le_of_ble_eq_true rfl⟩
theorem sJ2_indexOfSupplementary_4cfef : MS mJ2_indexOfSupplementary_4cfef 4 := ⟨oJ2_indexOfSupplementary_4cfef, (Gs_of (tb_3 (i := 3) (by decide +kernel)) rfl)⟩
abbrev mJ2_charAt_3b067 : MN := (yJ2_charAt_3b067, cJ2_charAt_3b067, 2, (some .char))
set_option maxRecDepth 20000 in
theorem oJ2_charAt_3b067 : MO mJ2_charAt_3b067 2 := ⟨(Gs_of (tb_2 (i := 149) rfl) rfl), (Gs_of (tb_1 (i := 13) (by decide +kernel)) rfl), ⟨by decide +kernel, by decide +kernel, by decide +kernel⟩, Nat.le_of_ble_eq_true rfl⟩
theorem sJ2_charAt_3b067 : MS mJ2_charAt_3b067 2 := ⟨oJ2_charAt_3b067, (Gs_of (tb_2 (i := 148) (by decide +kernel)) rfl)⟩
abbrev mJ2_checkIndex_2214a : MN := (yJ2_checkIndex_2214a, cJ2_checkIndex_2214a, 2, none)
set_option maxRecDepth 20000 in
theorem oJ2_checkIndex_2214a : MO mJ2_checkIndex_2214a 2 := ⟨(Gs_of (tb_2 (i := 152) rfl) rfl), (Gs_of (tb_1 (i := 13) (by decide +kernel)) rfl), ⟨by decide +kernel, by decide +kernel, by decide +kernel⟩, Nat.le_of_ble_eq_true rfl⟩
theorem sJ2_checkIndex_2214a : MS mJ2_checkIndex_2214a 2 := ⟨oJ2_checkIndex_2214a, (Gs_of (tb_2 (i := 151) (by decide +kernel)) rfl)⟩
abbrev mJ2_checkBoundsBeginEnd_d044e : MN := (yJ2_checkBoundsBeginEnd_d044e, cJ2_checkBoundsBeginEnd_d044e, 3, none)
set_option maxRecDepth 20000 in
theorem oJ2_checkBoundsBeginEnd_d044e : MO mJ2_checkBoundsBeginEnd_d044e 3 := ⟨(Gs_of (tb_2 (i := 232) rfl) rfl), (Gs_of (tb_1 (i := 13) (by decide +kernel)) rfl), ⟨by decide +kernel, by decide +kernel, by decide +kernel⟩, Nat.le_of_ble_eq_true rfl⟩
theorem sJ2_checkBoundsBeginEnd_d044e : MS mJ2_checkBoundsBeginEnd_d044e 3 := ⟨oJ2_checkBoundsBeginEnd_d044e, (Gs_of (tb_2 (i := 231) (by decide +kernel)) rfl)⟩
abbrev mJ7_fill_d0a16 : MN := (yJ7_fill_d0a16, cJ7_fill_d0a16, 5, none)
set_option maxRecDepth 20000 in
theorem oJ7_fill_d0a16 : MO mJ7_fill_d0a16 2 := ⟨(Gs_of (tb_4 (i := 54) rfl) rfl), (Gs_of (tb_1 (i := 16) (by decide +kernel)) rfl), ⟨by decide +kernel, by decide +kernel, by decide +kernel⟩, Nat.le_of_ble_eq_true rfl⟩
theorem sJ7_fill_d0a16 : MS mJ7_fill_d0a16 2 := ⟨oJ7_fill_d0a16, (Gs_of (tb_4 (i := 53) (by decide +kernel)) rfl)⟩
abbrev mJ7_fill_53178 : MN := (yJ7_fill_53178, cJ7_fill_53178, 4, none)
set_option maxRecDepth 20000 in
theorem oJ7_fill_53178 : MO mJ7_fill_53178 2 := ⟨(Gs_of (tb_3 (i := 150) rfl) rfl), (Gs_of (tb_1 (i := 16) (by decide +kernel)) rfl), ⟨by decide +kernel, by decide +kernel, by decide +kernel⟩, Nat.le_of_ble_eq_true rfl⟩
theorem sJ7_fill_53178 : MS mJ7_fill_53178 2 := ⟨oJ7_fill_53178, (Gs_of (tb_3 (i := 149) (by decide +kernel)) rfl)⟩
abbrev mJ3_checkIndex_8e157 : MN := (yJ3_checkIndex_8e157, cJ3_checkIndex_8e157, 3, (some .int))
set_option maxRecDepth 20000 in
theorem oJ3_checkIndex_8e157 : MO mJ3_checkIndex_8e157 3 := ⟨(Gs_of (tb_2 (i := 146) rfl) rfl), (Gs_of (tb_1 (i := 12) (by decide +kernel)) rfl), ⟨by decide +kernel, by decide +kernel, by decide +kernel⟩, Nat.le_of_ble_eq_true rfl⟩
theorem sJ3_checkIndex_8e157 : MS mJ3_checkIndex_8e157 3 := ⟨oJ3_checkIndex_8e157, (Gs_of (tb_2 (i := 145) (by decide +kernel)) rfl)⟩
abbrev mJ3_checkFromToIndex_8c36e : MN := (yJ3_checkFromToIndex_8c36e, cJ3_checkFromToIndex_8c36e, 4, (some .int))
set_option maxRecDepth 20000 in
theorem oJ3_checkFromToIndex_8c36e : MO mJ3_checkFromToIndex_8c36e 4 := ⟨(Gs_of (tb_2 (i := 238) rfl) rfl), (Gs_of (tb_1 (i := 12) (by decide +kernel)) rfl), ⟨by decide +kernel, by decide +kernel, by decide +kernel⟩, Nat.le_of_ble_eq_true rfl⟩
theorem sJ3_checkFromToIndex_8c36e : MS mJ3_checkFromToIndex_8c36e 4 := ⟨oJ3_checkFromToIndex_8c36e, (Gs_of (tb_2 (i := 237) (by decide +kernel)) rfl)⟩
theorem tX0_0 : FT 0 0 .int := ⟨_, rfl, rfl, by decide +kernel⟩
theorem tX0_2 : FT 0 2 .int := ⟨_, rfl, rfl, by decide +kernel⟩
theorem tX0_3 : FT 0 3 .int := ⟨_, rfl, rfl, by decide +kernel⟩
theorem tX0_4 : FT 0 4 .int := ⟨_, rfl, rfl, by decide +kernel⟩
theorem tX1_0 : FT 1 0 .int := ⟨_, rfl, rfl, by decide +kernel⟩
theorem tX1_4 : FT 1 4 .int := ⟨_, rfl, rfl, by decide +kernel⟩
theorem tX1_6 : FT 1 6 .int := ⟨_, rfl, rfl, by decide +kernel⟩
theorem tX2_0 : FT 2 0 .int := ⟨_, rfl, rfl, by decide +kernel⟩
theorem tX2_1 : FT 2 1 .int := ⟨_, rfl, rfl, by decide +kernel⟩
theorem tX2_2 : FT 2 2 (.object "TwoBeatsAgo$Hall") := ⟨_, rfl, rfl, by decide +kernel⟩
theorem tX3_0 : FT 3 0 .int := ⟨_, rfl, rfl, by decide +kernel⟩
theorem tX3_1 : FT 3 1 .int := ⟨_, rfl, rfl, by decide +kernel⟩
theorem tX3_2 : FT 3 2 .int := ⟨_, rfl, rfl, by decide +kernel⟩
theorem tX3_3 : FT 3 3 .int := ⟨_, rfl, rfl, by decide +kernel⟩
theorem tX4_1 : FT 4 1 .int := ⟨_, rfl, rfl, by decide +kernel⟩
theorem tX4_2 : FT 4 2 .int := ⟨_, rfl, rfl, by decide +kernel⟩
theorem tX5_0 : FT 5 0 .int := ⟨_, rfl, rfl, by decide +kernel⟩
theorem tX5_1 : FT 5 1 .int := ⟨_, rfl, rfl, by decide +kernel⟩
theorem tX6_5 : FT 6 5 .boolean := ⟨_, rfl, rfl, by decide +kernel⟩
theorem tX6_7 : FT 6 7 .int := ⟨_, rfl, rfl, by decide +kernel⟩
theorem tX7_0 : FT 7 0 .int := ⟨_, rfl, rfl, by decide +kernel⟩
theorem tX7_1 : FT 7 1 .int := ⟨_, rfl, rfl, by decide +kernel⟩
theorem tX7_7 : FT 7 7 .int := ⟨_, rfl, rfl, by decide +kernel⟩
theorem tX7_8 : FT 7 8 .int := ⟨_, rfl, rfl, by decide +kernel⟩
theorem tX7_9 : FT 7 9 .int := ⟨_, rfl, rfl, by decide +kernel⟩
theorem tX7_10 : FT 7 10 .int := ⟨_, rfl, rfl, by decide +kernel⟩
theorem tX7_11 : FT 7 11 .int := ⟨_, rfl, rfl, by decide +kernel⟩
theorem tX7_20 : FT 7 20 .int := ⟨_, rfl, rfl, by decide +kernel⟩
theorem tX7_21 : FT 7 21 .int := ⟨_, rfl, rfl, by decide +kernel⟩
theorem tX7_22 : FT 7 22 .int := ⟨_, rfl, rfl, by decide +kernel⟩
theorem tX7_27 : FT 7 27 .int := ⟨_, rfl, rfl, by decide +kernel⟩
theorem tX7_31 : FT 7 31 .int := ⟨_, rfl, rfl, by decide +kernel⟩
theorem tX7_35 : FT 7 35 .int := ⟨_, rfl, rfl, by decide +kernel⟩
theorem tX7_36 : FT 7 36 .int := ⟨_, rfl, rfl, by decide +kernel⟩
theorem tX7_40 : FT 7 40 .boolean := ⟨_, rfl, rfl, by decide +kernel⟩
theorem tX7_41 : FT 7 41 .int := ⟨_, rfl, rfl, by decide +kernel⟩
theorem tX7_42 : FT 7 42 .int := ⟨_, rfl, rfl, by decide +kernel⟩
theorem tX7_43 : FT 7 43 .int := ⟨_, rfl, rfl, by decide +kernel⟩
theorem tX7_44 : FT 7 44 .int := ⟨_, rfl, rfl, by decide +kernel⟩
theorem tX7_45 : FT 7 45 .int := ⟨_, rfl, rfl, by decide +kernel⟩
theorem tX7_46 : FT 7 46 .int := ⟨_, rfl, rfl, by decide +kernel⟩
theorem tX7_58 : FT 7 58 .int := ⟨_, rfl, rfl, by decide +kernel⟩
theorem fX6_17 : FL RX6 17 6 0 0 := ⟨rfl, _, rfl, by decide, Or.inl (Gs_of (tb_1 (i := 204) (by decide +kernel)) rfl)⟩
theorem fX6_23 : FL RX6 23 6 1 1 := ⟨rfl, _, rfl, by decide, Or.inl (Gs_of (tb_1 (i := 205) (by decide +kernel)) rfl)⟩
theorem fX6_26 : FL RX6 26 6 2 2 := ⟨rfl, _, rfl, by decide, Or.inl (Gs_of (tb_1 (i := 206) (by decide +kernel)) rfl)⟩
theorem fX6_32 : FL RX6 32 6 3 3 := ⟨rfl, _, rfl, by decide, Or.inl (Gs_of (tb_1 (i := 207) (by decide +kernel)) rfl)⟩
theorem fX6_36 : FL RX6 36 6 4 4 := ⟨rfl, _, rfl, by decide, Or.inl (Gs_of (tb_1 (i := 208) (by decide +kernel)) rfl)⟩
theorem fX6_39 : FL RX6 39 6 6 6 := ⟨rfl, _, rfl, by decide, Or.inl (Gs_of (tb_1 (i := 210) (by decide +kernel)) rfl)⟩
theorem fX6_46 : FL RX6 46 6 8 8 := ⟨rfl, _, rfl, by decide, Or.inl (Gs_of (tb_1 (i := 212) (by decide +kernel)) rfl)⟩
theorem fX6_53 : FL RX6 53 6 9 9 := ⟨rfl, _, rfl, by decide, Or.inl (Gs_of (tb_1 (i := 213) (by decide +kernel)) rfl)⟩
theorem fX6_59 : FL RX6 59 6 10 10 := ⟨rfl, _, rfl, by decide, Or.inl (Gs_of (tb_1 (i := 214) (by decide +kernel)) rfl)⟩
theorem fX6_64 : FL RX6 64 6 11 11 := ⟨rfl, _, rfl, by decide, Or.inl (Gs_of (tb_1 (i := 215) (by decide +kernel)) rfl)⟩
theorem fX6_72 : FL RX6 72 2 0 0 := ⟨rfl, _, rfl, by decide, Or.inr ⟨"TwoBeatsAgo", (Ns_of (tb_1 (i := 65) (by decide +kernel)) rfl)⟩⟩
theorem fX6_83 : FL RX6 83 2 3 3 := ⟨rfl, _, rfl, by decide, Or.inr ⟨"TwoBeatsAgo", (Ns_of (tb_1 (i := 73) (by decide +kernel)) rfl)⟩⟩
theorem fX6_86 : FL RX6 86 2 4 4 := ⟨rfl, _, rfl, by decide, Or.inr ⟨"TwoBeatsAgo", (Ns_of (tb_1 (i := 76) (by decide +kernel)) rfl)⟩⟩
theorem fX6_89 : FL RX6 89 2 5 5 := ⟨rfl, _, rfl, by decide, Or.inr ⟨"TwoBeatsAgo", (Ns_of (tb_1 (i := 78) (by decide +kernel)) rfl)⟩⟩
theorem fX6_92 : FL RX6 92 2 2 2 := ⟨rfl, _, rfl, by decide, Or.inr ⟨"TwoBeatsAgo", (Ns_of (tb_1 (i := 70) (by decide +kernel)) rfl)⟩⟩
theorem fX6_115 : FL RX6 115 2 7 7 := ⟨rfl, _, rfl, by decide, Or.inr ⟨"TwoBeatsAgo", (Ns_of (tb_1 (i := 81) (by decide +kernel)) rfl)⟩⟩
theorem fX6_118 : FL RX6 118 4 1 1 := ⟨rfl, _, rfl, by decide, Or.inr ⟨"TwoBeatsAgo", (Ns_of (tb_1 (i := 148) (by decide +kernel)) rfl)⟩⟩
theorem fX6_125 : FL RX6 125 6 7 7 := ⟨rfl, _, rfl, by decide, Or.inl (Gs_of (tb_1 (i := 211) (by decide +kernel)) rfl)⟩
theorem fX6_132 : FL RX6 132 4 2 2 := ⟨rfl, _, rfl, by decide, Or.inr ⟨"TwoBeatsAgo", (Ns_of (tb_1 (i := 150) (by decide +kernel)) rfl)⟩⟩
theorem fX6_138 : FL RX6 138 2 1 1 := ⟨rfl, _, rfl, by decide, Or.inr ⟨"TwoBeatsAgo", (Ns_of (tb_1 (i := 68) (by decide +kernel)) rfl)⟩⟩
theorem fX6_141 : FL RX6 141 3 0 0 := ⟨rfl, _, rfl, by decide, Or.inr ⟨"TwoBeatsAgo", (Ns_of (tb_1 (i := 33) (by decide +kernel)) rfl)⟩⟩
theorem fX6_144 : FL RX6 144 3 1 1 := ⟨rfl, _, rfl, by decide, Or.inr ⟨"TwoBeatsAgo", (Ns_of (tb_1 (i := 36) (by decide +kernel)) rfl)⟩⟩
theorem fX6_201 : FL RX6 201 1 0 0 := ⟨rfl, _, rfl, by decide, Or.inr ⟨"TwoBeatsAgo", (Ns_of (tb_1 (i := 109) (by decide +kernel)) rfl)⟩⟩
theorem fX6_216 : FL RX6 216 1 4 4 := ⟨rfl, _, rfl, by decide, Or.inr ⟨"TwoBeatsAgo", (Ns_of (tb_1 (i := 114) (by decide +kernel)) rfl)⟩⟩
theorem fX6_225 : FL RX6 225 1 6 6 := ⟨rfl, _, rfl, by decide, Or.inr ⟨"TwoBeatsAgo", (Ns_of (tb_1 (i := 117) (by decide +kernel)) rfl)⟩⟩
theorem fX6_237 : FL RX6 237 5 0 0 := ⟨rfl, _, rfl, by decide, Or.inr ⟨"TwoBeatsAgo", (Ns_of (tb_1 (i := 191) (by decide +kernel)) rfl)⟩⟩
theorem fX6_240 : FL RX6 240 5 1 1 := ⟨rfl, _, rfl, by decide, Or.inr ⟨"TwoBeatsAgo", (Ns_of (tb_1 (i := 193) (by decide +kernel)) rfl)⟩⟩
theorem fX6_241 : FL RX6 241 5 2 2 := ⟨rfl, _, rfl, by decide, Or.inr ⟨"TwoBeatsAgo", (Ns_of (tb_1 (i := 195) (by decide +kernel)) rfl)⟩⟩
theorem fX6_248 : FL RX6 248 6 5 5 := ⟨rfl, _, rfl, by decide, Or.inl (Gs_of (tb_1 (i := 209) (by decide +kernel)) rfl)⟩
theorem fX6_259 : FL RX6 259 0 0 0 := ⟨rfl, _, rfl, by decide, Or.inr ⟨"TwoBeatsAgo", (Ns_of (tb_1 (i := 166) (by decide +kernel)) rfl)⟩⟩
theorem fX6_262 : FL RX6 262 0 1 1 := ⟨rfl, _, rfl, by decide, Or.inr ⟨"TwoBeatsAgo", (Ns_of (tb_1 (i := 168) (by decide +kernel)) rfl)⟩⟩
theorem fX0_11 : FL RX0 11 0 1 1 := ⟨rfl, _, rfl, by decide, Or.inl (Gs_of (tb_1 (i := 167) (by decide +kernel)) rfl)⟩
theorem fX0_15 : FL RX0 15 0 0 0 := ⟨rfl, _, rfl, by decide, Or.inl (Gs_of (tb_1 (i := 165) (by decide +kernel)) rfl)⟩
theorem fX0_25 : FL RX0 25 2 3 3 := ⟨rfl, _, rfl, by decide, Or.inr ⟨"TwoBeatsAgo", (Ns_of (tb_1 (i := 72) (by decide +kernel)) rfl)⟩⟩
theorem fX0_28 : FL RX0 28 0 2 2 := ⟨rfl, _, rfl, by decide, Or.inl (Gs_of (tb_1 (i := 169) (by decide +kernel)) rfl)⟩
theorem fX0_30 : FL RX0 30 2 4 4 := ⟨rfl, _, rfl, by decide, Or.inr ⟨"TwoBeatsAgo", (Ns_of (tb_1 (i := 75) (by decide +kernel)) rfl)⟩⟩
theorem fX0_33 : FL RX0 33 0 3 3 := ⟨rfl, _, rfl, by decide, Or.inl (Gs_of (tb_1 (i := 170) (by decide +kernel)) rfl)⟩
theorem fX0_35 : FL RX0 35 0 4 4 := ⟨rfl, _, rfl, by decide, Or.inl (Gs_of (tb_1 (i := 171) (by decide +kernel)) rfl)⟩
theorem fX1_11 : FL RX1 11 1 1 1 := ⟨rfl, _, rfl, by decide, Or.inl (Gs_of (tb_1 (i := 110) (by decide +kernel)) rfl)⟩
theorem fX1_15 : FL RX1 15 1 2 2 := ⟨rfl, _, rfl, by decide, Or.inl (Gs_of (tb_1 (i := 111) (by decide +kernel)) rfl)⟩
theorem fX1_18 : FL RX1 18 1 3 3 := ⟨rfl, _, rfl, by decide, Or.inl (Gs_of (tb_1 (i := 112) (by decide +kernel)) rfl)⟩
theorem fX1_21 : FL RX1 21 1 5 5 := ⟨rfl, _, rfl, by decide, Or.inl (Gs_of (tb_1 (i := 115) (by decide +kernel)) rfl)⟩
theorem fX1_24 : FL RX1 24 1 7 7 := ⟨rfl, _, rfl, by decide, Or.inl (Gs_of (tb_1 (i := 118) (by decide +kernel)) rfl)⟩
theorem fX1_27 : FL RX1 27 1 8 8 := ⟨rfl, _, rfl, by decide, Or.inl (Gs_of (tb_1 (i := 119) (by decide +kernel)) rfl)⟩
theorem fX1_30 : FL RX1 30 1 0 0 := ⟨rfl, _, rfl, by decide, Or.inl (Gs_of (tb_1 (i := 108) (by decide +kernel)) rfl)⟩
theorem fX1_40 : FL RX1 40 1 4 4 := ⟨rfl, _, rfl, by decide, Or.inl (Gs_of (tb_1 (i := 113) (by decide +kernel)) rfl)⟩
theorem fX1_43 : FL RX1 43 1 6 6 := ⟨rfl, _, rfl, by decide, Or.inl (Gs_of (tb_1 (i := 116) (by decide +kernel)) rfl)⟩
theorem fX1_60 : FL RX1 60 2 0 0 := ⟨rfl, _, rfl, by decide, Or.inr ⟨"TwoBeatsAgo", (Ns_of (tb_1 (i := 66) (by decide +kernel)) rfl)⟩⟩
theorem fX2_9 : FL RX2 9 2 3 3 := ⟨rfl, _, rfl, by decide, Or.inl (Gs_of (tb_1 (i := 71) (by decide +kernel)) rfl)⟩
theorem fX2_15 : FL RX2 15 2 4 4 := ⟨rfl, _, rfl, by decide, Or.inl (Gs_of (tb_1 (i := 74) (by decide +kernel)) rfl)⟩
theorem fX2_18 : FL RX2 18 2 5 5 := ⟨rfl, _, rfl, by decide, Or.inl (Gs_of (tb_1 (i := 77) (by decide +kernel)) rfl)⟩
theorem fX2_21 : FL RX2 21 2 6 6 := ⟨rfl, _, rfl, by decide, Or.inl (Gs_of (tb_1 (i := 79) (by decide +kernel)) rfl)⟩
theorem fX2_24 : FL RX2 24 2 7 7 := ⟨rfl, _, rfl, by decide, Or.inl (Gs_of (tb_1 (i := 80) (by decide +kernel)) rfl)⟩
theorem fX2_27 : FL RX2 27 2 8 8 := ⟨rfl, _, rfl, by decide, Or.inl (Gs_of (tb_1 (i := 82) (by decide +kernel)) rfl)⟩
theorem fX2_30 : FL RX2 30 2 2 2 := ⟨rfl, _, rfl, by decide, Or.inl (Gs_of (tb_1 (i := 69) (by decide +kernel)) rfl)⟩
theorem fX2_34 : FL RX2 34 2 0 0 := ⟨rfl, _, rfl, by decide, Or.inl (Gs_of (tb_1 (i := 64) (by decide +kernel)) rfl)⟩
theorem fX2_38 : FL RX2 38 2 1 1 := ⟨rfl, _, rfl, by decide, Or.inl (Gs_of (tb_1 (i := 67) (by decide +kernel)) rfl)⟩
theorem fX2_47 : FL RX2 47 3 0 0 := ⟨rfl, _, rfl, by decide, Or.inr ⟨"TwoBeatsAgo", (Ns_of (tb_1 (i := 32) (by decide +kernel)) rfl)⟩⟩
theorem fX3_11 : FL RX3 11 3 0 0 := ⟨rfl, _, rfl, by decide, Or.inl (Gs_of (tb_1 (i := 31) (by decide +kernel)) rfl)⟩
theorem fX3_15 : FL RX3 15 3 4 4 := ⟨rfl, _, rfl, by decide, Or.inl (Gs_of (tb_1 (i := 39) (by decide +kernel)) rfl)⟩
theorem fX3_19 : FL RX3 19 3 5 5 := ⟨rfl, _, rfl, by decide, Or.inl (Gs_of (tb_1 (i := 40) (by decide +kernel)) rfl)⟩
theorem fX3_24 : FL RX3 24 3 6 6 := ⟨rfl, _, rfl, by decide, Or.inl (Gs_of (tb_1 (i := 41) (by decide +kernel)) rfl)⟩
theorem fX3_27 : FL RX3 27 3 1 1 := ⟨rfl, _, rfl, by decide, Or.inl (Gs_of (tb_1 (i := 34) (by decide +kernel)) rfl)⟩
theorem fX3_30 : FL RX3 30 3 2 2 := ⟨rfl, _, rfl, by decide, Or.inl (Gs_of (tb_1 (i := 37) (by decide +kernel)) rfl)⟩
theorem fX3_33 : FL RX3 33 3 3 3 := ⟨rfl, _, rfl, by decide, Or.inl (Gs_of (tb_1 (i := 38) (by decide +kernel)) rfl)⟩
theorem fX4_11 : FL RX4 11 4 0 0 := ⟨rfl, _, rfl, by decide, Or.inl (Gs_of (tb_1 (i := 146) (by decide +kernel)) rfl)⟩
theorem fX4_15 : FL RX4 15 4 1 1 := ⟨rfl, _, rfl, by decide, Or.inl (Gs_of (tb_1 (i := 147) (by decide +kernel)) rfl)⟩
theorem fX4_19 : FL RX4 19 4 2 2 := ⟨rfl, _, rfl, by decide, Or.inl (Gs_of (tb_1 (i := 149) (by decide +kernel)) rfl)⟩
theorem fX4_55 : FL RX4 55 3 1 1 := ⟨rfl, _, rfl, by decide, Or.inr ⟨"TwoBeatsAgo", (Ns_of (tb_1 (i := 35) (by decide +kernel)) rfl)⟩⟩
theorem fX5_9 : FL RX5 9 5 0 0 := ⟨rfl, _, rfl, by decide, Or.inl (Gs_of (tb_1 (i := 190) (by decide +kernel)) rfl)⟩
theorem fX5_13 : FL RX5 13 5 2 2 := ⟨rfl, _, rfl, by decide, Or.inl (Gs_of (tb_1 (i := 194) (by decide +kernel)) rfl)⟩
theorem fX5_26 : FL RX5 26 5 1 1 := ⟨rfl, _, rfl, by decide, Or.inl (Gs_of (tb_1 (i := 192) (by decide +kernel)) rfl)⟩
theorem fX7_7 : FL RX7 7 7 0 0 := ⟨rfl, _, rfl, by decide, Or.inl (Gs_of (tb_4 (i := 82) (by decide +kernel)) rfl)⟩
theorem fX7_13 : FL RX7 13 7 1 1 := ⟨rfl, _, rfl, by decide, Or.inl (Gs_of (tb_4 (i := 83) (by decide +kernel)) rfl)⟩
theorem fX7_16 : FL RX7 16 7 2 2 := ⟨rfl, _, rfl, by decide, Or.inl (Gs_of (tb_4 (i := 84) (by decide +kernel)) rfl)⟩
theorem fX7_20 : FL RX7 20 7 3 3 := ⟨rfl, _, rfl, by decide, Or.inl (Gs_of (tb_4 (i := 85) (by decide +kernel)) rfl)⟩
theorem fX7_23 : FL RX7 23 7 4 4 := ⟨rfl, _, rfl, by decide, Or.inl (Gs_of (tb_4 (i := 86) (by decide +kernel)) rfl)⟩
theorem fX7_26 : FL RX7 26 7 5 5 := ⟨rfl, _, rfl, by decide, Or.inl (Gs_of (tb_4 (i := 87) (by decide +kernel)) rfl)⟩
theorem fX7_29 : FL RX7 29 7 6 6 := ⟨rfl, _, rfl, by decide, Or.inl (Gs_of (tb_4 (i := 88) (by decide +kernel)) rfl)⟩
theorem fX7_32 : FL RX7 32 7 7 7 := ⟨rfl, _, rfl, by decide, Or.inl (Gs_of (tb_4 (i := 89) (by decide +kernel)) rfl)⟩
theorem fX7_35 : FL RX7 35 7 8 8 := ⟨rfl, _, rfl, by decide, Or.inl (Gs_of (tb_4 (i := 90) (by decide +kernel)) rfl)⟩
theorem fX7_38 : FL RX7 38 7 9 9 := ⟨rfl, _, rfl, by decide, Or.inl (Gs_of (tb_4 (i := 91) (by decide +kernel)) rfl)⟩
theorem fX7_41 : FL RX7 41 7 10 10 := ⟨rfl, _, rfl, by decide, Or.inl (Gs_of (tb_4 (i := 92) (by decide +kernel)) rfl)⟩
theorem fX7_44 : FL RX7 44 7 11 11 := ⟨rfl, _, rfl, by decide, Or.inl (Gs_of (tb_4 (i := 93) (by decide +kernel)) rfl)⟩
theorem fX7_47 : FL RX7 47 7 12 12 := ⟨rfl, _, rfl, by decide, Or.inl (Gs_of (tb_4 (i := 94) (by decide +kernel)) rfl)⟩
theorem fX7_50 : FL RX7 50 7 13 13 := ⟨rfl, _, rfl, by decide, Or.inl (Gs_of (tb_4 (i := 95) (by decide +kernel)) rfl)⟩
theorem fX7_53 : FL RX7 53 7 14 14 := ⟨rfl, _, rfl, by decide, Or.inl (Gs_of (tb_4 (i := 96) (by decide +kernel)) rfl)⟩
theorem fX7_56 : FL RX7 56 7 15 15 := ⟨rfl, _, rfl, by decide, Or.inl (Gs_of (tb_4 (i := 97) (by decide +kernel)) rfl)⟩
theorem fX7_59 : FL RX7 59 7 16 16 := ⟨rfl, _, rfl, by decide, Or.inl (Gs_of (tb_4 (i := 98) (by decide +kernel)) rfl)⟩
theorem fX7_62 : FL RX7 62 7 17 17 := ⟨rfl, _, rfl, by decide, Or.inl (Gs_of (tb_4 (i := 99) (by decide +kernel)) rfl)⟩
theorem fX7_65 : FL RX7 65 7 18 18 := ⟨rfl, _, rfl, by decide, Or.inl (Gs_of (tb_4 (i := 100) (by decide +kernel)) rfl)⟩
theorem fX7_68 : FL RX7 68 7 19 19 := ⟨rfl, _, rfl, by decide, Or.inl (Gs_of (tb_4 (i := 101) (by decide +kernel)) rfl)⟩
theorem fX7_71 : FL RX7 71 7 20 20 := ⟨rfl, _, rfl, by decide, Or.inl (Gs_of (tb_4 (i := 102) (by decide +kernel)) rfl)⟩
theorem fX7_74 : FL RX7 74 7 21 21 := ⟨rfl, _, rfl, by decide, Or.inl (Gs_of (tb_4 (i := 103) (by decide +kernel)) rfl)⟩
theorem fX7_77 : FL RX7 77 7 22 22 := ⟨rfl, _, rfl, by decide, Or.inl (Gs_of (tb_4 (i := 104) (by decide +kernel)) rfl)⟩
theorem fX7_80 : FL RX7 80 7 23 23 := ⟨rfl, _, rfl, by decide, Or.inl (Gs_of (tb_4 (i := 105) (by decide +kernel)) rfl)⟩
theorem fX7_83 : FL RX7 83 7 24 24 := ⟨rfl, _, rfl, by decide, Or.inl (Gs_of (tb_4 (i := 106) (by decide +kernel)) rfl)⟩
theorem fX7_87 : FL RX7 87 7 25 25 := ⟨rfl, _, rfl, by decide, Or.inl (Gs_of (tb_4 (i := 107) (by decide +kernel)) rfl)⟩
theorem fX7_90 : FL RX7 90 7 26 26 := ⟨rfl, _, rfl, by decide, Or.inl (Gs_of (tb_4 (i := 108) (by decide +kernel)) rfl)⟩
theorem fX7_93 : FL RX7 93 7 27 27 := ⟨rfl, _, rfl, by decide, Or.inl (Gs_of (tb_4 (i := 109) (by decide +kernel)) rfl)⟩
theorem fX7_96 : FL RX7 96 7 28 28 := ⟨rfl, _, rfl, by decide, Or.inl (Gs_of (tb_4 (i := 110) (by decide +kernel)) rfl)⟩
theorem fX7_99 : FL RX7 99 7 29 29 := ⟨rfl, _, rfl, by decide, Or.inl (Gs_of (tb_4 (i := 111) (by decide +kernel)) rfl)⟩
theorem fX7_102 : FL RX7 102 7 30 30 := ⟨rfl, _, rfl, by decide, Or.inl (Gs_of (tb_4 (i := 112) (by decide +kernel)) rfl)⟩
theorem fX7_105 : FL RX7 105 7 31 31 := ⟨rfl, _, rfl, by decide, Or.inl (Gs_of (tb_4 (i := 113) (by decide +kernel)) rfl)⟩
theorem fX7_108 : FL RX7 108 7 32 32 := ⟨rfl, _, rfl, by decide, Or.inl (Gs_of (tb_4 (i := 114) (by decide +kernel)) rfl)⟩
theorem fX7_111 : FL RX7 111 7 33 33 := ⟨rfl, _, rfl, by decide, Or.inl (Gs_of (tb_4 (i := 115) (by decide +kernel)) rfl)⟩
theorem fX7_114 : FL RX7 114 7 34 34 := ⟨rfl, _, rfl, by decide, Or.inl (Gs_of (tb_4 (i := 116) (by decide +kernel)) rfl)⟩
theorem fX7_117 : FL RX7 117 7 35 35 := ⟨rfl, _, rfl, by decide, Or.inl (Gs_of (tb_4 (i := 117) (by decide +kernel)) rfl)⟩
theorem fX7_120 : FL RX7 120 7 36 36 := ⟨rfl, _, rfl, by decide, Or.inl (Gs_of (tb_4 (i := 118) (by decide +kernel)) rfl)⟩
theorem fX7_123 : FL RX7 123 7 37 37 := ⟨rfl, _, rfl, by decide, Or.inl (Gs_of (tb_4 (i := 119) (by decide +kernel)) rfl)⟩
theorem fX7_126 : FL RX7 126 7 38 38 := ⟨rfl, _, rfl, by decide, Or.inl (Gs_of (tb_4 (i := 120) (by decide +kernel)) rfl)⟩
theorem fX7_129 : FL RX7 129 7 39 39 := ⟨rfl, _, rfl, by decide, Or.inl (Gs_of (tb_4 (i := 121) (by decide +kernel)) rfl)⟩
theorem fX7_132 : FL RX7 132 7 40 40 := ⟨rfl, _, rfl, by decide, Or.inl (Gs_of (tb_4 (i := 122) (by decide +kernel)) rfl)⟩
theorem fX7_136 : FL RX7 136 7 41 41 := ⟨rfl, _, rfl, by decide, Or.inl (Gs_of (tb_4 (i := 123) (by decide +kernel)) rfl)⟩
theorem fX7_139 : FL RX7 139 7 42 42 := ⟨rfl, _, rfl, by decide, Or.inl (Gs_of (tb_4 (i := 124) (by decide +kernel)) rfl)⟩
theorem fX7_142 : FL RX7 142 7 43 43 := ⟨rfl, _, rfl, by decide, Or.inl (Gs_of (tb_4 (i := 125) (by decide +kernel)) rfl)⟩
theorem fX7_145 : FL RX7 145 7 44 44 := ⟨rfl, _, rfl, by decide, Or.inl (Gs_of (tb_4 (i := 126) (by decide +kernel)) rfl)⟩
theorem fX7_148 : FL RX7 148 7 45 45 := ⟨rfl, _, rfl, by decide, Or.inl (Gs_of (tb_4 (i := 127) (by decide +kernel)) rfl)⟩
theorem fX7_151 : FL RX7 151 7 46 46 := ⟨rfl, _, rfl, by decide, Or.inl (Gs_of (tb_4 (i := 128) (by decide +kernel)) rfl)⟩
theorem fX7_154 : FL RX7 154 7 47 47 := ⟨rfl, _, rfl, by decide, Or.inl (Gs_of (tb_4 (i := 129) (by decide +kernel)) rfl)⟩
theorem fX7_157 : FL RX7 157 7 48 48 := ⟨rfl, _, rfl, by decide, Or.inl (Gs_of (tb_4 (i := 130) (by decide +kernel)) rfl)⟩
theorem fX7_160 : FL RX7 160 7 49 49 := ⟨rfl, _, rfl, by decide, Or.inl (Gs_of (tb_4 (i := 131) (by decide +kernel)) rfl)⟩
theorem fX7_163 : FL RX7 163 7 50 50 := ⟨rfl, _, rfl, by decide, Or.inl (Gs_of (tb_4 (i := 132) (by decide +kernel)) rfl)⟩
theorem fX7_166 : FL RX7 166 7 51 51 := ⟨rfl, _, rfl, by decide, Or.inl (Gs_of (tb_4 (i := 133) (by decide +kernel)) rfl)⟩
theorem fX7_169 : FL RX7 169 7 52 52 := ⟨rfl, _, rfl, by decide, Or.inl (Gs_of (tb_4 (i := 134) (by decide +kernel)) rfl)⟩
theorem fX7_172 : FL RX7 172 7 53 53 := ⟨rfl, _, rfl, by decide, Or.inl (Gs_of (tb_4 (i := 135) (by decide +kernel)) rfl)⟩
theorem fX7_175 : FL RX7 175 7 54 54 := ⟨rfl, _, rfl, by decide, Or.inl (Gs_of (tb_4 (i := 136) (by decide +kernel)) rfl)⟩
theorem fX7_178 : FL RX7 178 7 55 55 := ⟨rfl, _, rfl, by decide, Or.inl (Gs_of (tb_4 (i := 137) (by decide +kernel)) rfl)⟩
theorem fX7_181 : FL RX7 181 7 56 56 := ⟨rfl, _, rfl, by decide, Or.inl (Gs_of (tb_4 (i := 138) (by decide +kernel)) rfl)⟩
theorem fX7_184 : FL RX7 184 7 57 57 := ⟨rfl, _, rfl, by decide, Or.inl (Gs_of (tb_4 (i := 139) (by decide +kernel)) rfl)⟩
theorem fX7_187 : FL RX7 187 7 58 58 := ⟨rfl, _, rfl, by decide, Or.inl (Gs_of (tb_4 (i := 140) (by decide +kernel)) rfl)⟩
theorem fX7_190 : FL RX7 190 7 59 59 := ⟨rfl, _, rfl, by decide, Or.inl (Gs_of (tb_4 (i := 141) (by decide +kernel)) rfl)⟩
theorem fX7_193 : FL RX7 193 7 60 60 := ⟨rfl, _, rfl, by decide, Or.inl (Gs_of (tb_4 (i := 142) (by decide +kernel)) rfl)⟩
theorem fX7_196 : FL RX7 196 7 61 61 := ⟨rfl, _, rfl, by decide, Or.inl (Gs_of (tb_4 (i := 143) (by decide +kernel)) rfl)⟩
theorem fX7_199 : FL RX7 199 7 62 62 := ⟨rfl, _, rfl, by decide, Or.inl (Gs_of (tb_4 (i := 144) (by decide +kernel)) rfl)⟩
theorem fX7_203 : FL RX7 203 7 63 63 := ⟨rfl, _, rfl, by decide, Or.inl (Gs_of (tb_4 (i := 145) (by decide +kernel)) rfl)⟩
theorem lX6_68 : ML RX6 68 mX2_hasPlace := Or.inr ⟨"TwoBeatsAgo", (Ns_of (tb_2 (i := 5) (by decide +kernel)) rfl)⟩
theorem lX6_76 : ML RX6 76 mX2_join := Or.inr ⟨"TwoBeatsAgo", (Ns_of (tb_2 (i := 9) (by decide +kernel)) rfl)⟩
theorem lX6_80 : ML RX6 80 mX2_has := Or.inr ⟨"TwoBeatsAgo", (Ns_of (tb_2 (i := 25) (by decide +kernel)) rfl)⟩
theorem lX6_96 : ML RX6 96 mX3_stepFor := Or.inr ⟨"TwoBeatsAgo", (Ns_of (tb_2 (i := 26) (by decide +kernel)) rfl)⟩
theorem lX6_100 : ML RX6 100 mX2_goesOf := Or.inr ⟨"TwoBeatsAgo", (Ns_of (tb_2 (i := 42) (by decide +kernel)) rfl)⟩
theorem lX6_104 : ML RX6 104 mX2_wasOf := Or.inr ⟨"TwoBeatsAgo", (Ns_of (tb_2 (i := 61) (by decide +kernel)) rfl)⟩
theorem lX6_108 : ML RX6 108 mX2_follow := Or.inr ⟨"TwoBeatsAgo", (Ns_of (tb_2 (i := 66) (by decide +kernel)) rfl)⟩
theorem lX6_112 : ML RX6 112 mX2_standAt := Or.inr ⟨"TwoBeatsAgo", (Ns_of (tb_2 (i := 74) (by decide +kernel)) rfl)⟩
theorem lX6_121 : ML RX6 121 mX4_add := Or.inr ⟨"TwoBeatsAgo", (Ns_of (tb_2 (i := 83) (by decide +kernel)) rfl)⟩
theorem lX6_128 : ML RX6 128 mX4_readInto := Or.inr ⟨"TwoBeatsAgo", (Ns_of (tb_2 (i := 91) (by decide +kernel)) rfl)⟩
theorem lX6_135 : ML RX6 135 mX2_wrapAll := Or.inr ⟨"TwoBeatsAgo", (Ns_of (tb_3 (i := 28) (by decide +kernel)) rfl)⟩
theorem lX6_147 : ML RX6 147 mX2_placesTaken := Or.inr ⟨"TwoBeatsAgo", (Ns_of (tb_3 (i := 37) (by decide +kernel)) rfl)⟩
theorem lX6_151 : ML RX6 151 mX2_goBeats := Or.inr ⟨"TwoBeatsAgo", (Ns_of (tb_3 (i := 45) (by decide +kernel)) rfl)⟩
theorem lX6_155 : ML RX6 155 mX6_asksForPlaces := Or.inl (Gs_of (tb_3 (i := 65) (by decide +kernel)) rfl)
theorem lX6_158 : ML RX6 158 mX2_become := Or.inr ⟨"TwoBeatsAgo", (Ns_of (tb_3 (i := 69) (by decide +kernel)) rfl)⟩
theorem lX6_162 : ML RX6 162 mX6_placesAsked := Or.inl (Gs_of (tb_3 (i := 73) (by decide +kernel)) rfl)
theorem lX6_165 : ML RX6 165 mX2_goBeat := Or.inr ⟨"TwoBeatsAgo", (Ns_of (tb_3 (i := 81) (by decide +kernel)) rfl)⟩
theorem lX6_169 : ML RX6 169 mX2_standsAs := Or.inr ⟨"TwoBeatsAgo", (Ns_of (tb_3 (i := 82) (by decide +kernel)) rfl)⟩
theorem lX6_173 : ML RX6 173 mX2_beatsTillTogether := Or.inr ⟨"TwoBeatsAgo", (Ns_of (tb_3 (i := 90) (by decide +kernel)) rfl)⟩
theorem lX6_176 : ML RX6 176 mX2_nobodyMoves := Or.inr ⟨"TwoBeatsAgo", (Ns_of (tb_3 (i := 102) (by decide +kernel)) rfl)⟩
theorem lX6_180 : ML RX6 180 mX2_apart := Or.inr ⟨"TwoBeatsAgo", (Ns_of (tb_3 (i := 114) (by decide +kernel)) rfl)⟩
theorem lX6_183 : ML RX6 183 mJ9_max_7cf53 := Or.inl (Gs_of (tb_3 (i := 119) (by decide +kernel)) rfl)
theorem lX6_188 : ML RX6 188 mX2_beatsAlone := Or.inr ⟨"TwoBeatsAgo", (Ns_of (tb_3 (i := 128) (by decide +kernel)) rfl)⟩
theorem lX6_191 : ML RX6 191 mJ7_fill_53178 := Or.inl (Gs_of (tb_3 (i := 148) (by decide +kernel)) rfl)
theorem lX6_197 : ML RX6 197 mX2_countStanding := Or.inr ⟨"TwoBeatsAgo", (Ns_of (tb_3 (i := 151) (by decide +kernel)) rfl)⟩
theorem lX6_204 : ML RX6 204 mX1_addSeen := Or.inr ⟨"TwoBeatsAgo", (Ns_of (tb_3 (i := 159) (by decide +kernel)) rfl)⟩
theorem lX6_207 : ML RX6 207 mX1_allSeenOn := Or.inr ⟨"TwoBeatsAgo", (Ns_of (tb_3 (i := 167) (by decide +kernel)) rfl)⟩
theorem lX6_212 : ML RX6 212 mX6_partOfFraction := Or.inl (Gs_of (tb_3 (i := 178) (by decide +kernel)) rfl)
theorem lX6_219 : ML RX6 219 mX1_addStep := Or.inr ⟨"TwoBeatsAgo", (Ns_of (tb_3 (i := 189) (by decide +kernel)) rfl)⟩
theorem lX6_222 : ML RX6 222 mX1_danceOn := Or.inr ⟨"TwoBeatsAgo", (Ns_of (tb_3 (i := 197) (by decide +kernel)) rfl)⟩
theorem lX6_227 : ML RX6 227 mX1_addRow := Or.inr ⟨"TwoBeatsAgo", (Ns_of (tb_3 (i := 209) (by decide +kernel)) rfl)⟩
theorem lX6_230 : ML RX6 230 mX1_firstWrongRow := Or.inr ⟨"TwoBeatsAgo", (Ns_of (tb_3 (i := 217) (by decide +kernel)) rfl)⟩
theorem lX6_234 : ML RX6 234 mX6_isTape := Or.inl (Gs_of (tb_3 (i := 225) (by decide +kernel)) rfl)
theorem lX6_245 : ML RX6 245 mX1_become := Or.inr ⟨"TwoBeatsAgo", (Ns_of (tb_3 (i := 232) (by decide +kernel)) rfl)⟩
theorem lX6_252 : ML RX6 252 mX0_forgetTrace := Or.inr ⟨"TwoBeatsAgo", (Ns_of (tb_4 (i := 5) (by decide +kernel)) rfl)⟩
theorem lX6_255 : ML RX6 255 mX0_play := Or.inr ⟨"TwoBeatsAgo", (Ns_of (tb_4 (i := 9) (by decide +kernel)) rfl)⟩
theorem lX6_268 : ML RX6 268 mX5_become := Or.inr ⟨"TwoBeatsAgo", (Ns_of (tb_4 (i := 46) (by decide +kernel)) rfl)⟩
theorem lX6_270 : ML RX6 270 mX5_fitted := Or.inr ⟨"TwoBeatsAgo", (Ns_of (tb_4 (i := 59) (by decide +kernel)) rfl)⟩
theorem lX6_274 : ML RX6 274 mX5_hasStretch := Or.inr ⟨"TwoBeatsAgo", (Ns_of (tb_4 (i := 71) (by decide +kernel)) rfl)⟩
theorem lX6_284 : ML RX6 284 mJ9_floorMod_7cf53 := Or.inl (Gs_of (tb_2 (i := 58) (by decide +kernel)) rfl)
theorem lX0_19 : ML RX0 19 mX2_has := Or.inr ⟨"TwoBeatsAgo", (Ns_of (tb_4 (i := 13) (by decide +kernel)) rfl)⟩
theorem lX0_38 : ML RX0 38 mX0_run := Or.inl (Gs_of (tb_4 (i := 14) (by decide +kernel)) rfl)
theorem lX0_42 : ML RX0 42 mX0_bodyOf := Or.inl (Gs_of (tb_4 (i := 18) (by decide +kernel)) rfl)
theorem lX0_46 : ML RX0 46 mX0_runBody := Or.inl (Gs_of (tb_4 (i := 25) (by decide +kernel)) rfl)
theorem lX1_46 : ML RX1 46 mX2_wasOf := Or.inr ⟨"TwoBeatsAgo", (Ns_of (tb_3 (i := 171) (by decide +kernel)) rfl)⟩
theorem lX1_52 : ML RX1 52 mX2_goBeat := Or.inr ⟨"TwoBeatsAgo", (Ns_of (tb_3 (i := 172) (by decide +kernel)) rfl)⟩
theorem lX1_56 : ML RX1 56 mX1_followRound := Or.inl (Gs_of (tb_3 (i := 201) (by decide +kernel)) rfl)
theorem lX1_63 : ML RX1 63 mX2_follow := Or.inr ⟨"TwoBeatsAgo", (Ns_of (tb_3 (i := 204) (by decide +kernel)) rfl)⟩
theorem lX2_52 : ML RX2 52 mX2_has := Or.inl (Gs_of (tb_2 (i := 17) (by decide +kernel)) rfl)
theorem lX2_56 : ML RX2 56 mX2_standAt := Or.inl (Gs_of (tb_2 (i := 13) (by decide +kernel)) rfl)
theorem lX2_60 : ML RX2 60 mX6_modulo := Or.inr ⟨"TwoBeatsAgo", (Ns_of (tb_2 (i := 55) (by decide +kernel)) rfl)⟩
theorem lX2_64 : ML RX2 64 mX3_stepFor := Or.inr ⟨"TwoBeatsAgo", (Ns_of (tb_2 (i := 46) (by decide +kernel)) rfl)⟩
theorem lX2_68 : ML RX2 68 mX2_wasOf := Or.inl (Gs_of (tb_2 (i := 47) (by decide +kernel)) rfl)
theorem lX2_71 : ML RX2 71 mX2_isLazyNow := Or.inl (Gs_of (tb_2 (i := 51) (by decide +kernel)) rfl)
theorem lX2_74 : ML RX2 74 mX3_stopsAfter := Or.inr ⟨"TwoBeatsAgo", (Ns_of (tb_3 (i := 53) (by decide +kernel)) rfl)⟩
theorem lX2_77 : ML RX2 77 mX2_goesOf := Or.inl (Gs_of (tb_3 (i := 57) (by decide +kernel)) rfl)
theorem lX2_81 : ML RX2 81 mX2_goBeat := Or.inl (Gs_of (tb_3 (i := 49) (by decide +kernel)) rfl)
theorem lX2_85 : ML RX2 85 mX2_areTogether := Or.inl (Gs_of (tb_3 (i := 94) (by decide +kernel)) rfl)
theorem lX2_89 : ML RX2 89 mX2_isAlone := Or.inl (Gs_of (tb_3 (i := 132) (by decide +kernel)) rfl)
theorem lX2_92 : ML RX2 92 mJ9_min_7cf53 := Or.inl (Gs_of (tb_3 (i := 118) (by decide +kernel)) rfl)
theorem lX3_36 : ML RX3 36 mJ9_min_7cf53 := Or.inl (Gs_of (tb_2 (i := 178) (by decide +kernel)) rfl)
theorem lX3_42 : ML RX3 42 mJ9_max_7cf53 := Or.inl (Gs_of (tb_2 (i := 181) (by decide +kernel)) rfl)
theorem lX3_45 : ML RX3 45 mX3_holds := Or.inl (Gs_of (tb_2 (i := 30) (by decide +kernel)) rfl)
theorem lX3_51 : ML RX3 51 mX3_passes := Or.inl (Gs_of (tb_2 (i := 35) (by decide +kernel)) rfl)
theorem lX3_55 : ML RX3 55 mX2_letterOf := Or.inr ⟨"TwoBeatsAgo", (Ns_of (tb_2 (i := 38) (by decide +kernel)) rfl)⟩
theorem lX4_22 : ML RX4 22 mX3_clear := Or.inr ⟨"TwoBeatsAgo", (Ns_of (tb_2 (i := 95) (by decide +kernel)) rfl)⟩
theorem lX4_27 : ML RX4 27 mX4_readClause := Or.inl (Gs_of (tb_2 (i := 99) (by decide +kernel)) rfl)
theorem lX4_31 : ML RX4 31 mX4_takes := Or.inl (Gs_of (tb_2 (i := 166) (by decide +kernel)) rfl)
theorem lX4_35 : ML RX4 35 mX4_ahead := Or.inl (Gs_of (tb_2 (i := 103) (by decide +kernel)) rfl)
theorem lX4_39 : ML RX4 39 mX4_wordOf := Or.inl (Gs_of (tb_2 (i := 107) (by decide +kernel)) rfl)
theorem lX4_43 : ML RX4 43 mX4_takesAll := Or.inl (Gs_of (tb_2 (i := 114) (by decide +kernel)) rfl)
theorem lX4_47 : ML RX4 47 mX4_readNumber := Or.inl (Gs_of (tb_2 (i := 170) (by decide +kernel)) rfl)
theorem lX4_51 : ML RX4 51 mX3_setWide := Or.inr ⟨"TwoBeatsAgo", (Ns_of (tb_2 (i := 174) (by decide +kernel)) rfl)⟩
theorem lX4_58 : ML RX4 58 mX4_readAnyOf := Or.inl (Gs_of (tb_2 (i := 184) (by decide +kernel)) rfl)
theorem lX4_62 : ML RX4 62 mX3_addStep := Or.inr ⟨"TwoBeatsAgo", (Ns_of (tb_3 (i := 24) (by decide +kernel)) rfl)⟩
theorem lX4_73 : ML RX4 73 mX4_readAllOf := Or.inl (Gs_of (tb_2 (i := 188) (by decide +kernel)) rfl)
theorem lX4_76 : ML RX4 76 mX3_addCode := Or.inr ⟨"TwoBeatsAgo", (Ns_of (tb_3 (i := 20) (by decide +kernel)) rfl)⟩
theorem lX4_79 : ML RX4 79 mX4_readOne := Or.inl (Gs_of (tb_2 (i := 192) (by decide +kernel)) rfl)
theorem lX4_82 : ML RX4 82 mX4_readTest := Or.inl (Gs_of (tb_2 (i := 196) (by decide +kernel)) rfl)
theorem lX4_87 : ML RX4 87 mJ0_indexOf_0f7a4 := Or.inl (Gs_of (tb_2 (i := 201) (by decide +kernel)) rfl)
theorem lX4_95 : ML RX4 95 mX3_testCode := Or.inr ⟨"TwoBeatsAgo", (Ns_of (tb_3 (i := 17) (by decide +kernel)) rfl)⟩
theorem lX4_99 : ML RX4 99 mJ0_length_8abf5 := Or.inl (Gs_of (tb_2 (i := 118) (by decide +kernel)) rfl)
theorem lX4_101 : ML RX4 101 mJ0_charAt_5068e := Or.inl (Gs_of (tb_2 (i := 128) (by decide +kernel)) rfl)
theorem lX5_17 : ML RX5 17 mJ9_min_7cf53 := Or.inl (Gs_of (tb_4 (i := 50) (by decide +kernel)) rfl)
theorem lX5_23 : ML RX5 23 mJ9_max_7cf53 := Or.inl (Gs_of (tb_4 (i := 51) (by decide +kernel)) rfl)
theorem lX5_29 : ML RX5 29 mJ7_fill_d0a16 := Or.inl (Gs_of (tb_4 (i := 52) (by decide +kernel)) rfl)
theorem lL_13 : ML RL 13 mX6_dancer := Or.inl (Gs_of (tb_2 (i := 1) (by decide +kernel)) rfl)
theorem lL_17 : ML RL 17 mX7_dancer := Or.inl (Gs_of (tb_5 (i := 36) (by decide +kernel)) rfl)
theorem lL_18 : ML RL 18 mX6_of := Or.inl (Gs_of (tb_2 (i := 21) (by decide +kernel)) rfl)
theorem lL_22 : ML RL 22 mX7_of := Or.inl (Gs_of (tb_5 (i := 144) (by decide +kernel)) rfl)
theorem lL_23 : ML RL 23 mX6_after := Or.inl (Gs_of (tb_2 (i := 62) (by decide +kernel)) rfl)
theorem lL_26 : ML RL 26 mX7_after := Or.inl (Gs_of (tb_5 (i := 64) (by decide +kernel)) rfl)
theorem lL_27 : ML RL 27 mX6_begin := Or.inl (Gs_of (tb_2 (i := 70) (by decide +kernel)) rfl)
theorem lL_30 : ML RL 30 mX7_begin := Or.inl (Gs_of (tb_5 (i := 72) (by decide +kernel)) rfl)
theorem lL_31 : ML RL 31 mX6_row := Or.inl (Gs_of (tb_2 (i := 75) (by decide +kernel)) rfl)
theorem lL_34 : ML RL 34 mX7_row := Or.inl (Gs_of (tb_5 (i := 76) (by decide +kernel)) rfl)
theorem lL_35 : ML RL 35 mX6_feed := Or.inl (Gs_of (tb_2 (i := 79) (by decide +kernel)) rfl)
theorem lL_39 : ML RL 39 mX7_feed := Or.inl (Gs_of (tb_5 (i := 80) (by decide +kernel)) rfl)
theorem lL_40 : ML RL 40 mX6_hall := Or.inl (Gs_of (tb_2 (i := 87) (by decide +kernel)) rfl)
theorem lL_44 : ML RL 44 mX7_hall := Or.inl (Gs_of (tb_5 (i := 84) (by decide +kernel)) rfl)
theorem lL_45 : ML RL 45 mX6_told := Or.inl (Gs_of (tb_3 (i := 33) (by decide +kernel)) rfl)
theorem lL_48 : ML RL 48 mX7_told := Or.inl (Gs_of (tb_5 (i := 168) (by decide +kernel)) rfl)
theorem lL_49 : ML RL 49 mX6_pass := Or.inl (Gs_of (tb_3 (i := 41) (by decide +kernel)) rfl)
theorem lL_52 : ML RL 52 mX7_pass := Or.inl (Gs_of (tb_5 (i := 180) (by decide +kernel)) rfl)
theorem lL_53 : ML RL 53 mX6_on := Or.inl (Gs_of (tb_3 (i := 61) (by decide +kernel)) rfl)
theorem lL_56 : ML RL 56 mX7_on := Or.inl (Gs_of (tb_5 (i := 196) (by decide +kernel)) rfl)
theorem lL_57 : ML RL 57 mX6_again := Or.inl (Gs_of (tb_3 (i := 77) (by decide +kernel)) rfl)
theorem lL_60 : ML RL 60 mX7_again := Or.inl (Gs_of (tb_5 (i := 208) (by decide +kernel)) rfl)
theorem lL_61 : ML RL 61 mX6_together := Or.inl (Gs_of (tb_3 (i := 86) (by decide +kernel)) rfl)
theorem lL_64 : ML RL 64 mX7_together := Or.inl (Gs_of (tb_5 (i := 216) (by decide +kernel)) rfl)
theorem lL_65 : ML RL 65 mX6_still := Or.inl (Gs_of (tb_3 (i := 98) (by decide +kernel)) rfl)
theorem lL_68 : ML RL 68 mX7_still := Or.inl (Gs_of (tb_5 (i := 224) (by decide +kernel)) rfl)
theorem lL_69 : ML RL 69 mX6_meet := Or.inl (Gs_of (tb_3 (i := 106) (by decide +kernel)) rfl)
theorem lL_72 : ML RL 72 mX7_meet := Or.inl (Gs_of (tb_5 (i := 232) (by decide +kernel)) rfl)
theorem lL_73 : ML RL 73 mX6_far := Or.inl (Gs_of (tb_3 (i := 110) (by decide +kernel)) rfl)
theorem lL_76 : ML RL 76 mX7_far := Or.inl (Gs_of (tb_5 (i := 236) (by decide +kernel)) rfl)
theorem lL_77 : ML RL 77 mX6_whom := Or.inl (Gs_of (tb_3 (i := 120) (by decide +kernel)) rfl)
theorem lL_80 : ML RL 80 mX7_whom := Or.inl (Gs_of (tb_6 (i := 4) (by decide +kernel)) rfl)
theorem lL_81 : ML RL 81 mX6_alone := Or.inl (Gs_of (tb_3 (i := 124) (by decide +kernel)) rfl)
theorem lL_84 : ML RL 84 mX7_alone := Or.inl (Gs_of (tb_6 (i := 8) (by decide +kernel)) rfl)
theorem lL_85 : ML RL 85 mX6_stop := Or.inl (Gs_of (tb_3 (i := 136) (by decide +kernel)) rfl)
theorem lL_88 : ML RL 88 mX7_stop := Or.inl (Gs_of (tb_6 (i := 16) (by decide +kernel)) rfl)
theorem lL_89 : ML RL 89 mX6_begins := Or.inl (Gs_of (tb_3 (i := 140) (by decide +kernel)) rfl)
theorem lL_92 : ML RL 92 mX7_begins := Or.inl (Gs_of (tb_6 (i := 20) (by decide +kernel)) rfl)
theorem lL_93 : ML RL 93 mX6_crowd := Or.inl (Gs_of (tb_3 (i := 144) (by decide +kernel)) rfl)
theorem lL_96 : ML RL 96 mX7_crowd := Or.inl (Gs_of (tb_6 (i := 24) (by decide +kernel)) rfl)
theorem lL_97 : ML RL 97 mX6_see := Or.inl (Gs_of (tb_3 (i := 155) (by decide +kernel)) rfl)
theorem lL_100 : ML RL 100 mX7_see := Or.inl (Gs_of (tb_6 (i := 32) (by decide +kernel)) rfl)
theorem lL_101 : ML RL 101 mX6_can := Or.inl (Gs_of (tb_3 (i := 163) (by decide +kernel)) rfl)
theorem lL_104 : ML RL 104 mX7_can := Or.inl (Gs_of (tb_6 (i := 40) (by decide +kernel)) rfl)
theorem lL_105 : ML RL 105 mX6_odds := Or.inl (Gs_of (tb_3 (i := 173) (by decide +kernel)) rfl)
theorem lL_109 : ML RL 109 mX7_odds := Or.inl (Gs_of (tb_6 (i := 48) (by decide +kernel)) rfl)
theorem lL_110 : ML RL 110 mX6_mean := Or.inl (Gs_of (tb_3 (i := 181) (by decide +kernel)) rfl)
theorem lL_113 : ML RL 113 mX7_mean := Or.inl (Gs_of (tb_6 (i := 61) (by decide +kernel)) rfl)
theorem lL_114 : ML RL 114 mX6_dance := Or.inl (Gs_of (tb_3 (i := 185) (by decide +kernel)) rfl)
theorem lL_117 : ML RL 117 mX7_dance := Or.inl (Gs_of (tb_6 (i := 65) (by decide +kernel)) rfl)
theorem lL_118 : ML RL 118 mX6_danced := Or.inl (Gs_of (tb_3 (i := 193) (by decide +kernel)) rfl)
theorem lL_121 : ML RL 121 mX7_danced := Or.inl (Gs_of (tb_6 (i := 69) (by decide +kernel)) rfl)
theorem lL_122 : ML RL 122 mX6_book := Or.inl (Gs_of (tb_3 (i := 205) (by decide +kernel)) rfl)
theorem lL_125 : ML RL 125 mX7_book := Or.inl (Gs_of (tb_6 (i := 73) (by decide +kernel)) rfl)
theorem lL_126 : ML RL 126 mX6_looked := Or.inl (Gs_of (tb_3 (i := 213) (by decide +kernel)) rfl)
theorem lL_129 : ML RL 129 mX7_looked := Or.inl (Gs_of (tb_6 (i := 77) (by decide +kernel)) rfl)
theorem lL_130 : ML RL 130 mX6_judge := Or.inl (Gs_of (tb_3 (i := 221) (by decide +kernel)) rfl)
theorem lL_133 : ML RL 133 mX7_judge := Or.inl (Gs_of (tb_6 (i := 81) (by decide +kernel)) rfl)
theorem lL_134 : ML RL 134 mX6_image := Or.inl (Gs_of (tb_3 (i := 228) (by decide +kernel)) rfl)
theorem lL_137 : ML RL 137 mX7_image := Or.inl (Gs_of (tb_6 (i := 89) (by decide +kernel)) rfl)
theorem lL_138 : ML RL 138 mX6_undo := Or.inl (Gs_of (tb_3 (i := 237) (by decide +kernel)) rfl)
theorem lL_141 : ML RL 141 mX7_undo := Or.inl (Gs_of (tb_6 (i := 93) (by decide +kernel)) rfl)
theorem lL_142 : ML RL 142 mX6_act := Or.inl (Gs_of (tb_4 (i := 1) (by decide +kernel)) rfl)
theorem lL_145 : ML RL 145 mX7_act := Or.inl (Gs_of (tb_6 (i := 97) (by decide +kernel)) rfl)
theorem lL_146 : ML RL 146 mX6_trace := Or.inl (Gs_of (tb_4 (i := 29) (by decide +kernel)) rfl)
theorem lL_149 : ML RL 149 mX7_trace := Or.inl (Gs_of (tb_6 (i := 133) (by decide +kernel)) rfl)
theorem lL_150 : ML RL 150 mX6_taken := Or.inl (Gs_of (tb_4 (i := 33) (by decide +kernel)) rfl)
theorem lL_153 : ML RL 153 mX7_taken := Or.inl (Gs_of (tb_6 (i := 137) (by decide +kernel)) rfl)
theorem lL_154 : ML RL 154 mX6_count := Or.inl (Gs_of (tb_4 (i := 38) (by decide +kernel)) rfl)
theorem lL_157 : ML RL 157 mX7_count := Or.inl (Gs_of (tb_6 (i := 141) (by decide +kernel)) rfl)
theorem lL_158 : ML RL 158 mX6_tape := Or.inl (Gs_of (tb_4 (i := 42) (by decide +kernel)) rfl)
theorem lL_161 : ML RL 161 mX7_tape := Or.inl (Gs_of (tb_6 (i := 145) (by decide +kernel)) rfl)
theorem lL_164 : ML RL 164 mX6_item := Or.inl (Gs_of (tb_4 (i := 55) (by decide +kernel)) rfl)
theorem lL_168 : ML RL 168 mX7_item := Or.inl (Gs_of (tb_6 (i := 149) (by decide +kernel)) rfl)
theorem lL_169 : ML RL 169 mX6_read := Or.inl (Gs_of (tb_4 (i := 63) (by decide +kernel)) rfl)
theorem lL_172 : ML RL 172 mX7_read := Or.inl (Gs_of (tb_6 (i := 157) (by decide +kernel)) rfl)
theorem lL_173 : ML RL 173 mX6_shift := Or.inl (Gs_of (tb_4 (i := 67) (by decide +kernel)) rfl)
theorem lL_177 : ML RL 177 mX7_shift := Or.inl (Gs_of (tb_6 (i := 161) (by decide +kernel)) rfl)
theorem lX7_206 : ML RX7 206 mX7_in := Or.inl (Gs_of (tb_5 (i := 40) (by decide +kernel)) rfl)
theorem lX7_210 : ML RX7 210 mX7_wide := Or.inl (Gs_of (tb_5 (i := 44) (by decide +kernel)) rfl)
theorem lX7_214 : ML RX7 214 mX7_laysAll := Or.inl (Gs_of (tb_5 (i := 60) (by decide +kernel)) rfl)
theorem lX7_218 : ML RX7 218 mX7_isDancer := Or.inl (Gs_of (tb_5 (i := 68) (by decide +kernel)) rfl)
theorem lX7_222 : ML RX7 222 mX7_next := Or.inl (Gs_of (tb_5 (i := 100) (by decide +kernel)) rfl)
theorem lX7_225 : ML RX7 225 mX7_takes := Or.inl (Gs_of (tb_5 (i := 108) (by decide +kernel)) rfl)
theorem lX7_228 : ML RX7 228 mX7_isDigit := Or.inl (Gs_of (tb_5 (i := 116) (by decide +kernel)) rfl)
theorem lX7_232 : ML RX7 232 mX7_emits := Or.inl (Gs_of (tb_5 (i := 132) (by decide +kernel)) rfl)
theorem lX7_236 : ML RX7 236 mX7_place := Or.inl (Gs_of (tb_5 (i := 128) (by decide +kernel)) rfl)
theorem lX7_240 : ML RX7 240 mX7_takesNumber := Or.inl (Gs_of (tb_5 (i := 112) (by decide +kernel)) rfl)
theorem lX7_243 : ML RX7 243 mX7_whole := Or.inl (Gs_of (tb_5 (i := 136) (by decide +kernel)) rfl)
theorem lX7_246 : ML RX7 246 mX7_takesTest := Or.inl (Gs_of (tb_5 (i := 124) (by decide +kernel)) rfl)
theorem lX7_249 : ML RX7 249 mX7_settle := Or.inl (Gs_of (tb_5 (i := 140) (by decide +kernel)) rfl)
theorem lX7_252 : ML RX7 252 mX7_takesWord := Or.inl (Gs_of (tb_5 (i := 104) (by decide +kernel)) rfl)
theorem lX7_256 : ML RX7 256 mX7_takesHead := Or.inl (Gs_of (tb_5 (i := 96) (by decide +kernel)) rfl)
theorem lX7_259 : ML RX7 259 mX7_takesE := Or.inl (Gs_of (tb_5 (i := 120) (by decide +kernel)) rfl)
theorem lX7_262 : ML RX7 262 mX7_takesClause := Or.inl (Gs_of (tb_5 (i := 92) (by decide +kernel)) rfl)
theorem lX7_265 : ML RX7 265 mX7_goesText := Or.inl (Gs_of (tb_5 (i := 88) (by decide +kernel)) rfl)
theorem lX7_268 : ML RX7 268 mX7_firstClause := Or.inl (Gs_of (tb_5 (i := 52) (by decide +kernel)) rfl)
theorem lX7_271 : ML RX7 271 mX7_behindClauses := Or.inl (Gs_of (tb_5 (i := 56) (by decide +kernel)) rfl)
theorem lX7_274 : ML RX7 274 mX7_lastOf := Or.inl (Gs_of (tb_5 (i := 48) (by decide +kernel)) rfl)
theorem lX7_278 : ML RX7 278 mX7_factOf := Or.inl (Gs_of (tb_5 (i := 156) (by decide +kernel)) rfl)
theorem lX7_281 : ML RX7 281 mX7_holds := Or.inl (Gs_of (tb_5 (i := 152) (by decide +kernel)) rfl)
theorem lX7_284 : ML RX7 284 mX7_step := Or.inl (Gs_of (tb_5 (i := 148) (by decide +kernel)) rfl)
theorem lX7_287 : ML RX7 287 mX7_round := Or.inl (Gs_of (tb_5 (i := 164) (by decide +kernel)) rfl)
theorem lX7_290 : ML RX7 290 mX7_goes := Or.inl (Gs_of (tb_5 (i := 160) (by decide +kernel)) rfl)
theorem lX7_293 : ML RX7 293 mX7_skip := Or.inl (Gs_of (tb_5 (i := 172) (by decide +kernel)) rfl)
theorem lX7_296 : ML RX7 296 mX7_many := Or.inl (Gs_of (tb_5 (i := 176) (by decide +kernel)) rfl)
theorem lX7_299 : ML RX7 299 mX7_goBeat := Or.inl (Gs_of (tb_5 (i := 192) (by decide +kernel)) rfl)
theorem lX7_303 : ML RX7 303 mX7_isBeats := Or.inl (Gs_of (tb_5 (i := 184) (by decide +kernel)) rfl)
theorem lX7_306 : ML RX7 306 mX7_go := Or.inl (Gs_of (tb_5 (i := 188) (by decide +kernel)) rfl)
theorem lX7_309 : ML RX7 309 mX7_save := Or.inl (Gs_of (tb_5 (i := 200) (by decide +kernel)) rfl)
theorem lX7_312 : ML RX7 312 mX7_putBack := Or.inl (Gs_of (tb_5 (i := 204) (by decide +kernel)) rfl)
theorem lX7_315 : ML RX7 315 mX7_isAsKept := Or.inl (Gs_of (tb_5 (i := 212) (by decide +kernel)) rfl)
theorem lX7_318 : ML RX7 318 mX7_togetherBy := Or.inl (Gs_of (tb_5 (i := 220) (by decide +kernel)) rfl)
theorem lX7_321 : ML RX7 321 mX7_isStill := Or.inl (Gs_of (tb_5 (i := 228) (by decide +kernel)) rfl)
theorem lX7_324 : ML RX7 324 mX7_apart := Or.inl (Gs_of (tb_6 (i := 0) (by decide +kernel)) rfl)
theorem lX7_327 : ML RX7 327 mX7_isAlone := Or.inl (Gs_of (tb_6 (i := 12) (by decide +kernel)) rfl)
theorem lX7_330 : ML RX7 330 mX7_counts := Or.inl (Gs_of (tb_6 (i := 28) (by decide +kernel)) rfl)
theorem lX7_333 : ML RX7 333 mX7_isPlace := Or.inl (Gs_of (tb_6 (i := 36) (by decide +kernel)) rfl)
theorem lX7_336 : ML RX7 336 mX7_isSeen := Or.inl (Gs_of (tb_6 (i := 44) (by decide +kernel)) rfl)
theorem lX7_339 : ML RX7 339 mX7_divisor := Or.inl (Gs_of (tb_6 (i := 57) (by decide +kernel)) rfl)
theorem lX7_344 : ML RX7 344 mX7_lowest := Or.inl (Gs_of (tb_6 (i := 53) (by decide +kernel)) rfl)
theorem lX7_348 : ML RX7 348 mX7_isTape := Or.inl (Gs_of (tb_6 (i := 85) (by decide +kernel)) rfl)
theorem lX7_351 : ML RX7 351 mX7_body := Or.inl (Gs_of (tb_6 (i := 105) (by decide +kernel)) rfl)
theorem lX7_354 : ML RX7 354 mX7_dancerSteps := Or.inl (Gs_of (tb_6 (i := 109) (by decide +kernel)) rfl)
theorem lX7_357 : ML RX7 357 mX7_stepsAct := Or.inl (Gs_of (tb_6 (i := 101) (by decide +kernel)) rfl)
theorem lX7_360 : ML RX7 360 mX7_dancerTurns := Or.inl (Gs_of (tb_6 (i := 121) (by decide +kernel)) rfl)
theorem lX7_363 : ML RX7 363 mX7_lateTurns := Or.inl (Gs_of (tb_6 (i := 117) (by decide +kernel)) rfl)
theorem lX7_366 : ML RX7 366 mX7_turnsAct := Or.inl (Gs_of (tb_6 (i := 113) (by decide +kernel)) rfl)
theorem lX7_369 : ML RX7 369 mX7_dancerTells := Or.inl (Gs_of (tb_6 (i := 129) (by decide +kernel)) rfl)
theorem lX7_372 : ML RX7 372 mX7_tellsAct := Or.inl (Gs_of (tb_6 (i := 125) (by decide +kernel)) rfl)
theorem lX7_375 : ML RX7 375 mX7_narrow := Or.inl (Gs_of (tb_6 (i := 153) (by decide +kernel)) rfl)
theorem lJ0_335 : ML RJ0 335 mJ0_coder_7d493 := Or.inl (Gs_of (tb_2 (i := 122) (by decide +kernel)) rfl)
theorem lJ0_492 : ML RJ0 492 mJ0_isLatin1_aae02 := Or.inl (Gs_of (tb_2 (i := 132) (by decide +kernel)) rfl)
theorem lJ0_495 : ML RJ0 495 mJ1_charAt_3b067 := Or.inl (Gs_of (tb_2 (i := 136) (by decide +kernel)) rfl)
theorem lJ0_498 : ML RJ0 498 mJ2_charAt_3b067 := Or.inl (Gs_of (tb_2 (i := 147) (by decide +kernel)) rfl)
theorem lJ0_505 : ML RJ0 505 mJ0_length_8abf5 := Or.inl (Gs_of (tb_2 (i := 209) (by decide +kernel)) rfl)
theorem lJ0_633 : ML RJ0 633 mJ0_indexOf_7cf53 := Or.inl (Gs_of (tb_2 (i := 205) (by decide +kernel)) rfl)
theorem lJ0_637 : ML RJ0 637 mJ1_indexOf_4cfef := Or.inl (Gs_of (tb_2 (i := 210) (by decide +kernel)) rfl)
theorem lJ0_640 : ML RJ0 640 mJ2_indexOf_4cfef := Or.inl (Gs_of (tb_2 (i := 221) (by decide +kernel)) rfl)
theorem lJ0_1059 : ML RJ0 1059 mJ3_checkIndex_8e157 := Or.inl (Gs_of (tb_2 (i := 144) (by decide +kernel)) rfl)
theorem lJ0_1062 : ML RJ0 1062 mJ3_checkFromToIndex_8c36e := Or.inl (Gs_of (tb_2 (i := 236) (by decide +kernel)) rfl)
theorem lJ1_9 : ML RJ1 9 mJ0_checkIndex_df160 := Or.inl (Gs_of (tb_2 (i := 139) (by decide +kernel)) rfl)
theorem lJ1_38 : ML RJ1 38 mJ9_min_7cf53 := Or.inl (Gs_of (tb_2 (i := 217) (by decide +kernel)) rfl)
theorem lJ1_88 : ML RJ1 88 mJ1_canEncode_9a6ad := Or.inl (Gs_of (tb_2 (i := 213) (by decide +kernel)) rfl)
theorem lJ1_92 : ML RJ1 92 mJ9_max_7cf53 := Or.inl (Gs_of (tb_2 (i := 216) (by decide +kernel)) rfl)
theorem lJ1_95 : ML RJ1 95 mJ1_indexOfChar_4cfef := Or.inl (Gs_of (tb_2 (i := 218) (by decide +kernel)) rfl)
theorem lJ2_48 : ML RJ2 48 mJ2_length_9d52b := Or.inl (Gs_of (tb_2 (i := 153) (by decide +kernel)) rfl)
theorem lJ2_67 : ML RJ2 67 mJ2_checkIndex_2214a := Or.inl (Gs_of (tb_2 (i := 150) (by decide +kernel)) rfl)
theorem lJ2_71 : ML RJ2 71 mJ2_getChar_3b067 := Or.inl (Gs_of (tb_2 (i := 157) (by decide +kernel)) rfl)
theorem lJ2_96 : ML RJ2 96 mJ2_checkBoundsBeginEnd_d044e := Or.inl (Gs_of (tb_2 (i := 230) (by decide +kernel)) rfl)
theorem lJ2_157 : ML RJ2 157 mJ11_highSurrogate_5068e := Or.inl (Gs_of (tb_3 (i := 8) (by decide +kernel)) rfl)
theorem lJ2_161 : ML RJ2 161 mJ11_lowSurrogate_5068e := Or.inl (Gs_of (tb_3 (i := 12) (by decide +kernel)) rfl)
theorem lJ2_164 : ML RJ2 164 mJ11_isValidCodePoint_9a6ad := Or.inl (Gs_of (tb_3 (i := 5) (by decide +kernel)) rfl)
theorem lJ2_183 : ML RJ2 183 mJ9_min_7cf53 := Or.inl (Gs_of (tb_2 (i := 225) (by decide +kernel)) rfl)
theorem lJ2_224 : ML RJ2 224 mJ9_max_7cf53 := Or.inl (Gs_of (tb_2 (i := 224) (by decide +kernel)) rfl)
theorem lJ2_228 : ML RJ2 228 mJ2_indexOfChar_4cfef := Or.inl (Gs_of (tb_2 (i := 227) (by decide +kernel)) rfl)
theorem lJ2_232 : ML RJ2 232 mJ2_indexOfSupplementary_4cfef := Or.inl (Gs_of (tb_3 (i := 2) (by decide +kernel)) rfl)
theorem lJ2_241 : ML RJ2 241 mJ0_checkBoundsBeginEnd_23922 := Or.inl (Gs_of (tb_2 (i := 233) (by decide +kernel)) rfl)
theorem lJ2_244 : ML RJ2 244 mJ2_indexOfCharUnsafe_4cfef := Or.inl (Gs_of (tb_2 (i := 239) (by decide +kernel)) rfl)
theorem lJ2_414 : ML RJ2 414 mJ0_checkIndex_df160 := Or.inl (Gs_of (tb_2 (i := 156) (by decide +kernel)) rfl)
end
section
theorem qX0_forgetTrace_0 : DI cX0_forgetTrace 0 (.aload_n 0) 1 1 := ⟨by decide +kernel, rfl⟩
theorem qX0_forgetTrace_1 : DI cX0_forgetTrace 1 (.iconst 0) 1 2 := ⟨by decide +kernel, rfl⟩
theorem qX0_forgetTrace_2 : DI cX0_forgetTrace 2 (.putfield 15) 3 5 := ⟨by decide +kernel, rfl⟩
theorem qX0_forgetTrace_5 : DI cX0_forgetTrace 5 (.return_) 1 6 := ⟨by decide +kernel, rfl⟩
theorem qX0_play_0 : DI cX0_play 0 (.aload_n 1) 1 1 := ⟨by decide +kernel, rfl⟩
theorem qX0_play_1 : DI cX0_play 1 (.iload_n 2) 1 2 := ⟨by decide +kernel, rfl⟩
theorem qX0_play_2 : DI cX0_play 2 (.invokevirtual 19) 3 5 := ⟨by decide +kernel, rfl⟩
theorem qX0_play_5 : DJ cX0_play 5 (.ifCond .ne) 10 8 := ⟨5, by decide +kernel, by decide, rfl⟩
theorem qX0_play_8 : DI cX0_play 8 (.iconst 0) 1 9 := ⟨by decide +kernel, rfl⟩
theorem qX0_play_9 : DI cX0_play 9 (.ireturn) 1 10 := ⟨by decide +kernel, rfl⟩
theorem qX0_play_10 : DI cX0_play 10 (.aload_n 0) 1 11 := ⟨by decide +kernel, rfl⟩
theorem qX0_play_11 : DI cX0_play 11 (.aload_n 1) 1 12 := ⟨by decide +kernel, rfl⟩
theorem qX0_play_12 : DI cX0_play 12 (.getfield 25) 3 15 := ⟨by decide +kernel, rfl⟩
theorem qX0_play_15 : DI cX0_play 15 (.iload_n 2) 1 16 := ⟨by decide +kernel, rfl⟩
theorem qX0_play_16 : DI cX0_play 16 (.iaload) 1 17 := ⟨by decide +kernel, rfl⟩
theorem qX0_play_17 : DI cX0_play 17 (.putfield 28) 3 20 := ⟨by decide +kernel, rfl⟩
theorem qX0_play_20 : DI cX0_play 20 (.aload_n 0) 1 21 := ⟨by decide +kernel, rfl⟩
theorem qX0_play_21 : DI cX0_play 21 (.aload_n 1) 1 22 := ⟨by decide +kernel, rfl⟩
theorem qX0_play_22 : DI cX0_play 22 (.getfield 30) 3 25 := ⟨by decide +kernel, rfl⟩
theorem qX0_play_25 : DI cX0_play 25 (.iload_n 2) 1 26 := ⟨by decide +kernel, rfl⟩
theorem qX0_play_26 : DI cX0_play 26 (.iaload) 1 27 := ⟨by decide +kernel, rfl⟩
theorem qX0_play_27 : DI cX0_play 27 (.putfield 33) 3 30 := ⟨by decide +kernel, rfl⟩
theorem qX0_play_30 : DI cX0_play 30 (.aload_n 0) 1 31 := ⟨by decide +kernel, rfl⟩
theorem qX0_play_31 : DI cX0_play 31 (.iload_n 2) 1 32 := ⟨by decide +kernel, rfl⟩
theorem qX0_play_32 : DI cX0_play 32 (.putfield 35) 3 35 := ⟨by decide +kernel, rfl⟩
theorem qX0_play_35 : DI cX0_play 35 (.aload_n 0) 1 36 := ⟨by decide +kernel, rfl⟩
theorem qX0_play_36 : DI cX0_play 36 (.iload_n 3) 1 37 := ⟨by decide +kernel, rfl⟩
theorem qX0_play_37 : DI cX0_play 37 (.aload_n 0) 1 38 := ⟨by decide +kernel, rfl⟩
theorem qX0_play_38 : DI cX0_play 38 (.getfield 28) 3 41 := ⟨by decide +kernel, rfl⟩
theorem qX0_play_41 : DI cX0_play 41 (.iload 4) 2 43 := ⟨by decide +kernel, rfl⟩
theorem qX0_play_43 : DI cX0_play 43 (.iconst 0) 1 44 := ⟨by decide +kernel, rfl⟩
theorem qX0_play_44 : DI cX0_play 44 (.invokevirtual 38) 3 47 := ⟨by decide +kernel, rfl⟩
theorem qX0_play_47 : DI cX0_play 47 (.ireturn) 1 48 := ⟨by decide +kernel, rfl⟩
theorem qX0_run_0 : DI cX0_run 0 (.iload 4) 2 2 := ⟨by decide +kernel, rfl⟩
theorem qX0_run_2 : DI cX0_run 2 (.bipush 40) 2 4 := ⟨by decide +kernel, rfl⟩
theorem qX0_run_4 : DJ cX0_run 4 (.if_icmp .le) 9 7 := ⟨5, by decide +kernel, by decide, rfl⟩
theorem qX0_run_7 : DI cX0_run 7 (.iconst 0) 1 8 := ⟨by decide +kernel, rfl⟩
theorem qX0_run_8 : DI cX0_run 8 (.ireturn) 1 9 := ⟨by decide +kernel, rfl⟩
theorem qX0_run_9 : DI cX0_run 9 (.iload_n 1) 1 10 := ⟨by decide +kernel, rfl⟩
theorem qX0_run_10 : DI cX0_run 10 (.iload_n 2) 1 11 := ⟨by decide +kernel, rfl⟩
theorem qX0_run_11 : DI cX0_run 11 (.invokestatic 42) 3 14 := ⟨by decide +kernel, rfl⟩
theorem qX0_run_14 : DI cX0_run 14 (.istore 5) 2 16 := ⟨by decide +kernel, rfl⟩
theorem qX0_run_16 : DI cX0_run 16 (.aload_n 0) 1 17 := ⟨by decide +kernel, rfl⟩
theorem qX0_run_17 : DI cX0_run 17 (.getfield 15) 3 20 := ⟨by decide +kernel, rfl⟩
theorem qX0_run_20 : DI cX0_run 20 (.bipush 20) 2 22 := ⟨by decide +kernel, rfl⟩
theorem qX0_run_22 : DJ cX0_run 22 (.if_icmp .ge) 36 25 := ⟨14, by decide +kernel, by decide, rfl⟩
theorem qX0_run_25 : DI cX0_run 25 (.aload_n 0) 1 26 := ⟨by decide +kernel, rfl⟩
theorem qX0_run_26 : DI cX0_run 26 (.getfield 11) 3 29 := ⟨by decide +kernel, rfl⟩
theorem qX0_run_29 : DI cX0_run 29 (.aload_n 0) 1 30 := ⟨by decide +kernel, rfl⟩
theorem qX0_run_30 : DI cX0_run 30 (.getfield 15) 3 33 := ⟨by decide +kernel, rfl⟩
theorem qX0_run_33 : DI cX0_run 33 (.iload 5) 2 35 := ⟨by decide +kernel, rfl⟩
theorem qX0_run_35 : DI cX0_run 35 (.iastore) 1 36 := ⟨by decide +kernel, rfl⟩
theorem qX0_run_36 : DI cX0_run 36 (.aload_n 0) 1 37 := ⟨by decide +kernel, rfl⟩
theorem qX0_run_37 : DI cX0_run 37 (.dup) 1 38 := ⟨by decide +kernel, rfl⟩
theorem qX0_run_38 : DI cX0_run 38 (.getfield 15) 3 41 := ⟨by decide +kernel, rfl⟩
theorem qX0_run_41 : DI cX0_run 41 (.iconst 1) 1 42 := ⟨by decide +kernel, rfl⟩
theorem qX0_run_42 : DI cX0_run 42 (.iadd) 1 43 := ⟨by decide +kernel, rfl⟩
theorem qX0_run_43 : DI cX0_run 43 (.putfield 15) 3 46 := ⟨by decide +kernel, rfl⟩
theorem qX0_run_46 : DI cX0_run 46 (.aload_n 0) 1 47 := ⟨by decide +kernel, rfl⟩
theorem qX0_run_47 : DI cX0_run 47 (.iload 5) 2 49 := ⟨by decide +kernel, rfl⟩
theorem qX0_run_49 : DI cX0_run 49 (.iload_n 3) 1 50 := ⟨by decide +kernel, rfl⟩
theorem qX0_run_50 : DI cX0_run 50 (.iload 4) 2 52 := ⟨by decide +kernel, rfl⟩
theorem qX0_run_52 : DI cX0_run 52 (.iconst 1) 1 53 := ⟨by decide +kernel, rfl⟩
theorem qX0_run_53 : DI cX0_run 53 (.iadd) 1 54 := ⟨by decide +kernel, rfl⟩
theorem qX0_run_54 : DI cX0_run 54 (.invokevirtual 46) 3 57 := ⟨by decide +kernel, rfl⟩
theorem qX0_run_57 : DI cX0_run 57 (.ireturn) 1 58 := ⟨by decide +kernel, rfl⟩
theorem qX0_runBody_0 : DI cX0_runBody 0 (.iload_n 1) 1 1 := ⟨by decide +kernel, rfl⟩
theorem qX0_runBody_1 : decode cX0_runBody 1 = .ok (.lookupswitch 248 #[(10, 99), (11, 106), (12, 123), (20, 137), (30, 149), (40, 160), (50, 181), (51, 191), (60, 202), (70, 216), (71, 234)], 99) := by decide +kernel
theorem qX0_runBody_100 : DI cX0_runBody 100 (.iload_n 2) 1 101 := ⟨by decide +kernel, rfl⟩
theorem qX0_runBody_101 : DI cX0_runBody 101 (.aload_n 0) 1 102 := ⟨by decide +kernel, rfl⟩
theorem qX0_runBody_102 : DI cX0_runBody 102 (.getfield 35) 3 105 := ⟨by decide +kernel, rfl⟩
theorem qX0_runBody_105 : DI cX0_runBody 105 (.iadd) 1 106 := ⟨by decide +kernel, rfl⟩
theorem qX0_runBody_106 : DI cX0_runBody 106 (.ireturn) 1 107 := ⟨by decide +kernel, rfl⟩
theorem qX0_runBody_107 : DI cX0_runBody 107 (.aload_n 0) 1 108 := ⟨by decide +kernel, rfl⟩
theorem qX0_runBody_108 : DI cX0_runBody 108 (.iconst 0) 1 109 := ⟨by decide +kernel, rfl⟩
theorem qX0_runBody_109 : DI cX0_runBody 109 (.aload_n 0) 1 110 := ⟨by decide +kernel, rfl⟩
theorem qX0_runBody_110 : DI cX0_runBody 110 (.getfield 28) 3 113 := ⟨by decide +kernel, rfl⟩
theorem qX0_runBody_113 : DI cX0_runBody 113 (.iload_n 2) 1 114 := ⟨by decide +kernel, rfl⟩
theorem qX0_runBody_114 : DI cX0_runBody 114 (.iload_n 3) 1 115 := ⟨by decide +kernel, rfl⟩
theorem qX0_runBody_115 : DI cX0_runBody 115 (.invokevirtual 38) 3 118 := ⟨by decide +kernel, rfl⟩
theorem qX0_runBody_118 : DI cX0_runBody 118 (.aload_n 0) 1 119 := ⟨by decide +kernel, rfl⟩
theorem qX0_runBody_119 : DI cX0_runBody 119 (.getfield 33) 3 122 := ⟨by decide +kernel, rfl⟩
theorem qX0_runBody_122 : DI cX0_runBody 122 (.isub) 1 123 := ⟨by decide +kernel, rfl⟩
theorem qX0_runBody_123 : DI cX0_runBody 123 (.ireturn) 1 124 := ⟨by decide +kernel, rfl⟩
theorem qX0_runBody_124 : DI cX0_runBody 124 (.aload_n 0) 1 125 := ⟨by decide +kernel, rfl⟩
theorem qX0_runBody_125 : DI cX0_runBody 125 (.iconst 1) 1 126 := ⟨by decide +kernel, rfl⟩
theorem qX0_runBody_126 : DI cX0_runBody 126 (.aload_n 0) 1 127 := ⟨by decide +kernel, rfl⟩
theorem qX0_runBody_127 : DI cX0_runBody 127 (.getfield 28) 3 130 := ⟨by decide +kernel, rfl⟩
theorem qX0_runBody_130 : DI cX0_runBody 130 (.iload_n 2) 1 131 := ⟨by decide +kernel, rfl⟩
theorem qX0_runBody_131 : DI cX0_runBody 131 (.iload_n 3) 1 132 := ⟨by decide +kernel, rfl⟩
theorem qX0_runBody_132 : DI cX0_runBody 132 (.invokevirtual 38) 3 135 := ⟨by decide +kernel, rfl⟩
theorem qX0_runBody_135 : DI cX0_runBody 135 (.iconst 2) 1 136 := ⟨by decide +kernel, rfl⟩
theorem qX0_runBody_136 : DI cX0_runBody 136 (.imul) 1 137 := ⟨by decide +kernel, rfl⟩
theorem qX0_runBody_137 : DI cX0_runBody 137 (.ireturn) 1 138 := ⟨by decide +kernel, rfl⟩
theorem qX0_runBody_138 : DI cX0_runBody 138 (.aload_n 0) 1 139 := ⟨by decide +kernel, rfl⟩
theorem qX0_runBody_139 : DI cX0_runBody 139 (.iconst 1) 1 140 := ⟨by decide +kernel, rfl⟩
theorem qX0_runBody_140 : DI cX0_runBody 140 (.iconst 0) 1 141 := ⟨by decide +kernel, rfl⟩
theorem qX0_runBody_141 : DI cX0_runBody 141 (.iload_n 2) 1 142 := ⟨by decide +kernel, rfl⟩
theorem qX0_runBody_142 : DI cX0_runBody 142 (.iload_n 3) 1 143 := ⟨by decide +kernel, rfl⟩
theorem qX0_runBody_143 : DI cX0_runBody 143 (.invokevirtual 38) 3 146 := ⟨by decide +kernel, rfl⟩
theorem qX0_runBody_146 : DI cX0_runBody 146 (.bipush 6) 2 148 := ⟨by decide +kernel, rfl⟩
theorem qX0_runBody_148 : DI cX0_runBody 148 (.ixor) 1 149 := ⟨by decide +kernel, rfl⟩
theorem qX0_runBody_149 : DI cX0_runBody 149 (.ireturn) 1 150 := ⟨by decide +kernel, rfl⟩
theorem qX0_runBody_150 : DI cX0_runBody 150 (.aload_n 0) 1 151 := ⟨by decide +kernel, rfl⟩
theorem qX0_runBody_151 : DI cX0_runBody 151 (.iconst 0) 1 152 := ⟨by decide +kernel, rfl⟩
theorem qX0_runBody_152 : DI cX0_runBody 152 (.iconst 0) 1 153 := ⟨by decide +kernel, rfl⟩
theorem qX0_runBody_153 : DI cX0_runBody 153 (.iload_n 2) 1 154 := ⟨by decide +kernel, rfl⟩
theorem qX0_runBody_154 : DI cX0_runBody 154 (.iconst 3) 1 155 := ⟨by decide +kernel, rfl⟩
theorem qX0_runBody_155 : DI cX0_runBody 155 (.imul) 1 156 := ⟨by decide +kernel, rfl⟩
theorem qX0_runBody_156 : DI cX0_runBody 156 (.iload_n 3) 1 157 := ⟨by decide +kernel, rfl⟩
theorem qX0_runBody_157 : DI cX0_runBody 157 (.invokevirtual 38) 3 160 := ⟨by decide +kernel, rfl⟩
theorem qX0_runBody_160 : DI cX0_runBody 160 (.ireturn) 1 161 := ⟨by decide +kernel, rfl⟩
theorem qX0_runBody_161 : DI cX0_runBody 161 (.aload_n 0) 1 162 := ⟨by decide +kernel, rfl⟩
theorem qX0_runBody_162 : DI cX0_runBody 162 (.iconst 2) 1 163 := ⟨by decide +kernel, rfl⟩
theorem qX0_runBody_163 : DI cX0_runBody 163 (.iconst 0) 1 164 := ⟨by decide +kernel, rfl⟩
theorem qX0_runBody_164 : DI cX0_runBody 164 (.iload_n 2) 1 165 := ⟨by decide +kernel, rfl⟩
theorem qX0_runBody_165 : DI cX0_runBody 165 (.iload_n 3) 1 166 := ⟨by decide +kernel, rfl⟩
theorem qX0_runBody_166 : DI cX0_runBody 166 (.invokevirtual 38) 3 169 := ⟨by decide +kernel, rfl⟩
theorem qX0_runBody_169 : DI cX0_runBody 169 (.aload_n 0) 1 170 := ⟨by decide +kernel, rfl⟩
theorem qX0_runBody_170 : DI cX0_runBody 170 (.iconst 1) 1 171 := ⟨by decide +kernel, rfl⟩
theorem qX0_runBody_171 : DI cX0_runBody 171 (.aload_n 0) 1 172 := ⟨by decide +kernel, rfl⟩
theorem qX0_runBody_172 : DI cX0_runBody 172 (.getfield 28) 3 175 := ⟨by decide +kernel, rfl⟩
theorem qX0_runBody_175 : DI cX0_runBody 175 (.iconst 1) 1 176 := ⟨by decide +kernel, rfl⟩
theorem qX0_runBody_176 : DI cX0_runBody 176 (.iload_n 3) 1 177 := ⟨by decide +kernel, rfl⟩
theorem qX0_runBody_177 : DI cX0_runBody 177 (.invokevirtual 38) 3 180 := ⟨by decide +kernel, rfl⟩
theorem qX0_runBody_180 : DI cX0_runBody 180 (.iadd) 1 181 := ⟨by decide +kernel, rfl⟩
theorem qX0_runBody_181 : DI cX0_runBody 181 (.ireturn) 1 182 := ⟨by decide +kernel, rfl⟩
theorem qX0_runBody_182 : DI cX0_runBody 182 (.aload_n 0) 1 183 := ⟨by decide +kernel, rfl⟩
theorem qX0_runBody_183 : DI cX0_runBody 183 (.iconst 0) 1 184 := ⟨by decide +kernel, rfl⟩
theorem qX0_runBody_184 : DI cX0_runBody 184 (.iconst 1) 1 185 := ⟨by decide +kernel, rfl⟩
theorem qX0_runBody_185 : DI cX0_runBody 185 (.iload_n 2) 1 186 := ⟨by decide +kernel, rfl⟩
theorem qX0_runBody_186 : DI cX0_runBody 186 (.iload_n 3) 1 187 := ⟨by decide +kernel, rfl⟩
theorem qX0_runBody_187 : DI cX0_runBody 187 (.invokevirtual 38) 3 190 := ⟨by decide +kernel, rfl⟩
theorem qX0_runBody_190 : DI cX0_runBody 190 (.ineg) 1 191 := ⟨by decide +kernel, rfl⟩
theorem qX0_runBody_191 : DI cX0_runBody 191 (.ireturn) 1 192 := ⟨by decide +kernel, rfl⟩
theorem qX0_runBody_192 : DI cX0_runBody 192 (.aload_n 0) 1 193 := ⟨by decide +kernel, rfl⟩
theorem qX0_runBody_193 : DI cX0_runBody 193 (.iconst 1) 1 194 := ⟨by decide +kernel, rfl⟩
theorem qX0_runBody_194 : DI cX0_runBody 194 (.iconst 1) 1 195 := ⟨by decide +kernel, rfl⟩
theorem qX0_runBody_195 : DI cX0_runBody 195 (.iload_n 2) 1 196 := ⟨by decide +kernel, rfl⟩
theorem qX0_runBody_196 : DI cX0_runBody 196 (.iconst 1) 1 197 := ⟨by decide +kernel, rfl⟩
theorem qX0_runBody_197 : DI cX0_runBody 197 (.iadd) 1 198 := ⟨by decide +kernel, rfl⟩
theorem qX0_runBody_198 : DI cX0_runBody 198 (.iload_n 3) 1 199 := ⟨by decide +kernel, rfl⟩
theorem qX0_runBody_199 : DI cX0_runBody 199 (.invokevirtual 38) 3 202 := ⟨by decide +kernel, rfl⟩
theorem qX0_runBody_202 : DI cX0_runBody 202 (.ireturn) 1 203 := ⟨by decide +kernel, rfl⟩
theorem qX0_runBody_203 : DI cX0_runBody 203 (.aload_n 0) 1 204 := ⟨by decide +kernel, rfl⟩
theorem qX0_runBody_204 : DI cX0_runBody 204 (.iconst 2) 1 205 := ⟨by decide +kernel, rfl⟩
theorem qX0_runBody_205 : DI cX0_runBody 205 (.iconst 2) 1 206 := ⟨by decide +kernel, rfl⟩
theorem qX0_runBody_206 : DI cX0_runBody 206 (.iload_n 2) 1 207 := ⟨by decide +kernel, rfl⟩
theorem qX0_runBody_207 : DI cX0_runBody 207 (.aload_n 0) 1 208 := ⟨by decide +kernel, rfl⟩
theorem qX0_runBody_208 : DI cX0_runBody 208 (.getfield 35) 3 211 := ⟨by decide +kernel, rfl⟩
theorem qX0_runBody_211 : DI cX0_runBody 211 (.isub) 1 212 := ⟨by decide +kernel, rfl⟩
theorem qX0_runBody_212 : DI cX0_runBody 212 (.iload_n 3) 1 213 := ⟨by decide +kernel, rfl⟩
theorem qX0_runBody_213 : DI cX0_runBody 213 (.invokevirtual 38) 3 216 := ⟨by decide +kernel, rfl⟩
theorem qX0_runBody_216 : DI cX0_runBody 216 (.ireturn) 1 217 := ⟨by decide +kernel, rfl⟩
theorem qX0_runBody_217 : DI cX0_runBody 217 (.aload_n 0) 1 218 := ⟨by decide +kernel, rfl⟩
theorem qX0_runBody_218 : DI cX0_runBody 218 (.iconst 1) 1 219 := ⟨by decide +kernel, rfl⟩
theorem qX0_runBody_219 : DI cX0_runBody 219 (.iconst 3) 1 220 := ⟨by decide +kernel, rfl⟩
theorem qX0_runBody_220 : DI cX0_runBody 220 (.iload_n 2) 1 221 := ⟨by decide +kernel, rfl⟩
theorem qX0_runBody_221 : DI cX0_runBody 221 (.iload_n 3) 1 222 := ⟨by decide +kernel, rfl⟩
theorem qX0_runBody_222 : DI cX0_runBody 222 (.invokevirtual 38) 3 225 := ⟨by decide +kernel, rfl⟩
theorem qX0_runBody_225 : DI cX0_runBody 225 (.aload_n 0) 1 226 := ⟨by decide +kernel, rfl⟩
theorem qX0_runBody_226 : DI cX0_runBody 226 (.iconst 0) 1 227 := ⟨by decide +kernel, rfl⟩
theorem qX0_runBody_227 : DI cX0_runBody 227 (.iconst 3) 1 228 := ⟨by decide +kernel, rfl⟩
theorem qX0_runBody_228 : DI cX0_runBody 228 (.iconst 2) 1 229 := ⟨by decide +kernel, rfl⟩
theorem qX0_runBody_229 : DI cX0_runBody 229 (.iload_n 3) 1 230 := ⟨by decide +kernel, rfl⟩
theorem qX0_runBody_230 : DI cX0_runBody 230 (.invokevirtual 38) 3 233 := ⟨by decide +kernel, rfl⟩
theorem qX0_runBody_233 : DI cX0_runBody 233 (.iadd) 1 234 := ⟨by decide +kernel, rfl⟩
theorem qX0_runBody_234 : DI cX0_runBody 234 (.ireturn) 1 235 := ⟨by decide +kernel, rfl⟩
theorem qX0_runBody_235 : DI cX0_runBody 235 (.aload_n 0) 1 236 := ⟨by decide +kernel, rfl⟩
theorem qX0_runBody_236 : DI cX0_runBody 236 (.iconst 0) 1 237 := ⟨by decide +kernel, rfl⟩
theorem qX0_runBody_237 : DI cX0_runBody 237 (.iconst 3) 1 238 := ⟨by decide +kernel, rfl⟩
theorem qX0_runBody_238 : DI cX0_runBody 238 (.iload_n 2) 1 239 := ⟨by decide +kernel, rfl⟩
theorem qX0_runBody_239 : DI cX0_runBody 239 (.iload_n 3) 1 240 := ⟨by decide +kernel, rfl⟩
theorem qX0_runBody_240 : DI cX0_runBody 240 (.invokevirtual 38) 3 243 := ⟨by decide +kernel, rfl⟩
theorem qX0_runBody_243 : DI cX0_runBody 243 (.aload_n 0) 1 244 := ⟨by decide +kernel, rfl⟩
theorem qX0_runBody_244 : DI cX0_runBody 244 (.getfield 33) 3 247 := ⟨by decide +kernel, rfl⟩
theorem qX0_runBody_247 : DI cX0_runBody 247 (.ixor) 1 248 := ⟨by decide +kernel, rfl⟩
theorem qX0_runBody_248 : DI cX0_runBody 248 (.ireturn) 1 249 := ⟨by decide +kernel, rfl⟩
theorem qX0_runBody_249 : DI cX0_runBody 249 (.iconst 0) 1 250 := ⟨by decide +kernel, rfl⟩
theorem qX0_runBody_250 : DI cX0_runBody 250 (.ireturn) 1 251 := ⟨by decide +kernel, rfl⟩
theorem qX0_bodyOf_0 : DI cX0_bodyOf 0 (.iload_n 1) 1 1 := ⟨by decide +kernel, rfl⟩
theorem qX0_bodyOf_1 : DI cX0_bodyOf 1 (.istore_n 2) 1 2 := ⟨by decide +kernel, rfl⟩
theorem qX0_bodyOf_2 : DI cX0_bodyOf 2 (.iconst 0) 1 3 := ⟨by decide +kernel, rfl⟩
theorem qX0_bodyOf_3 : DI cX0_bodyOf 3 (.istore_n 3) 1 4 := ⟨by decide +kernel, rfl⟩
theorem qX0_bodyOf_4 : DI cX0_bodyOf 4 (.iload_n 3) 1 5 := ⟨by decide +kernel, rfl⟩
theorem qX0_bodyOf_5 : DI cX0_bodyOf 5 (.bipush 7) 2 7 := ⟨by decide +kernel, rfl⟩
theorem qX0_bodyOf_7 : DJ cX0_bodyOf 7 (.if_icmp .ge) 69 10 := ⟨62, by decide +kernel, by decide, rfl⟩
theorem qX0_bodyOf_10 : DI cX0_bodyOf 10 (.iload_n 2) 1 11 := ⟨by decide +kernel, rfl⟩
theorem qX0_bodyOf_11 : DJ cX0_bodyOf 11 (.ifCond .lt) 69 14 := ⟨58, by decide +kernel, by decide, rfl⟩
theorem qX0_bodyOf_14 : DI cX0_bodyOf 14 (.iload_n 2) 1 15 := ⟨by decide +kernel, rfl⟩
theorem qX0_bodyOf_15 : DI cX0_bodyOf 15 (.bipush 7) 2 17 := ⟨by decide +kernel, rfl⟩
theorem qX0_bodyOf_17 : DJ cX0_bodyOf 17 (.if_icmp .ge) 69 20 := ⟨52, by decide +kernel, by decide, rfl⟩
theorem qX0_bodyOf_20 : DI cX0_bodyOf 20 (.iload_n 2) 1 21 := ⟨by decide +kernel, rfl⟩
theorem qX0_bodyOf_21 : DI cX0_bodyOf 21 (.iconst 3) 1 22 := ⟨by decide +kernel, rfl⟩
theorem qX0_bodyOf_22 : DI cX0_bodyOf 22 (.imul) 1 23 := ⟨by decide +kernel, rfl⟩
theorem qX0_bodyOf_23 : DI cX0_bodyOf 23 (.iload_n 0) 1 24 := ⟨by decide +kernel, rfl⟩
theorem qX0_bodyOf_24 : DI cX0_bodyOf 24 (.iadd) 1 25 := ⟨by decide +kernel, rfl⟩
theorem qX0_bodyOf_25 : DI cX0_bodyOf 25 (.istore 4) 2 27 := ⟨by decide +kernel, rfl⟩
theorem qX0_bodyOf_27 : DI cX0_bodyOf 27 (.iload 4) 2 29 := ⟨by decide +kernel, rfl⟩
theorem qX0_bodyOf_29 : DJ cX0_bodyOf 29 (.ifCond .lt) 57 32 := ⟨28, by decide +kernel, by decide, rfl⟩
theorem qX0_bodyOf_32 : DI cX0_bodyOf 32 (.iload 4) 2 34 := ⟨by decide +kernel, rfl⟩
theorem qX0_bodyOf_34 : DI cX0_bodyOf 34 (.getstatic 50) 3 37 := ⟨by decide +kernel, rfl⟩
theorem qX0_bodyOf_37 : DI cX0_bodyOf 37 (.arraylength) 1 38 := ⟨by decide +kernel, rfl⟩
theorem qX0_bodyOf_38 : DJ cX0_bodyOf 38 (.if_icmp .ge) 57 41 := ⟨19, by decide +kernel, by decide, rfl⟩
theorem qX0_bodyOf_41 : DI cX0_bodyOf 41 (.getstatic 50) 3 44 := ⟨by decide +kernel, rfl⟩
theorem qX0_bodyOf_44 : DI cX0_bodyOf 44 (.iload 4) 2 46 := ⟨by decide +kernel, rfl⟩
theorem qX0_bodyOf_46 : DI cX0_bodyOf 46 (.iaload) 1 47 := ⟨by decide +kernel, rfl⟩
theorem qX0_bodyOf_47 : DJ cX0_bodyOf 47 (.ifCond .eq) 57 50 := ⟨10, by decide +kernel, by decide, rfl⟩
theorem qX0_bodyOf_50 : DI cX0_bodyOf 50 (.getstatic 50) 3 53 := ⟨by decide +kernel, rfl⟩
theorem qX0_bodyOf_53 : DI cX0_bodyOf 53 (.iload 4) 2 55 := ⟨by decide +kernel, rfl⟩
theorem qX0_bodyOf_55 : DI cX0_bodyOf 55 (.iaload) 1 56 := ⟨by decide +kernel, rfl⟩
theorem qX0_bodyOf_56 : DI cX0_bodyOf 56 (.ireturn) 1 57 := ⟨by decide +kernel, rfl⟩
theorem qX0_bodyOf_57 : DI cX0_bodyOf 57 (.getstatic 53) 3 60 := ⟨by decide +kernel, rfl⟩
theorem qX0_bodyOf_60 : DI cX0_bodyOf 60 (.iload_n 2) 1 61 := ⟨by decide +kernel, rfl⟩
theorem qX0_bodyOf_61 : DI cX0_bodyOf 61 (.iaload) 1 62 := ⟨by decide +kernel, rfl⟩
theorem qX0_bodyOf_62 : DI cX0_bodyOf 62 (.istore_n 2) 1 63 := ⟨by decide +kernel, rfl⟩
theorem qX0_bodyOf_63 : DI cX0_bodyOf 63 (.iinc 3 1) 3 66 := ⟨by decide +kernel, rfl⟩
theorem qX0_bodyOf_66 : DJ cX0_bodyOf 66 .goto 4 69 := ⟨(-62), by decide +kernel, by decide, rfl⟩
theorem qX0_bodyOf_69 : DI cX0_bodyOf 69 (.iconst 0) 1 70 := ⟨by decide +kernel, rfl⟩
theorem qX0_bodyOf_70 : DI cX0_bodyOf 70 (.ireturn) 1 71 := ⟨by decide +kernel, rfl⟩
theorem qX1_become_0 : DI cX1_become 0 (.aload_n 0) 1 1 := ⟨by decide +kernel, rfl⟩
theorem qX1_become_1 : DI cX1_become 1 (.aload_n 1) 1 2 := ⟨by decide +kernel, rfl⟩
theorem qX1_become_2 : DI cX1_become 2 (.getfield 30) 3 5 := ⟨by decide +kernel, rfl⟩
theorem qX1_become_5 : DI cX1_become 5 (.putfield 30) 3 8 := ⟨by decide +kernel, rfl⟩
theorem qX1_become_8 : DI cX1_become 8 (.aload_n 1) 1 9 := ⟨by decide +kernel, rfl⟩
theorem qX1_become_9 : DI cX1_become 9 (.getfield 11) 3 12 := ⟨by decide +kernel, rfl⟩
theorem qX1_become_12 : DI cX1_become 12 (.iconst 0) 1 13 := ⟨by decide +kernel, rfl⟩
theorem qX1_become_13 : DI cX1_become 13 (.aload_n 0) 1 14 := ⟨by decide +kernel, rfl⟩
theorem qX1_become_14 : DI cX1_become 14 (.getfield 11) 3 17 := ⟨by decide +kernel, rfl⟩
theorem qX1_become_17 : DI cX1_become 17 (.iconst 0) 1 18 := ⟨by decide +kernel, rfl⟩
theorem qX1_become_18 : DI cX1_become 18 (.iconst 5) 1 19 := ⟨by decide +kernel, rfl⟩
theorem qX1_become_19 : DI cX1_become 19 (.invokestatic 34) 3 22 := ⟨by decide +kernel, rfl⟩
theorem qX1_become_22 : DI cX1_become 22 (.aload_n 1) 1 23 := ⟨by decide +kernel, rfl⟩
theorem qX1_become_23 : DI cX1_become 23 (.getfield 15) 3 26 := ⟨by decide +kernel, rfl⟩
theorem qX1_become_26 : DI cX1_become 26 (.iconst 0) 1 27 := ⟨by decide +kernel, rfl⟩
theorem qX1_become_27 : DI cX1_become 27 (.aload_n 0) 1 28 := ⟨by decide +kernel, rfl⟩
theorem qX1_become_28 : DI cX1_become 28 (.getfield 15) 3 31 := ⟨by decide +kernel, rfl⟩
theorem qX1_become_31 : DI cX1_become 31 (.iconst 0) 1 32 := ⟨by decide +kernel, rfl⟩
theorem qX1_become_32 : DI cX1_become 32 (.iconst 5) 1 33 := ⟨by decide +kernel, rfl⟩
theorem qX1_become_33 : DI cX1_become 33 (.invokestatic 34) 3 36 := ⟨by decide +kernel, rfl⟩
theorem qX1_become_36 : DI cX1_become 36 (.aload_n 1) 1 37 := ⟨by decide +kernel, rfl⟩
theorem qX1_become_37 : DI cX1_become 37 (.getfield 18) 3 40 := ⟨by decide +kernel, rfl⟩
theorem qX1_become_40 : DI cX1_become 40 (.iconst 0) 1 41 := ⟨by decide +kernel, rfl⟩
theorem qX1_become_41 : DI cX1_become 41 (.aload_n 0) 1 42 := ⟨by decide +kernel, rfl⟩
theorem qX1_become_42 : DI cX1_become 42 (.getfield 18) 3 45 := ⟨by decide +kernel, rfl⟩
theorem qX1_become_45 : DI cX1_become 45 (.iconst 0) 1 46 := ⟨by decide +kernel, rfl⟩
theorem qX1_become_46 : DI cX1_become 46 (.iconst 5) 1 47 := ⟨by decide +kernel, rfl⟩
theorem qX1_become_47 : DI cX1_become 47 (.invokestatic 34) 3 50 := ⟨by decide +kernel, rfl⟩
theorem qX1_become_50 : DI cX1_become 50 (.aload_n 0) 1 51 := ⟨by decide +kernel, rfl⟩
theorem qX1_become_51 : DI cX1_become 51 (.aload_n 1) 1 52 := ⟨by decide +kernel, rfl⟩
theorem qX1_become_52 : DI cX1_become 52 (.getfield 40) 3 55 := ⟨by decide +kernel, rfl⟩
theorem qX1_become_55 : DI cX1_become 55 (.putfield 40) 3 58 := ⟨by decide +kernel, rfl⟩
theorem qX1_become_58 : DI cX1_become 58 (.aload_n 1) 1 59 := ⟨by decide +kernel, rfl⟩
theorem qX1_become_59 : DI cX1_become 59 (.getfield 21) 3 62 := ⟨by decide +kernel, rfl⟩
theorem qX1_become_62 : DI cX1_become 62 (.iconst 0) 1 63 := ⟨by decide +kernel, rfl⟩
theorem qX1_become_63 : DI cX1_become 63 (.aload_n 0) 1 64 := ⟨by decide +kernel, rfl⟩
theorem qX1_become_64 : DI cX1_become 64 (.getfield 21) 3 67 := ⟨by decide +kernel, rfl⟩
theorem qX1_become_67 : DI cX1_become 67 (.iconst 0) 1 68 := ⟨by decide +kernel, rfl⟩
theorem qX1_become_68 : DI cX1_become 68 (.bipush 10) 2 70 := ⟨by decide +kernel, rfl⟩
theorem qX1_become_70 : DI cX1_become 70 (.invokestatic 34) 3 73 := ⟨by decide +kernel, rfl⟩
theorem qX1_become_73 : DI cX1_become 73 (.aload_n 0) 1 74 := ⟨by decide +kernel, rfl⟩
theorem qX1_become_74 : DI cX1_become 74 (.aload_n 1) 1 75 := ⟨by decide +kernel, rfl⟩
theorem qX1_become_75 : DI cX1_become 75 (.getfield 43) 3 78 := ⟨by decide +kernel, rfl⟩
theorem qX1_become_78 : DI cX1_become 78 (.putfield 43) 3 81 := ⟨by decide +kernel, rfl⟩
theorem qX1_become_81 : DI cX1_become 81 (.aload_n 1) 1 82 := ⟨by decide +kernel, rfl⟩
theorem qX1_become_82 : DI cX1_become 82 (.getfield 24) 3 85 := ⟨by decide +kernel, rfl⟩
theorem qX1_become_85 : DI cX1_become 85 (.iconst 0) 1 86 := ⟨by decide +kernel, rfl⟩
theorem qX1_become_86 : DI cX1_become 86 (.aload_n 0) 1 87 := ⟨by decide +kernel, rfl⟩
theorem qX1_become_87 : DI cX1_become 87 (.getfield 24) 3 90 := ⟨by decide +kernel, rfl⟩
theorem qX1_become_90 : DI cX1_become 90 (.iconst 0) 1 91 := ⟨by decide +kernel, rfl⟩
theorem qX1_become_91 : DI cX1_become 91 (.bipush 8) 2 93 := ⟨by decide +kernel, rfl⟩
theorem qX1_become_93 : DI cX1_become 93 (.invokestatic 34) 3 96 := ⟨by decide +kernel, rfl⟩
theorem qX1_become_96 : DI cX1_become 96 (.aload_n 1) 1 97 := ⟨by decide +kernel, rfl⟩
theorem qX1_become_97 : DI cX1_become 97 (.getfield 27) 3 100 := ⟨by decide +kernel, rfl⟩
theorem qX1_become_100 : DI cX1_become 100 (.iconst 0) 1 101 := ⟨by decide +kernel, rfl⟩
theorem qX1_become_101 : DI cX1_become 101 (.aload_n 0) 1 102 := ⟨by decide +kernel, rfl⟩
theorem qX1_become_102 : DI cX1_become 102 (.getfield 27) 3 105 := ⟨by decide +kernel, rfl⟩
theorem qX1_become_105 : DI cX1_become 105 (.iconst 0) 1 106 := ⟨by decide +kernel, rfl⟩
theorem qX1_become_106 : DI cX1_become 106 (.bipush 8) 2 108 := ⟨by decide +kernel, rfl⟩
theorem qX1_become_108 : DI cX1_become 108 (.invokestatic 34) 3 111 := ⟨by decide +kernel, rfl⟩
theorem qX1_become_111 : DI cX1_become 111 (.return_) 1 112 := ⟨by decide +kernel, rfl⟩
theorem qX1_addSeen_0 : DI cX1_addSeen 0 (.aload_n 0) 1 1 := ⟨by decide +kernel, rfl⟩
theorem qX1_addSeen_1 : DI cX1_addSeen 1 (.getfield 30) 3 4 := ⟨by decide +kernel, rfl⟩
theorem qX1_addSeen_4 : DJ cX1_addSeen 4 (.ifCond .lt) 15 7 := ⟨11, by decide +kernel, by decide, rfl⟩
theorem qX1_addSeen_7 : DI cX1_addSeen 7 (.aload_n 0) 1 8 := ⟨by decide +kernel, rfl⟩
theorem qX1_addSeen_8 : DI cX1_addSeen 8 (.getfield 30) 3 11 := ⟨by decide +kernel, rfl⟩
theorem qX1_addSeen_11 : DI cX1_addSeen 11 (.iconst 5) 1 12 := ⟨by decide +kernel, rfl⟩
theorem qX1_addSeen_12 : DJ cX1_addSeen 12 (.if_icmp .lt) 18 15 := ⟨6, by decide +kernel, by decide, rfl⟩
theorem qX1_addSeen_15 : DI cX1_addSeen 15 (.bipush (-4)) 2 17 := ⟨by decide +kernel, rfl⟩
theorem qX1_addSeen_17 : DI cX1_addSeen 17 (.ireturn) 1 18 := ⟨by decide +kernel, rfl⟩
theorem qX1_addSeen_18 : DI cX1_addSeen 18 (.aload_n 0) 1 19 := ⟨by decide +kernel, rfl⟩
theorem qX1_addSeen_19 : DI cX1_addSeen 19 (.getfield 11) 3 22 := ⟨by decide +kernel, rfl⟩
theorem qX1_addSeen_22 : DI cX1_addSeen 22 (.aload_n 0) 1 23 := ⟨by decide +kernel, rfl⟩
theorem qX1_addSeen_23 : DI cX1_addSeen 23 (.getfield 30) 3 26 := ⟨by decide +kernel, rfl⟩
theorem qX1_addSeen_26 : DI cX1_addSeen 26 (.iload_n 1) 1 27 := ⟨by decide +kernel, rfl⟩
theorem qX1_addSeen_27 : DI cX1_addSeen 27 (.iastore) 1 28 := ⟨by decide +kernel, rfl⟩
theorem qX1_addSeen_28 : DI cX1_addSeen 28 (.aload_n 0) 1 29 := ⟨by decide +kernel, rfl⟩
theorem qX1_addSeen_29 : DI cX1_addSeen 29 (.getfield 15) 3 32 := ⟨by decide +kernel, rfl⟩
theorem qX1_addSeen_32 : DI cX1_addSeen 32 (.aload_n 0) 1 33 := ⟨by decide +kernel, rfl⟩
theorem qX1_addSeen_33 : DI cX1_addSeen 33 (.getfield 30) 3 36 := ⟨by decide +kernel, rfl⟩
theorem qX1_addSeen_36 : DI cX1_addSeen 36 (.iload_n 2) 1 37 := ⟨by decide +kernel, rfl⟩
theorem qX1_addSeen_37 : DI cX1_addSeen 37 (.iastore) 1 38 := ⟨by decide +kernel, rfl⟩
theorem qX1_addSeen_38 : DI cX1_addSeen 38 (.aload_n 0) 1 39 := ⟨by decide +kernel, rfl⟩
theorem qX1_addSeen_39 : DI cX1_addSeen 39 (.getfield 18) 3 42 := ⟨by decide +kernel, rfl⟩
theorem qX1_addSeen_42 : DI cX1_addSeen 42 (.aload_n 0) 1 43 := ⟨by decide +kernel, rfl⟩
theorem qX1_addSeen_43 : DI cX1_addSeen 43 (.getfield 30) 3 46 := ⟨by decide +kernel, rfl⟩
theorem qX1_addSeen_46 : DI cX1_addSeen 46 (.iload_n 3) 1 47 := ⟨by decide +kernel, rfl⟩
theorem qX1_addSeen_47 : DI cX1_addSeen 47 (.iastore) 1 48 := ⟨by decide +kernel, rfl⟩
theorem qX1_addSeen_48 : DI cX1_addSeen 48 (.aload_n 0) 1 49 := ⟨by decide +kernel, rfl⟩
theorem qX1_addSeen_49 : DI cX1_addSeen 49 (.dup) 1 50 := ⟨by decide +kernel, rfl⟩
theorem qX1_addSeen_50 : DI cX1_addSeen 50 (.getfield 30) 3 53 := ⟨by decide +kernel, rfl⟩
theorem qX1_addSeen_53 : DI cX1_addSeen 53 (.iconst 1) 1 54 := ⟨by decide +kernel, rfl⟩
theorem qX1_addSeen_54 : DI cX1_addSeen 54 (.iadd) 1 55 := ⟨by decide +kernel, rfl⟩
theorem qX1_addSeen_55 : DI cX1_addSeen 55 (.putfield 30) 3 58 := ⟨by decide +kernel, rfl⟩
theorem qX1_addSeen_58 : DI cX1_addSeen 58 (.aload_n 0) 1 59 := ⟨by decide +kernel, rfl⟩
theorem qX1_addSeen_59 : DI cX1_addSeen 59 (.getfield 30) 3 62 := ⟨by decide +kernel, rfl⟩
theorem qX1_addSeen_62 : DI cX1_addSeen 62 (.ireturn) 1 63 := ⟨by decide +kernel, rfl⟩
theorem qX1_addStep_0 : DI cX1_addStep 0 (.aload_n 0) 1 1 := ⟨by decide +kernel, rfl⟩
theorem qX1_addStep_1 : DI cX1_addStep 1 (.getfield 40) 3 4 := ⟨by decide +kernel, rfl⟩
theorem qX1_addStep_4 : DJ cX1_addStep 4 (.ifCond .lt) 16 7 := ⟨12, by decide +kernel, by decide, rfl⟩
theorem qX1_addStep_7 : DI cX1_addStep 7 (.aload_n 0) 1 8 := ⟨by decide +kernel, rfl⟩
theorem qX1_addStep_8 : DI cX1_addStep 8 (.getfield 40) 3 11 := ⟨by decide +kernel, rfl⟩
theorem qX1_addStep_11 : DI cX1_addStep 11 (.bipush 10) 2 13 := ⟨by decide +kernel, rfl⟩
theorem qX1_addStep_13 : DJ cX1_addStep 13 (.if_icmp .lt) 19 16 := ⟨6, by decide +kernel, by decide, rfl⟩
theorem qX1_addStep_16 : DI cX1_addStep 16 (.bipush (-4)) 2 18 := ⟨by decide +kernel, rfl⟩
theorem qX1_addStep_18 : DI cX1_addStep 18 (.ireturn) 1 19 := ⟨by decide +kernel, rfl⟩
theorem qX1_addStep_19 : DI cX1_addStep 19 (.aload_n 0) 1 20 := ⟨by decide +kernel, rfl⟩
theorem qX1_addStep_20 : DI cX1_addStep 20 (.getfield 21) 3 23 := ⟨by decide +kernel, rfl⟩
theorem qX1_addStep_23 : DI cX1_addStep 23 (.aload_n 0) 1 24 := ⟨by decide +kernel, rfl⟩
theorem qX1_addStep_24 : DI cX1_addStep 24 (.getfield 40) 3 27 := ⟨by decide +kernel, rfl⟩
theorem qX1_addStep_27 : DI cX1_addStep 27 (.iload_n 1) 1 28 := ⟨by decide +kernel, rfl⟩
theorem qX1_addStep_28 : DI cX1_addStep 28 (.iastore) 1 29 := ⟨by decide +kernel, rfl⟩
theorem qX1_addStep_29 : DI cX1_addStep 29 (.aload_n 0) 1 30 := ⟨by decide +kernel, rfl⟩
theorem qX1_addStep_30 : DI cX1_addStep 30 (.dup) 1 31 := ⟨by decide +kernel, rfl⟩
theorem qX1_addStep_31 : DI cX1_addStep 31 (.getfield 40) 3 34 := ⟨by decide +kernel, rfl⟩
theorem qX1_addStep_34 : DI cX1_addStep 34 (.iconst 1) 1 35 := ⟨by decide +kernel, rfl⟩
theorem qX1_addStep_35 : DI cX1_addStep 35 (.iadd) 1 36 := ⟨by decide +kernel, rfl⟩
theorem qX1_addStep_36 : DI cX1_addStep 36 (.putfield 40) 3 39 := ⟨by decide +kernel, rfl⟩
theorem qX1_addStep_39 : DI cX1_addStep 39 (.aload_n 0) 1 40 := ⟨by decide +kernel, rfl⟩
theorem qX1_addStep_40 : DI cX1_addStep 40 (.getfield 40) 3 43 := ⟨by decide +kernel, rfl⟩
theorem qX1_addStep_43 : DI cX1_addStep 43 (.ireturn) 1 44 := ⟨by decide +kernel, rfl⟩
theorem qX1_addRow_0 : DI cX1_addRow 0 (.aload_n 0) 1 1 := ⟨by decide +kernel, rfl⟩
theorem qX1_addRow_1 : DI cX1_addRow 1 (.getfield 43) 3 4 := ⟨by decide +kernel, rfl⟩
theorem qX1_addRow_4 : DJ cX1_addRow 4 (.ifCond .lt) 16 7 := ⟨12, by decide +kernel, by decide, rfl⟩
theorem qX1_addRow_7 : DI cX1_addRow 7 (.aload_n 0) 1 8 := ⟨by decide +kernel, rfl⟩
theorem qX1_addRow_8 : DI cX1_addRow 8 (.getfield 43) 3 11 := ⟨by decide +kernel, rfl⟩
theorem qX1_addRow_11 : DI cX1_addRow 11 (.bipush 8) 2 13 := ⟨by decide +kernel, rfl⟩
theorem qX1_addRow_13 : DJ cX1_addRow 13 (.if_icmp .lt) 19 16 := ⟨6, by decide +kernel, by decide, rfl⟩
theorem qX1_addRow_16 : DI cX1_addRow 16 (.bipush (-4)) 2 18 := ⟨by decide +kernel, rfl⟩
theorem qX1_addRow_18 : DI cX1_addRow 18 (.ireturn) 1 19 := ⟨by decide +kernel, rfl⟩
theorem qX1_addRow_19 : DI cX1_addRow 19 (.aload_n 0) 1 20 := ⟨by decide +kernel, rfl⟩
theorem qX1_addRow_20 : DI cX1_addRow 20 (.getfield 24) 3 23 := ⟨by decide +kernel, rfl⟩
theorem qX1_addRow_23 : DI cX1_addRow 23 (.aload_n 0) 1 24 := ⟨by decide +kernel, rfl⟩
theorem qX1_addRow_24 : DI cX1_addRow 24 (.getfield 43) 3 27 := ⟨by decide +kernel, rfl⟩
theorem qX1_addRow_27 : DI cX1_addRow 27 (.iload_n 1) 1 28 := ⟨by decide +kernel, rfl⟩
theorem qX1_addRow_28 : DI cX1_addRow 28 (.iastore) 1 29 := ⟨by decide +kernel, rfl⟩
theorem qX1_addRow_29 : DI cX1_addRow 29 (.aload_n 0) 1 30 := ⟨by decide +kernel, rfl⟩
theorem qX1_addRow_30 : DI cX1_addRow 30 (.getfield 27) 3 33 := ⟨by decide +kernel, rfl⟩
theorem qX1_addRow_33 : DI cX1_addRow 33 (.aload_n 0) 1 34 := ⟨by decide +kernel, rfl⟩
theorem qX1_addRow_34 : DI cX1_addRow 34 (.getfield 43) 3 37 := ⟨by decide +kernel, rfl⟩
theorem qX1_addRow_37 : DI cX1_addRow 37 (.iload_n 2) 1 38 := ⟨by decide +kernel, rfl⟩
theorem qX1_addRow_38 : DI cX1_addRow 38 (.iastore) 1 39 := ⟨by decide +kernel, rfl⟩
theorem qX1_addRow_39 : DI cX1_addRow 39 (.aload_n 0) 1 40 := ⟨by decide +kernel, rfl⟩
theorem qX1_addRow_40 : DI cX1_addRow 40 (.dup) 1 41 := ⟨by decide +kernel, rfl⟩
theorem qX1_addRow_41 : DI cX1_addRow 41 (.getfield 43) 3 44 := ⟨by decide +kernel, rfl⟩
theorem qX1_addRow_44 : DI cX1_addRow 44 (.iconst 1) 1 45 := ⟨by decide +kernel, rfl⟩
theorem qX1_addRow_45 : DI cX1_addRow 45 (.iadd) 1 46 := ⟨by decide +kernel, rfl⟩
theorem qX1_addRow_46 : DI cX1_addRow 46 (.putfield 43) 3 49 := ⟨by decide +kernel, rfl⟩
theorem qX1_addRow_49 : DI cX1_addRow 49 (.aload_n 0) 1 50 := ⟨by decide +kernel, rfl⟩
theorem qX1_addRow_50 : DI cX1_addRow 50 (.getfield 43) 3 53 := ⟨by decide +kernel, rfl⟩
theorem qX1_addRow_53 : DI cX1_addRow 53 (.ireturn) 1 54 := ⟨by decide +kernel, rfl⟩
theorem qX1_allSeenOn_0 : DI cX1_allSeenOn 0 (.iconst 0) 1 1 := ⟨by decide +kernel, rfl⟩
theorem qX1_allSeenOn_1 : DI cX1_allSeenOn 1 (.istore_n 2) 1 2 := ⟨by decide +kernel, rfl⟩
theorem qX1_allSeenOn_2 : DI cX1_allSeenOn 2 (.iload_n 2) 1 3 := ⟨by decide +kernel, rfl⟩
theorem qX1_allSeenOn_3 : DI cX1_allSeenOn 3 (.bipush 12) 2 5 := ⟨by decide +kernel, rfl⟩
theorem qX1_allSeenOn_5 : DJ cX1_allSeenOn 5 (.if_icmp .gt) 67 8 := ⟨62, by decide +kernel, by decide, rfl⟩
theorem qX1_allSeenOn_8 : DI cX1_allSeenOn 8 (.iconst 0) 1 9 := ⟨by decide +kernel, rfl⟩
theorem qX1_allSeenOn_9 : DI cX1_allSeenOn 9 (.istore_n 3) 1 10 := ⟨by decide +kernel, rfl⟩
theorem qX1_allSeenOn_10 : DI cX1_allSeenOn 10 (.iload_n 3) 1 11 := ⟨by decide +kernel, rfl⟩
theorem qX1_allSeenOn_11 : DI cX1_allSeenOn 11 (.aload_n 0) 1 12 := ⟨by decide +kernel, rfl⟩
theorem qX1_allSeenOn_12 : DI cX1_allSeenOn 12 (.getfield 30) 3 15 := ⟨by decide +kernel, rfl⟩
theorem qX1_allSeenOn_15 : DJ cX1_allSeenOn 15 (.if_icmp .ge) 56 18 := ⟨41, by decide +kernel, by decide, rfl⟩
theorem qX1_allSeenOn_18 : DI cX1_allSeenOn 18 (.aload_n 0) 1 19 := ⟨by decide +kernel, rfl⟩
theorem qX1_allSeenOn_19 : DI cX1_allSeenOn 19 (.getfield 18) 3 22 := ⟨by decide +kernel, rfl⟩
theorem qX1_allSeenOn_22 : DI cX1_allSeenOn 22 (.iload_n 3) 1 23 := ⟨by decide +kernel, rfl⟩
theorem qX1_allSeenOn_23 : DI cX1_allSeenOn 23 (.iaload) 1 24 := ⟨by decide +kernel, rfl⟩
theorem qX1_allSeenOn_24 : DI cX1_allSeenOn 24 (.iload_n 2) 1 25 := ⟨by decide +kernel, rfl⟩
theorem qX1_allSeenOn_25 : DJ cX1_allSeenOn 25 (.if_icmp .ne) 50 28 := ⟨25, by decide +kernel, by decide, rfl⟩
theorem qX1_allSeenOn_28 : DI cX1_allSeenOn 28 (.aload_n 1) 1 29 := ⟨by decide +kernel, rfl⟩
theorem qX1_allSeenOn_29 : DI cX1_allSeenOn 29 (.aload_n 0) 1 30 := ⟨by decide +kernel, rfl⟩
theorem qX1_allSeenOn_30 : DI cX1_allSeenOn 30 (.getfield 11) 3 33 := ⟨by decide +kernel, rfl⟩
theorem qX1_allSeenOn_33 : DI cX1_allSeenOn 33 (.iload_n 3) 1 34 := ⟨by decide +kernel, rfl⟩
theorem qX1_allSeenOn_34 : DI cX1_allSeenOn 34 (.iaload) 1 35 := ⟨by decide +kernel, rfl⟩
theorem qX1_allSeenOn_35 : DI cX1_allSeenOn 35 (.iconst 0) 1 36 := ⟨by decide +kernel, rfl⟩
theorem qX1_allSeenOn_36 : DI cX1_allSeenOn 36 (.invokevirtual 46) 3 39 := ⟨by decide +kernel, rfl⟩
theorem qX1_allSeenOn_39 : DI cX1_allSeenOn 39 (.aload_n 0) 1 40 := ⟨by decide +kernel, rfl⟩
theorem qX1_allSeenOn_40 : DI cX1_allSeenOn 40 (.getfield 15) 3 43 := ⟨by decide +kernel, rfl⟩
theorem qX1_allSeenOn_43 : DI cX1_allSeenOn 43 (.iload_n 3) 1 44 := ⟨by decide +kernel, rfl⟩
theorem qX1_allSeenOn_44 : DI cX1_allSeenOn 44 (.iaload) 1 45 := ⟨by decide +kernel, rfl⟩
theorem qX1_allSeenOn_45 : DJ cX1_allSeenOn 45 (.if_icmp .eq) 50 48 := ⟨5, by decide +kernel, by decide, rfl⟩
theorem qX1_allSeenOn_48 : DI cX1_allSeenOn 48 (.iconst 0) 1 49 := ⟨by decide +kernel, rfl⟩
theorem qX1_allSeenOn_49 : DI cX1_allSeenOn 49 (.ireturn) 1 50 := ⟨by decide +kernel, rfl⟩
theorem qX1_allSeenOn_50 : DI cX1_allSeenOn 50 (.iinc 3 1) 3 53 := ⟨by decide +kernel, rfl⟩
theorem qX1_allSeenOn_53 : DJ cX1_allSeenOn 53 .goto 10 56 := ⟨(-43), by decide +kernel, by decide, rfl⟩
theorem qX1_allSeenOn_56 : DI cX1_allSeenOn 56 (.aload_n 1) 1 57 := ⟨by decide +kernel, rfl⟩
theorem qX1_allSeenOn_57 : DI cX1_allSeenOn 57 (.iconst 0) 1 58 := ⟨by decide +kernel, rfl⟩
theorem qX1_allSeenOn_58 : DI cX1_allSeenOn 58 (.invokevirtual 52) 3 61 := ⟨by decide +kernel, rfl⟩
theorem qX1_allSeenOn_61 : DI cX1_allSeenOn 61 (.iinc 2 1) 3 64 := ⟨by decide +kernel, rfl⟩
theorem qX1_allSeenOn_64 : DJ cX1_allSeenOn 64 .goto 2 67 := ⟨(-62), by decide +kernel, by decide, rfl⟩
theorem qX1_allSeenOn_67 : DI cX1_allSeenOn 67 (.iconst 1) 1 68 := ⟨by decide +kernel, rfl⟩
theorem qX1_allSeenOn_68 : DI cX1_allSeenOn 68 (.ireturn) 1 69 := ⟨by decide +kernel, rfl⟩
theorem qX1_danceOn_0 : DI cX1_danceOn 0 (.iconst 0) 1 1 := ⟨by decide +kernel, rfl⟩
theorem qX1_danceOn_1 : DI cX1_danceOn 1 (.istore_n 2) 1 2 := ⟨by decide +kernel, rfl⟩
theorem qX1_danceOn_2 : DI cX1_danceOn 2 (.iload_n 2) 1 3 := ⟨by decide +kernel, rfl⟩
theorem qX1_danceOn_3 : DI cX1_danceOn 3 (.aload_n 0) 1 4 := ⟨by decide +kernel, rfl⟩
theorem qX1_danceOn_4 : DI cX1_danceOn 4 (.getfield 40) 3 7 := ⟨by decide +kernel, rfl⟩
theorem qX1_danceOn_7 : DJ cX1_danceOn 7 (.if_icmp .ge) 52 10 := ⟨45, by decide +kernel, by decide, rfl⟩
theorem qX1_danceOn_10 : DI cX1_danceOn 10 (.aload_n 0) 1 11 := ⟨by decide +kernel, rfl⟩
theorem qX1_danceOn_11 : DI cX1_danceOn 11 (.getfield 21) 3 14 := ⟨by decide +kernel, rfl⟩
theorem qX1_danceOn_14 : DI cX1_danceOn 14 (.iload_n 2) 1 15 := ⟨by decide +kernel, rfl⟩
theorem qX1_danceOn_15 : DI cX1_danceOn 15 (.iaload) 1 16 := ⟨by decide +kernel, rfl⟩
theorem qX1_danceOn_16 : DI cX1_danceOn 16 (.iconst 2) 1 17 := ⟨by decide +kernel, rfl⟩
theorem qX1_danceOn_17 : DJ cX1_danceOn 17 (.if_icmp .ne) 27 20 := ⟨10, by decide +kernel, by decide, rfl⟩
theorem qX1_danceOn_20 : DI cX1_danceOn 20 (.aload_n 1) 1 21 := ⟨by decide +kernel, rfl⟩
theorem qX1_danceOn_21 : DI cX1_danceOn 21 (.invokestatic 56) 3 24 := ⟨by decide +kernel, rfl⟩
theorem qX1_danceOn_24 : DJ cX1_danceOn 24 .goto 46 27 := ⟨22, by decide +kernel, by decide, rfl⟩
theorem qX1_danceOn_27 : DI cX1_danceOn 27 (.aload_n 1) 1 28 := ⟨by decide +kernel, rfl⟩
theorem qX1_danceOn_28 : DI cX1_danceOn 28 (.aload_n 0) 1 29 := ⟨by decide +kernel, rfl⟩
theorem qX1_danceOn_29 : DI cX1_danceOn 29 (.getfield 21) 3 32 := ⟨by decide +kernel, rfl⟩
theorem qX1_danceOn_32 : DI cX1_danceOn 32 (.iload_n 2) 1 33 := ⟨by decide +kernel, rfl⟩
theorem qX1_danceOn_33 : DI cX1_danceOn 33 (.iaload) 1 34 := ⟨by decide +kernel, rfl⟩
theorem qX1_danceOn_34 : DI cX1_danceOn 34 (.iconst 1) 1 35 := ⟨by decide +kernel, rfl⟩
theorem qX1_danceOn_35 : DJ cX1_danceOn 35 (.if_icmp .ne) 42 38 := ⟨7, by decide +kernel, by decide, rfl⟩
theorem qX1_danceOn_38 : DI cX1_danceOn 38 (.iconst 1) 1 39 := ⟨by decide +kernel, rfl⟩
theorem qX1_danceOn_39 : DJ cX1_danceOn 39 .goto 43 42 := ⟨4, by decide +kernel, by decide, rfl⟩
theorem qX1_danceOn_42 : DI cX1_danceOn 42 (.iconst 0) 1 43 := ⟨by decide +kernel, rfl⟩
theorem qX1_danceOn_43 : DI cX1_danceOn 43 (.invokevirtual 52) 3 46 := ⟨by decide +kernel, rfl⟩
theorem qX1_danceOn_46 : DI cX1_danceOn 46 (.iinc 2 1) 3 49 := ⟨by decide +kernel, rfl⟩
theorem qX1_danceOn_49 : DJ cX1_danceOn 49 .goto 2 52 := ⟨(-47), by decide +kernel, by decide, rfl⟩
theorem qX1_danceOn_52 : DI cX1_danceOn 52 (.return_) 1 53 := ⟨by decide +kernel, rfl⟩
theorem qX1_followRound_0 : DI cX1_followRound 0 (.iconst 0) 1 1 := ⟨by decide +kernel, rfl⟩
theorem qX1_followRound_1 : DI cX1_followRound 1 (.istore_n 1) 1 2 := ⟨by decide +kernel, rfl⟩
theorem qX1_followRound_2 : DI cX1_followRound 2 (.iload_n 1) 1 3 := ⟨by decide +kernel, rfl⟩
theorem qX1_followRound_3 : DI cX1_followRound 3 (.aload_n 0) 1 4 := ⟨by decide +kernel, rfl⟩
theorem qX1_followRound_4 : DI cX1_followRound 4 (.getfield 60) 3 7 := ⟨by decide +kernel, rfl⟩
theorem qX1_followRound_7 : DJ cX1_followRound 7 (.if_icmp .ge) 38 10 := ⟨31, by decide +kernel, by decide, rfl⟩
theorem qX1_followRound_10 : DI cX1_followRound 10 (.aload_n 0) 1 11 := ⟨by decide +kernel, rfl⟩
theorem qX1_followRound_11 : DI cX1_followRound 11 (.iload_n 1) 1 12 := ⟨by decide +kernel, rfl⟩
theorem qX1_followRound_12 : DI cX1_followRound 12 (.iload_n 1) 1 13 := ⟨by decide +kernel, rfl⟩
theorem qX1_followRound_13 : DI cX1_followRound 13 (.iconst 1) 1 14 := ⟨by decide +kernel, rfl⟩
theorem qX1_followRound_14 : DI cX1_followRound 14 (.iadd) 1 15 := ⟨by decide +kernel, rfl⟩
theorem qX1_followRound_15 : DI cX1_followRound 15 (.aload_n 0) 1 16 := ⟨by decide +kernel, rfl⟩
theorem qX1_followRound_16 : DI cX1_followRound 16 (.getfield 60) 3 19 := ⟨by decide +kernel, rfl⟩
theorem qX1_followRound_19 : DJ cX1_followRound 19 (.if_icmp .ge) 28 22 := ⟨9, by decide +kernel, by decide, rfl⟩
theorem qX1_followRound_22 : DI cX1_followRound 22 (.iload_n 1) 1 23 := ⟨by decide +kernel, rfl⟩
theorem qX1_followRound_23 : DI cX1_followRound 23 (.iconst 1) 1 24 := ⟨by decide +kernel, rfl⟩
theorem qX1_followRound_24 : DI cX1_followRound 24 (.iadd) 1 25 := ⟨by decide +kernel, rfl⟩
theorem qX1_followRound_25 : DJ cX1_followRound 25 .goto 29 28 := ⟨4, by decide +kernel, by decide, rfl⟩
theorem qX1_followRound_28 : DI cX1_followRound 28 (.iconst 0) 1 29 := ⟨by decide +kernel, rfl⟩
theorem qX1_followRound_29 : DI cX1_followRound 29 (.invokevirtual 63) 3 32 := ⟨by decide +kernel, rfl⟩
theorem qX1_followRound_32 : DI cX1_followRound 32 (.iinc 1 1) 3 35 := ⟨by decide +kernel, rfl⟩
theorem qX1_followRound_35 : DJ cX1_followRound 35 .goto 2 38 := ⟨(-33), by decide +kernel, by decide, rfl⟩
theorem qX1_followRound_38 : DI cX1_followRound 38 (.return_) 1 39 := ⟨by decide +kernel, rfl⟩
theorem qX1_firstWrongRow_0 : DI cX1_firstWrongRow 0 (.iconst 0) 1 1 := ⟨by decide +kernel, rfl⟩
theorem qX1_firstWrongRow_1 : DI cX1_firstWrongRow 1 (.istore_n 2) 1 2 := ⟨by decide +kernel, rfl⟩
theorem qX1_firstWrongRow_2 : DI cX1_firstWrongRow 2 (.iload_n 2) 1 3 := ⟨by decide +kernel, rfl⟩
theorem qX1_firstWrongRow_3 : DI cX1_firstWrongRow 3 (.aload_n 0) 1 4 := ⟨by decide +kernel, rfl⟩
theorem qX1_firstWrongRow_4 : DI cX1_firstWrongRow 4 (.getfield 43) 3 7 := ⟨by decide +kernel, rfl⟩
theorem qX1_firstWrongRow_7 : DJ cX1_firstWrongRow 7 (.if_icmp .ge) 38 10 := ⟨31, by decide +kernel, by decide, rfl⟩
theorem qX1_firstWrongRow_10 : DI cX1_firstWrongRow 10 (.aload_n 1) 1 11 := ⟨by decide +kernel, rfl⟩
theorem qX1_firstWrongRow_11 : DI cX1_firstWrongRow 11 (.aload_n 0) 1 12 := ⟨by decide +kernel, rfl⟩
theorem qX1_firstWrongRow_12 : DI cX1_firstWrongRow 12 (.getfield 24) 3 15 := ⟨by decide +kernel, rfl⟩
theorem qX1_firstWrongRow_15 : DI cX1_firstWrongRow 15 (.iload_n 2) 1 16 := ⟨by decide +kernel, rfl⟩
theorem qX1_firstWrongRow_16 : DI cX1_firstWrongRow 16 (.iaload) 1 17 := ⟨by decide +kernel, rfl⟩
theorem qX1_firstWrongRow_17 : DI cX1_firstWrongRow 17 (.iconst 0) 1 18 := ⟨by decide +kernel, rfl⟩
theorem qX1_firstWrongRow_18 : DI cX1_firstWrongRow 18 (.invokevirtual 46) 3 21 := ⟨by decide +kernel, rfl⟩
theorem qX1_firstWrongRow_21 : DI cX1_firstWrongRow 21 (.aload_n 0) 1 22 := ⟨by decide +kernel, rfl⟩
theorem qX1_firstWrongRow_22 : DI cX1_firstWrongRow 22 (.getfield 27) 3 25 := ⟨by decide +kernel, rfl⟩
theorem qX1_firstWrongRow_25 : DI cX1_firstWrongRow 25 (.iload_n 2) 1 26 := ⟨by decide +kernel, rfl⟩
theorem qX1_firstWrongRow_26 : DI cX1_firstWrongRow 26 (.iaload) 1 27 := ⟨by decide +kernel, rfl⟩
theorem qX1_firstWrongRow_27 : DJ cX1_firstWrongRow 27 (.if_icmp .eq) 32 30 := ⟨5, by decide +kernel, by decide, rfl⟩
theorem qX1_firstWrongRow_30 : DI cX1_firstWrongRow 30 (.iload_n 2) 1 31 := ⟨by decide +kernel, rfl⟩
theorem qX1_firstWrongRow_31 : DI cX1_firstWrongRow 31 (.ireturn) 1 32 := ⟨by decide +kernel, rfl⟩
theorem qX1_firstWrongRow_32 : DI cX1_firstWrongRow 32 (.iinc 2 1) 3 35 := ⟨by decide +kernel, rfl⟩
theorem qX1_firstWrongRow_35 : DJ cX1_firstWrongRow 35 .goto 2 38 := ⟨(-33), by decide +kernel, by decide, rfl⟩
theorem qX1_firstWrongRow_38 : DI cX1_firstWrongRow 38 (.bipush (-5)) 2 40 := ⟨by decide +kernel, rfl⟩
theorem qX1_firstWrongRow_40 : DI cX1_firstWrongRow 40 (.ireturn) 1 41 := ⟨by decide +kernel, rfl⟩
theorem qX2_become_0 : DI cX2_become 0 (.aload_n 0) 1 1 := ⟨by decide +kernel, rfl⟩
theorem qX2_become_1 : DI cX2_become 1 (.aload_n 1) 1 2 := ⟨by decide +kernel, rfl⟩
theorem qX2_become_2 : DI cX2_become 2 (.getfield 34) 3 5 := ⟨by decide +kernel, rfl⟩
theorem qX2_become_5 : DI cX2_become 5 (.putfield 34) 3 8 := ⟨by decide +kernel, rfl⟩
theorem qX2_become_8 : DI cX2_become 8 (.aload_n 0) 1 9 := ⟨by decide +kernel, rfl⟩
theorem qX2_become_9 : DI cX2_become 9 (.aload_n 1) 1 10 := ⟨by decide +kernel, rfl⟩
theorem qX2_become_10 : DI cX2_become 10 (.getfield 38) 3 13 := ⟨by decide +kernel, rfl⟩
theorem qX2_become_13 : DI cX2_become 13 (.putfield 38) 3 16 := ⟨by decide +kernel, rfl⟩
theorem qX2_become_16 : DI cX2_become 16 (.aload_n 0) 1 17 := ⟨by decide +kernel, rfl⟩
theorem qX2_become_17 : DI cX2_become 17 (.aload_n 1) 1 18 := ⟨by decide +kernel, rfl⟩
theorem qX2_become_18 : DI cX2_become 18 (.getfield 30) 3 21 := ⟨by decide +kernel, rfl⟩
theorem qX2_become_21 : DI cX2_become 21 (.putfield 30) 3 24 := ⟨by decide +kernel, rfl⟩
theorem qX2_become_24 : DI cX2_become 24 (.aload_n 1) 1 25 := ⟨by decide +kernel, rfl⟩
theorem qX2_become_25 : DI cX2_become 25 (.getfield 9) 3 28 := ⟨by decide +kernel, rfl⟩
theorem qX2_become_28 : DI cX2_become 28 (.iconst 0) 1 29 := ⟨by decide +kernel, rfl⟩
theorem qX2_become_29 : DI cX2_become 29 (.aload_n 0) 1 30 := ⟨by decide +kernel, rfl⟩
theorem qX2_become_30 : DI cX2_become 30 (.getfield 9) 3 33 := ⟨by decide +kernel, rfl⟩
theorem qX2_become_33 : DI cX2_become 33 (.iconst 0) 1 34 := ⟨by decide +kernel, rfl⟩
theorem qX2_become_34 : DI cX2_become 34 (.bipush 6) 2 36 := ⟨by decide +kernel, rfl⟩
theorem qX2_become_36 : DI cX2_become 36 (.invokestatic 41) 3 39 := ⟨by decide +kernel, rfl⟩
theorem qX2_become_39 : DI cX2_become 39 (.aload_n 1) 1 40 := ⟨by decide +kernel, rfl⟩
theorem qX2_become_40 : DI cX2_become 40 (.getfield 15) 3 43 := ⟨by decide +kernel, rfl⟩
theorem qX2_become_43 : DI cX2_become 43 (.iconst 0) 1 44 := ⟨by decide +kernel, rfl⟩
theorem qX2_become_44 : DI cX2_become 44 (.aload_n 0) 1 45 := ⟨by decide +kernel, rfl⟩
theorem qX2_become_45 : DI cX2_become 45 (.getfield 15) 3 48 := ⟨by decide +kernel, rfl⟩
theorem qX2_become_48 : DI cX2_become 48 (.iconst 0) 1 49 := ⟨by decide +kernel, rfl⟩
theorem qX2_become_49 : DI cX2_become 49 (.bipush 6) 2 51 := ⟨by decide +kernel, rfl⟩
theorem qX2_become_51 : DI cX2_become 51 (.invokestatic 41) 3 54 := ⟨by decide +kernel, rfl⟩
theorem qX2_become_54 : DI cX2_become 54 (.aload_n 1) 1 55 := ⟨by decide +kernel, rfl⟩
theorem qX2_become_55 : DI cX2_become 55 (.getfield 18) 3 58 := ⟨by decide +kernel, rfl⟩
theorem qX2_become_58 : DI cX2_become 58 (.iconst 0) 1 59 := ⟨by decide +kernel, rfl⟩
theorem qX2_become_59 : DI cX2_become 59 (.aload_n 0) 1 60 := ⟨by decide +kernel, rfl⟩
theorem qX2_become_60 : DI cX2_become 60 (.getfield 18) 3 63 := ⟨by decide +kernel, rfl⟩
theorem qX2_become_63 : DI cX2_become 63 (.iconst 0) 1 64 := ⟨by decide +kernel, rfl⟩
theorem qX2_become_64 : DI cX2_become 64 (.bipush 6) 2 66 := ⟨by decide +kernel, rfl⟩
theorem qX2_become_66 : DI cX2_become 66 (.invokestatic 41) 3 69 := ⟨by decide +kernel, rfl⟩
theorem qX2_become_69 : DI cX2_become 69 (.aload_n 1) 1 70 := ⟨by decide +kernel, rfl⟩
theorem qX2_become_70 : DI cX2_become 70 (.getfield 21) 3 73 := ⟨by decide +kernel, rfl⟩
theorem qX2_become_73 : DI cX2_become 73 (.iconst 0) 1 74 := ⟨by decide +kernel, rfl⟩
theorem qX2_become_74 : DI cX2_become 74 (.aload_n 0) 1 75 := ⟨by decide +kernel, rfl⟩
theorem qX2_become_75 : DI cX2_become 75 (.getfield 21) 3 78 := ⟨by decide +kernel, rfl⟩
theorem qX2_become_78 : DI cX2_become 78 (.iconst 0) 1 79 := ⟨by decide +kernel, rfl⟩
theorem qX2_become_79 : DI cX2_become 79 (.bipush 48) 2 81 := ⟨by decide +kernel, rfl⟩
theorem qX2_become_81 : DI cX2_become 81 (.invokestatic 41) 3 84 := ⟨by decide +kernel, rfl⟩
theorem qX2_become_84 : DI cX2_become 84 (.aload_n 1) 1 85 := ⟨by decide +kernel, rfl⟩
theorem qX2_become_85 : DI cX2_become 85 (.getfield 24) 3 88 := ⟨by decide +kernel, rfl⟩
theorem qX2_become_88 : DI cX2_become 88 (.iconst 0) 1 89 := ⟨by decide +kernel, rfl⟩
theorem qX2_become_89 : DI cX2_become 89 (.aload_n 0) 1 90 := ⟨by decide +kernel, rfl⟩
theorem qX2_become_90 : DI cX2_become 90 (.getfield 24) 3 93 := ⟨by decide +kernel, rfl⟩
theorem qX2_become_93 : DI cX2_become 93 (.iconst 0) 1 94 := ⟨by decide +kernel, rfl⟩
theorem qX2_become_94 : DI cX2_become 94 (.bipush 24) 2 96 := ⟨by decide +kernel, rfl⟩
theorem qX2_become_96 : DI cX2_become 96 (.invokestatic 41) 3 99 := ⟨by decide +kernel, rfl⟩
theorem qX2_become_99 : DI cX2_become 99 (.return_) 1 100 := ⟨by decide +kernel, rfl⟩
theorem qX2_has_0 : DI cX2_has 0 (.iload_n 1) 1 1 := ⟨by decide +kernel, rfl⟩
theorem qX2_has_1 : DJ cX2_has 1 (.ifCond .lt) 22 4 := ⟨21, by decide +kernel, by decide, rfl⟩
theorem qX2_has_4 : DI cX2_has 4 (.iload_n 1) 1 5 := ⟨by decide +kernel, rfl⟩
theorem qX2_has_5 : DI cX2_has 5 (.aload_n 0) 1 6 := ⟨by decide +kernel, rfl⟩
theorem qX2_has_6 : DI cX2_has 6 (.getfield 34) 3 9 := ⟨by decide +kernel, rfl⟩
theorem qX2_has_9 : DJ cX2_has 9 (.if_icmp .ge) 22 12 := ⟨13, by decide +kernel, by decide, rfl⟩
theorem qX2_has_12 : DI cX2_has 12 (.iload_n 1) 1 13 := ⟨by decide +kernel, rfl⟩
theorem qX2_has_13 : DI cX2_has 13 (.bipush 6) 2 15 := ⟨by decide +kernel, rfl⟩
theorem qX2_has_15 : DJ cX2_has 15 (.if_icmp .ge) 22 18 := ⟨7, by decide +kernel, by decide, rfl⟩
theorem qX2_has_18 : DI cX2_has 18 (.iconst 1) 1 19 := ⟨by decide +kernel, rfl⟩
theorem qX2_has_19 : DJ cX2_has 19 .goto 23 22 := ⟨4, by decide +kernel, by decide, rfl⟩
theorem qX2_has_22 : DI cX2_has 22 (.iconst 0) 1 23 := ⟨by decide +kernel, rfl⟩
theorem qX2_has_23 : DI cX2_has 23 (.ireturn) 1 24 := ⟨by decide +kernel, rfl⟩
theorem qX2_hasPlace_0 : DI cX2_hasPlace 0 (.iload_n 1) 1 1 := ⟨by decide +kernel, rfl⟩
theorem qX2_hasPlace_1 : DJ cX2_hasPlace 1 (.ifCond .lt) 19 4 := ⟨18, by decide +kernel, by decide, rfl⟩
theorem qX2_hasPlace_4 : DI cX2_hasPlace 4 (.iload_n 1) 1 5 := ⟨by decide +kernel, rfl⟩
theorem qX2_hasPlace_5 : DI cX2_hasPlace 5 (.aload_n 0) 1 6 := ⟨by decide +kernel, rfl⟩
theorem qX2_hasPlace_6 : DI cX2_hasPlace 6 (.getfield 30) 3 9 := ⟨by decide +kernel, rfl⟩
theorem qX2_hasPlace_9 : DI cX2_hasPlace 9 (.getfield 47) 3 12 := ⟨by decide +kernel, rfl⟩
theorem qX2_hasPlace_12 : DJ cX2_hasPlace 12 (.if_icmp .ge) 19 15 := ⟨7, by decide +kernel, by decide, rfl⟩
theorem qX2_hasPlace_15 : DI cX2_hasPlace 15 (.iconst 1) 1 16 := ⟨by decide +kernel, rfl⟩
theorem qX2_hasPlace_16 : DJ cX2_hasPlace 16 .goto 20 19 := ⟨4, by decide +kernel, by decide, rfl⟩
theorem qX2_hasPlace_19 : DI cX2_hasPlace 19 (.iconst 0) 1 20 := ⟨by decide +kernel, rfl⟩
theorem qX2_hasPlace_20 : DI cX2_hasPlace 20 (.ireturn) 1 21 := ⟨by decide +kernel, rfl⟩
theorem qX2_wasOf_0 : DI cX2_wasOf 0 (.aload_n 0) 1 1 := ⟨by decide +kernel, rfl⟩
theorem qX2_wasOf_1 : DI cX2_wasOf 1 (.iload_n 1) 1 2 := ⟨by decide +kernel, rfl⟩
theorem qX2_wasOf_2 : DI cX2_wasOf 2 (.invokevirtual 52) 3 5 := ⟨by decide +kernel, rfl⟩
theorem qX2_wasOf_5 : DJ cX2_wasOf 5 (.ifCond .eq) 32 8 := ⟨27, by decide +kernel, by decide, rfl⟩
theorem qX2_wasOf_8 : DI cX2_wasOf 8 (.iload_n 2) 1 9 := ⟨by decide +kernel, rfl⟩
theorem qX2_wasOf_9 : DJ cX2_wasOf 9 (.ifCond .lt) 32 12 := ⟨23, by decide +kernel, by decide, rfl⟩
theorem qX2_wasOf_12 : DI cX2_wasOf 12 (.iload_n 2) 1 13 := ⟨by decide +kernel, rfl⟩
theorem qX2_wasOf_13 : DI cX2_wasOf 13 (.bipush 8) 2 15 := ⟨by decide +kernel, rfl⟩
theorem qX2_wasOf_15 : DJ cX2_wasOf 15 (.if_icmp .ge) 32 18 := ⟨17, by decide +kernel, by decide, rfl⟩
theorem qX2_wasOf_18 : DI cX2_wasOf 18 (.aload_n 0) 1 19 := ⟨by decide +kernel, rfl⟩
theorem qX2_wasOf_19 : DI cX2_wasOf 19 (.getfield 21) 3 22 := ⟨by decide +kernel, rfl⟩
theorem qX2_wasOf_22 : DI cX2_wasOf 22 (.iload_n 1) 1 23 := ⟨by decide +kernel, rfl⟩
theorem qX2_wasOf_23 : DI cX2_wasOf 23 (.bipush 8) 2 25 := ⟨by decide +kernel, rfl⟩
theorem qX2_wasOf_25 : DI cX2_wasOf 25 (.imul) 1 26 := ⟨by decide +kernel, rfl⟩
theorem qX2_wasOf_26 : DI cX2_wasOf 26 (.iload_n 2) 1 27 := ⟨by decide +kernel, rfl⟩
theorem qX2_wasOf_27 : DI cX2_wasOf 27 (.iadd) 1 28 := ⟨by decide +kernel, rfl⟩
theorem qX2_wasOf_28 : DI cX2_wasOf 28 (.iaload) 1 29 := ⟨by decide +kernel, rfl⟩
theorem qX2_wasOf_29 : DJ cX2_wasOf 29 .goto 33 32 := ⟨4, by decide +kernel, by decide, rfl⟩
theorem qX2_wasOf_32 : DI cX2_wasOf 32 (.iconst 0) 1 33 := ⟨by decide +kernel, rfl⟩
theorem qX2_wasOf_33 : DI cX2_wasOf 33 (.ireturn) 1 34 := ⟨by decide +kernel, rfl⟩
theorem qX2_join_0 : DI cX2_join 0 (.aload_n 0) 1 1 := ⟨by decide +kernel, rfl⟩
theorem qX2_join_1 : DI cX2_join 1 (.getfield 34) 3 4 := ⟨by decide +kernel, rfl⟩
theorem qX2_join_4 : DJ cX2_join 4 (.ifCond .lt) 16 7 := ⟨12, by decide +kernel, by decide, rfl⟩
theorem qX2_join_7 : DI cX2_join 7 (.aload_n 0) 1 8 := ⟨by decide +kernel, rfl⟩
theorem qX2_join_8 : DI cX2_join 8 (.getfield 34) 3 11 := ⟨by decide +kernel, rfl⟩
theorem qX2_join_11 : DI cX2_join 11 (.bipush 6) 2 13 := ⟨by decide +kernel, rfl⟩
theorem qX2_join_13 : DJ cX2_join 13 (.if_icmp .lt) 19 16 := ⟨6, by decide +kernel, by decide, rfl⟩
theorem qX2_join_16 : DI cX2_join 16 (.bipush (-4)) 2 18 := ⟨by decide +kernel, rfl⟩
theorem qX2_join_18 : DI cX2_join 18 (.ireturn) 1 19 := ⟨by decide +kernel, rfl⟩
theorem qX2_join_19 : DI cX2_join 19 (.aload_n 0) 1 20 := ⟨by decide +kernel, rfl⟩
theorem qX2_join_20 : DI cX2_join 20 (.getfield 34) 3 23 := ⟨by decide +kernel, rfl⟩
theorem qX2_join_23 : DI cX2_join 23 (.istore 4) 2 25 := ⟨by decide +kernel, rfl⟩
theorem qX2_join_25 : DI cX2_join 25 (.aload_n 0) 1 26 := ⟨by decide +kernel, rfl⟩
theorem qX2_join_26 : DI cX2_join 26 (.dup) 1 27 := ⟨by decide +kernel, rfl⟩
theorem qX2_join_27 : DI cX2_join 27 (.getfield 34) 3 30 := ⟨by decide +kernel, rfl⟩
theorem qX2_join_30 : DI cX2_join 30 (.iconst 1) 1 31 := ⟨by decide +kernel, rfl⟩
theorem qX2_join_31 : DI cX2_join 31 (.iadd) 1 32 := ⟨by decide +kernel, rfl⟩
theorem qX2_join_32 : DI cX2_join 32 (.putfield 34) 3 35 := ⟨by decide +kernel, rfl⟩
theorem qX2_join_35 : DI cX2_join 35 (.aload_n 0) 1 36 := ⟨by decide +kernel, rfl⟩
theorem qX2_join_36 : DI cX2_join 36 (.getfield 9) 3 39 := ⟨by decide +kernel, rfl⟩
theorem qX2_join_39 : DI cX2_join 39 (.iload 4) 2 41 := ⟨by decide +kernel, rfl⟩
theorem qX2_join_41 : DI cX2_join 41 (.iload_n 1) 1 42 := ⟨by decide +kernel, rfl⟩
theorem qX2_join_42 : DI cX2_join 42 (.iastore) 1 43 := ⟨by decide +kernel, rfl⟩
theorem qX2_join_43 : DI cX2_join 43 (.aload_n 0) 1 44 := ⟨by decide +kernel, rfl⟩
theorem qX2_join_44 : DI cX2_join 44 (.getfield 15) 3 47 := ⟨by decide +kernel, rfl⟩
theorem qX2_join_47 : DI cX2_join 47 (.iload 4) 2 49 := ⟨by decide +kernel, rfl⟩
theorem qX2_join_49 : DI cX2_join 49 (.iload_n 2) 1 50 := ⟨by decide +kernel, rfl⟩
theorem qX2_join_50 : DI cX2_join 50 (.iastore) 1 51 := ⟨by decide +kernel, rfl⟩
theorem qX2_join_51 : DI cX2_join 51 (.aload_n 0) 1 52 := ⟨by decide +kernel, rfl⟩
theorem qX2_join_52 : DI cX2_join 52 (.getfield 18) 3 55 := ⟨by decide +kernel, rfl⟩
theorem qX2_join_55 : DI cX2_join 55 (.iload 4) 2 57 := ⟨by decide +kernel, rfl⟩
theorem qX2_join_57 : DI cX2_join 57 (.iload 4) 2 59 := ⟨by decide +kernel, rfl⟩
theorem qX2_join_59 : DI cX2_join 59 (.iastore) 1 60 := ⟨by decide +kernel, rfl⟩
theorem qX2_join_60 : DI cX2_join 60 (.iconst 0) 1 61 := ⟨by decide +kernel, rfl⟩
theorem qX2_join_61 : DI cX2_join 61 (.istore 5) 2 63 := ⟨by decide +kernel, rfl⟩
theorem qX2_join_63 : DI cX2_join 63 (.iload 5) 2 65 := ⟨by decide +kernel, rfl⟩
theorem qX2_join_65 : DI cX2_join 65 (.iconst 4) 1 66 := ⟨by decide +kernel, rfl⟩
theorem qX2_join_66 : DJ cX2_join 66 (.if_icmp .ge) 88 69 := ⟨22, by decide +kernel, by decide, rfl⟩
theorem qX2_join_69 : DI cX2_join 69 (.aload_n 0) 1 70 := ⟨by decide +kernel, rfl⟩
theorem qX2_join_70 : DI cX2_join 70 (.getfield 24) 3 73 := ⟨by decide +kernel, rfl⟩
theorem qX2_join_73 : DI cX2_join 73 (.iload 4) 2 75 := ⟨by decide +kernel, rfl⟩
theorem qX2_join_75 : DI cX2_join 75 (.iconst 4) 1 76 := ⟨by decide +kernel, rfl⟩
theorem qX2_join_76 : DI cX2_join 76 (.imul) 1 77 := ⟨by decide +kernel, rfl⟩
theorem qX2_join_77 : DI cX2_join 77 (.iload 5) 2 79 := ⟨by decide +kernel, rfl⟩
theorem qX2_join_79 : DI cX2_join 79 (.iadd) 1 80 := ⟨by decide +kernel, rfl⟩
theorem qX2_join_80 : DI cX2_join 80 (.iconst 0) 1 81 := ⟨by decide +kernel, rfl⟩
theorem qX2_join_81 : DI cX2_join 81 (.iastore) 1 82 := ⟨by decide +kernel, rfl⟩
theorem qX2_join_82 : DI cX2_join 82 (.iinc 5 1) 3 85 := ⟨by decide +kernel, rfl⟩
theorem qX2_join_85 : DJ cX2_join 85 .goto 63 88 := ⟨(-22), by decide +kernel, by decide, rfl⟩
theorem qX2_join_88 : DI cX2_join 88 (.aload_n 0) 1 89 := ⟨by decide +kernel, rfl⟩
theorem qX2_join_89 : DI cX2_join 89 (.iload 4) 2 91 := ⟨by decide +kernel, rfl⟩
theorem qX2_join_91 : DI cX2_join 91 (.iload_n 3) 1 92 := ⟨by decide +kernel, rfl⟩
theorem qX2_join_92 : DI cX2_join 92 (.invokevirtual 56) 3 95 := ⟨by decide +kernel, rfl⟩
theorem qX2_join_95 : DI cX2_join 95 (.iload 4) 2 97 := ⟨by decide +kernel, rfl⟩
theorem qX2_join_97 : DI cX2_join 97 (.ireturn) 1 98 := ⟨by decide +kernel, rfl⟩
theorem qX2_follow_0 : DI cX2_follow 0 (.aload_n 0) 1 1 := ⟨by decide +kernel, rfl⟩
theorem qX2_follow_1 : DI cX2_follow 1 (.iload_n 1) 1 2 := ⟨by decide +kernel, rfl⟩
theorem qX2_follow_2 : DI cX2_follow 2 (.invokevirtual 52) 3 5 := ⟨by decide +kernel, rfl⟩
theorem qX2_follow_5 : DJ cX2_follow 5 (.ifCond .eq) 23 8 := ⟨18, by decide +kernel, by decide, rfl⟩
theorem qX2_follow_8 : DI cX2_follow 8 (.aload_n 0) 1 9 := ⟨by decide +kernel, rfl⟩
theorem qX2_follow_9 : DI cX2_follow 9 (.iload_n 2) 1 10 := ⟨by decide +kernel, rfl⟩
theorem qX2_follow_10 : DI cX2_follow 10 (.invokevirtual 52) 3 13 := ⟨by decide +kernel, rfl⟩
theorem qX2_follow_13 : DJ cX2_follow 13 (.ifCond .eq) 23 16 := ⟨10, by decide +kernel, by decide, rfl⟩
theorem qX2_follow_16 : DI cX2_follow 16 (.aload_n 0) 1 17 := ⟨by decide +kernel, rfl⟩
theorem qX2_follow_17 : DI cX2_follow 17 (.getfield 18) 3 20 := ⟨by decide +kernel, rfl⟩
theorem qX2_follow_20 : DI cX2_follow 20 (.iload_n 1) 1 21 := ⟨by decide +kernel, rfl⟩
theorem qX2_follow_21 : DI cX2_follow 21 (.iload_n 2) 1 22 := ⟨by decide +kernel, rfl⟩
theorem qX2_follow_22 : DI cX2_follow 22 (.iastore) 1 23 := ⟨by decide +kernel, rfl⟩
theorem qX2_follow_23 : DI cX2_follow 23 (.return_) 1 24 := ⟨by decide +kernel, rfl⟩
theorem qX2_standAt_0 : DI cX2_standAt 0 (.aload_n 0) 1 1 := ⟨by decide +kernel, rfl⟩
theorem qX2_standAt_1 : DI cX2_standAt 1 (.iload_n 1) 1 2 := ⟨by decide +kernel, rfl⟩
theorem qX2_standAt_2 : DI cX2_standAt 2 (.invokevirtual 52) 3 5 := ⟨by decide +kernel, rfl⟩
theorem qX2_standAt_5 : DJ cX2_standAt 5 (.ifCond .ne) 9 8 := ⟨4, by decide +kernel, by decide, rfl⟩
theorem qX2_standAt_8 : DI cX2_standAt 8 (.return_) 1 9 := ⟨by decide +kernel, rfl⟩
theorem qX2_standAt_9 : DI cX2_standAt 9 (.iconst 0) 1 10 := ⟨by decide +kernel, rfl⟩
theorem qX2_standAt_10 : DI cX2_standAt 10 (.istore_n 3) 1 11 := ⟨by decide +kernel, rfl⟩
theorem qX2_standAt_11 : DI cX2_standAt 11 (.iload_n 3) 1 12 := ⟨by decide +kernel, rfl⟩
theorem qX2_standAt_12 : DI cX2_standAt 12 (.bipush 8) 2 14 := ⟨by decide +kernel, rfl⟩
theorem qX2_standAt_14 : DJ cX2_standAt 14 (.if_icmp .ge) 35 17 := ⟨21, by decide +kernel, by decide, rfl⟩
theorem qX2_standAt_17 : DI cX2_standAt 17 (.aload_n 0) 1 18 := ⟨by decide +kernel, rfl⟩
theorem qX2_standAt_18 : DI cX2_standAt 18 (.getfield 21) 3 21 := ⟨by decide +kernel, rfl⟩
theorem qX2_standAt_21 : DI cX2_standAt 21 (.iload_n 1) 1 22 := ⟨by decide +kernel, rfl⟩
theorem qX2_standAt_22 : DI cX2_standAt 22 (.bipush 8) 2 24 := ⟨by decide +kernel, rfl⟩
theorem qX2_standAt_24 : DI cX2_standAt 24 (.imul) 1 25 := ⟨by decide +kernel, rfl⟩
theorem qX2_standAt_25 : DI cX2_standAt 25 (.iload_n 3) 1 26 := ⟨by decide +kernel, rfl⟩
theorem qX2_standAt_26 : DI cX2_standAt 26 (.iadd) 1 27 := ⟨by decide +kernel, rfl⟩
theorem qX2_standAt_27 : DI cX2_standAt 27 (.iload_n 2) 1 28 := ⟨by decide +kernel, rfl⟩
theorem qX2_standAt_28 : DI cX2_standAt 28 (.iastore) 1 29 := ⟨by decide +kernel, rfl⟩
theorem qX2_standAt_29 : DI cX2_standAt 29 (.iinc 3 1) 3 32 := ⟨by decide +kernel, rfl⟩
theorem qX2_standAt_32 : DJ cX2_standAt 32 .goto 11 35 := ⟨(-21), by decide +kernel, by decide, rfl⟩
theorem qX2_standAt_35 : DI cX2_standAt 35 (.return_) 1 36 := ⟨by decide +kernel, rfl⟩
theorem qX2_wrapAll_0 : DI cX2_wrapAll 0 (.iconst 0) 1 1 := ⟨by decide +kernel, rfl⟩
theorem qX2_wrapAll_1 : DI cX2_wrapAll 1 (.istore_n 1) 1 2 := ⟨by decide +kernel, rfl⟩
theorem qX2_wrapAll_2 : DI cX2_wrapAll 2 (.iload_n 1) 1 3 := ⟨by decide +kernel, rfl⟩
theorem qX2_wrapAll_3 : DI cX2_wrapAll 3 (.bipush 48) 2 5 := ⟨by decide +kernel, rfl⟩
theorem qX2_wrapAll_5 : DJ cX2_wrapAll 5 (.if_icmp .ge) 36 8 := ⟨31, by decide +kernel, by decide, rfl⟩
theorem qX2_wrapAll_8 : DI cX2_wrapAll 8 (.aload_n 0) 1 9 := ⟨by decide +kernel, rfl⟩
theorem qX2_wrapAll_9 : DI cX2_wrapAll 9 (.getfield 21) 3 12 := ⟨by decide +kernel, rfl⟩
theorem qX2_wrapAll_12 : DI cX2_wrapAll 12 (.iload_n 1) 1 13 := ⟨by decide +kernel, rfl⟩
theorem qX2_wrapAll_13 : DI cX2_wrapAll 13 (.aload_n 0) 1 14 := ⟨by decide +kernel, rfl⟩
theorem qX2_wrapAll_14 : DI cX2_wrapAll 14 (.getfield 21) 3 17 := ⟨by decide +kernel, rfl⟩
theorem qX2_wrapAll_17 : DI cX2_wrapAll 17 (.iload_n 1) 1 18 := ⟨by decide +kernel, rfl⟩
theorem qX2_wrapAll_18 : DI cX2_wrapAll 18 (.iaload) 1 19 := ⟨by decide +kernel, rfl⟩
theorem qX2_wrapAll_19 : DI cX2_wrapAll 19 (.aload_n 0) 1 20 := ⟨by decide +kernel, rfl⟩
theorem qX2_wrapAll_20 : DI cX2_wrapAll 20 (.getfield 30) 3 23 := ⟨by decide +kernel, rfl⟩
theorem qX2_wrapAll_23 : DI cX2_wrapAll 23 (.getfield 47) 3 26 := ⟨by decide +kernel, rfl⟩
theorem qX2_wrapAll_26 : DI cX2_wrapAll 26 (.invokestatic 60) 3 29 := ⟨by decide +kernel, rfl⟩
theorem qX2_wrapAll_29 : DI cX2_wrapAll 29 (.iastore) 1 30 := ⟨by decide +kernel, rfl⟩
theorem qX2_wrapAll_30 : DI cX2_wrapAll 30 (.iinc 1 1) 3 33 := ⟨by decide +kernel, rfl⟩
theorem qX2_wrapAll_33 : DJ cX2_wrapAll 33 .goto 2 36 := ⟨(-31), by decide +kernel, by decide, rfl⟩
theorem qX2_wrapAll_36 : DI cX2_wrapAll 36 (.return_) 1 37 := ⟨by decide +kernel, rfl⟩
theorem qX2_letterOf_0 : DI cX2_letterOf 0 (.iload_n 2) 1 1 := ⟨by decide +kernel, rfl⟩
theorem qX2_letterOf_1 : DJ cX2_letterOf 1 (.ifCond .lt) 10 4 := ⟨9, by decide +kernel, by decide, rfl⟩
theorem qX2_letterOf_4 : DI cX2_letterOf 4 (.iload_n 2) 1 5 := ⟨by decide +kernel, rfl⟩
theorem qX2_letterOf_5 : DI cX2_letterOf 5 (.bipush 6) 2 7 := ⟨by decide +kernel, rfl⟩
theorem qX2_letterOf_7 : DJ cX2_letterOf 7 (.if_icmp .lt) 12 10 := ⟨5, by decide +kernel, by decide, rfl⟩
theorem qX2_letterOf_10 : DI cX2_letterOf 10 (.iconst 0) 1 11 := ⟨by decide +kernel, rfl⟩
theorem qX2_letterOf_11 : DI cX2_letterOf 11 (.ireturn) 1 12 := ⟨by decide +kernel, rfl⟩
theorem qX2_letterOf_12 : DI cX2_letterOf 12 (.iload_n 1) 1 13 := ⟨by decide +kernel, rfl⟩
theorem qX2_letterOf_13 : decode cX2_letterOf 13 = .ok (.tableswitch 68 0 4 #[35, 37, 44, 51, 61], 35) := by decide +kernel
theorem qX2_letterOf_48 : DI cX2_letterOf 48 (.iload_n 2) 1 49 := ⟨by decide +kernel, rfl⟩
theorem qX2_letterOf_49 : DI cX2_letterOf 49 (.ireturn) 1 50 := ⟨by decide +kernel, rfl⟩
theorem qX2_letterOf_50 : DI cX2_letterOf 50 (.aload_n 0) 1 51 := ⟨by decide +kernel, rfl⟩
theorem qX2_letterOf_51 : DI cX2_letterOf 51 (.getfield 9) 3 54 := ⟨by decide +kernel, rfl⟩
theorem qX2_letterOf_54 : DI cX2_letterOf 54 (.iload_n 2) 1 55 := ⟨by decide +kernel, rfl⟩
theorem qX2_letterOf_55 : DI cX2_letterOf 55 (.iaload) 1 56 := ⟨by decide +kernel, rfl⟩
theorem qX2_letterOf_56 : DI cX2_letterOf 56 (.ireturn) 1 57 := ⟨by decide +kernel, rfl⟩
theorem qX2_letterOf_57 : DI cX2_letterOf 57 (.aload_n 0) 1 58 := ⟨by decide +kernel, rfl⟩
theorem qX2_letterOf_58 : DI cX2_letterOf 58 (.getfield 15) 3 61 := ⟨by decide +kernel, rfl⟩
theorem qX2_letterOf_61 : DI cX2_letterOf 61 (.iload_n 2) 1 62 := ⟨by decide +kernel, rfl⟩
theorem qX2_letterOf_62 : DI cX2_letterOf 62 (.iaload) 1 63 := ⟨by decide +kernel, rfl⟩
theorem qX2_letterOf_63 : DI cX2_letterOf 63 (.ireturn) 1 64 := ⟨by decide +kernel, rfl⟩
theorem qX2_letterOf_64 : DI cX2_letterOf 64 (.aload_n 0) 1 65 := ⟨by decide +kernel, rfl⟩
theorem qX2_letterOf_65 : DI cX2_letterOf 65 (.getfield 21) 3 68 := ⟨by decide +kernel, rfl⟩
theorem qX2_letterOf_68 : DI cX2_letterOf 68 (.iload_n 2) 1 69 := ⟨by decide +kernel, rfl⟩
theorem qX2_letterOf_69 : DI cX2_letterOf 69 (.bipush 8) 2 71 := ⟨by decide +kernel, rfl⟩
theorem qX2_letterOf_71 : DI cX2_letterOf 71 (.imul) 1 72 := ⟨by decide +kernel, rfl⟩
theorem qX2_letterOf_72 : DI cX2_letterOf 72 (.iaload) 1 73 := ⟨by decide +kernel, rfl⟩
theorem qX2_letterOf_73 : DI cX2_letterOf 73 (.ireturn) 1 74 := ⟨by decide +kernel, rfl⟩
theorem qX2_letterOf_74 : DI cX2_letterOf 74 (.aload_n 0) 1 75 := ⟨by decide +kernel, rfl⟩
theorem qX2_letterOf_75 : DI cX2_letterOf 75 (.getfield 18) 3 78 := ⟨by decide +kernel, rfl⟩
theorem qX2_letterOf_78 : DI cX2_letterOf 78 (.iload_n 2) 1 79 := ⟨by decide +kernel, rfl⟩
theorem qX2_letterOf_79 : DI cX2_letterOf 79 (.iaload) 1 80 := ⟨by decide +kernel, rfl⟩
theorem qX2_letterOf_80 : DI cX2_letterOf 80 (.ireturn) 1 81 := ⟨by decide +kernel, rfl⟩
theorem qX2_letterOf_81 : DI cX2_letterOf 81 (.aload_n 0) 1 82 := ⟨by decide +kernel, rfl⟩
theorem qX2_letterOf_82 : DI cX2_letterOf 82 (.getfield 38) 3 85 := ⟨by decide +kernel, rfl⟩
theorem qX2_letterOf_85 : DI cX2_letterOf 85 (.bipush 10) 2 87 := ⟨by decide +kernel, rfl⟩
theorem qX2_letterOf_87 : DI cX2_letterOf 87 (.irem) 1 88 := ⟨by decide +kernel, rfl⟩
theorem qX2_letterOf_88 : DI cX2_letterOf 88 (.ireturn) 1 89 := ⟨by decide +kernel, rfl⟩
theorem qX2_goesOf_0 : DI cX2_goesOf 0 (.aload_n 0) 1 1 := ⟨by decide +kernel, rfl⟩
theorem qX2_goesOf_1 : DI cX2_goesOf 1 (.iload_n 1) 1 2 := ⟨by decide +kernel, rfl⟩
theorem qX2_goesOf_2 : DI cX2_goesOf 2 (.invokevirtual 52) 3 5 := ⟨by decide +kernel, rfl⟩
theorem qX2_goesOf_5 : DJ cX2_goesOf 5 (.ifCond .ne) 10 8 := ⟨5, by decide +kernel, by decide, rfl⟩
theorem qX2_goesOf_8 : DI cX2_goesOf 8 (.iconst 0) 1 9 := ⟨by decide +kernel, rfl⟩
theorem qX2_goesOf_9 : DI cX2_goesOf 9 (.ireturn) 1 10 := ⟨by decide +kernel, rfl⟩
theorem qX2_goesOf_10 : DI cX2_goesOf 10 (.aload_n 0) 1 11 := ⟨by decide +kernel, rfl⟩
theorem qX2_goesOf_11 : DI cX2_goesOf 11 (.getfield 30) 3 14 := ⟨by decide +kernel, rfl⟩
theorem qX2_goesOf_14 : DI cX2_goesOf 14 (.aload_n 0) 1 15 := ⟨by decide +kernel, rfl⟩
theorem qX2_goesOf_15 : DI cX2_goesOf 15 (.iload_n 1) 1 16 := ⟨by decide +kernel, rfl⟩
theorem qX2_goesOf_16 : DI cX2_goesOf 16 (.invokevirtual 64) 3 19 := ⟨by decide +kernel, rfl⟩
theorem qX2_goesOf_19 : DI cX2_goesOf 19 (.istore_n 2) 1 20 := ⟨by decide +kernel, rfl⟩
theorem qX2_goesOf_20 : DI cX2_goesOf 20 (.aload_n 0) 1 21 := ⟨by decide +kernel, rfl⟩
theorem qX2_goesOf_21 : DI cX2_goesOf 21 (.iload_n 1) 1 22 := ⟨by decide +kernel, rfl⟩
theorem qX2_goesOf_22 : DI cX2_goesOf 22 (.iconst 0) 1 23 := ⟨by decide +kernel, rfl⟩
theorem qX2_goesOf_23 : DI cX2_goesOf 23 (.invokevirtual 68) 3 26 := ⟨by decide +kernel, rfl⟩
theorem qX2_goesOf_26 : DI cX2_goesOf 26 (.istore_n 3) 1 27 := ⟨by decide +kernel, rfl⟩
theorem qX2_goesOf_27 : DI cX2_goesOf 27 (.aload_n 0) 1 28 := ⟨by decide +kernel, rfl⟩
theorem qX2_goesOf_28 : DI cX2_goesOf 28 (.aload_n 0) 1 29 := ⟨by decide +kernel, rfl⟩
theorem qX2_goesOf_29 : DI cX2_goesOf 29 (.getfield 18) 3 32 := ⟨by decide +kernel, rfl⟩
theorem qX2_goesOf_32 : DI cX2_goesOf 32 (.iload_n 1) 1 33 := ⟨by decide +kernel, rfl⟩
theorem qX2_goesOf_33 : DI cX2_goesOf 33 (.iaload) 1 34 := ⟨by decide +kernel, rfl⟩
theorem qX2_goesOf_34 : DI cX2_goesOf 34 (.iconst 2) 1 35 := ⟨by decide +kernel, rfl⟩
theorem qX2_goesOf_35 : DI cX2_goesOf 35 (.invokevirtual 68) 3 38 := ⟨by decide +kernel, rfl⟩
theorem qX2_goesOf_38 : DI cX2_goesOf 38 (.iload_n 2) 1 39 := ⟨by decide +kernel, rfl⟩
theorem qX2_goesOf_39 : DI cX2_goesOf 39 (.iadd) 1 40 := ⟨by decide +kernel, rfl⟩
theorem qX2_goesOf_40 : DI cX2_goesOf 40 (.istore 4) 2 42 := ⟨by decide +kernel, rfl⟩
theorem qX2_goesOf_42 : DI cX2_goesOf 42 (.aload_n 0) 1 43 := ⟨by decide +kernel, rfl⟩
theorem qX2_goesOf_43 : DI cX2_goesOf 43 (.aload_n 0) 1 44 := ⟨by decide +kernel, rfl⟩
theorem qX2_goesOf_44 : DI cX2_goesOf 44 (.getfield 18) 3 47 := ⟨by decide +kernel, rfl⟩
theorem qX2_goesOf_47 : DI cX2_goesOf 47 (.iload_n 1) 1 48 := ⟨by decide +kernel, rfl⟩
theorem qX2_goesOf_48 : DI cX2_goesOf 48 (.iaload) 1 49 := ⟨by decide +kernel, rfl⟩
theorem qX2_goesOf_49 : DI cX2_goesOf 49 (.iconst 3) 1 50 := ⟨by decide +kernel, rfl⟩
theorem qX2_goesOf_50 : DI cX2_goesOf 50 (.invokevirtual 68) 3 53 := ⟨by decide +kernel, rfl⟩
theorem qX2_goesOf_53 : DI cX2_goesOf 53 (.iload_n 2) 1 54 := ⟨by decide +kernel, rfl⟩
theorem qX2_goesOf_54 : DI cX2_goesOf 54 (.iadd) 1 55 := ⟨by decide +kernel, rfl⟩
theorem qX2_goesOf_55 : DI cX2_goesOf 55 (.istore 5) 2 57 := ⟨by decide +kernel, rfl⟩
theorem qX2_goesOf_57 : DI cX2_goesOf 57 (.aload_n 0) 1 58 := ⟨by decide +kernel, rfl⟩
theorem qX2_goesOf_58 : DI cX2_goesOf 58 (.getfield 30) 3 61 := ⟨by decide +kernel, rfl⟩
theorem qX2_goesOf_61 : DI cX2_goesOf 61 (.getfield 47) 3 64 := ⟨by decide +kernel, rfl⟩
theorem qX2_goesOf_64 : DI cX2_goesOf 64 (.iconst 1) 1 65 := ⟨by decide +kernel, rfl⟩
theorem qX2_goesOf_65 : DI cX2_goesOf 65 (.isub) 1 66 := ⟨by decide +kernel, rfl⟩
theorem qX2_goesOf_66 : DI cX2_goesOf 66 (.aload_n 0) 1 67 := ⟨by decide +kernel, rfl⟩
theorem qX2_goesOf_67 : DI cX2_goesOf 67 (.aload_n 0) 1 68 := ⟨by decide +kernel, rfl⟩
theorem qX2_goesOf_68 : DI cX2_goesOf 68 (.getfield 18) 3 71 := ⟨by decide +kernel, rfl⟩
theorem qX2_goesOf_71 : DI cX2_goesOf 71 (.iload_n 1) 1 72 := ⟨by decide +kernel, rfl⟩
theorem qX2_goesOf_72 : DI cX2_goesOf 72 (.iaload) 1 73 := ⟨by decide +kernel, rfl⟩
theorem qX2_goesOf_73 : DI cX2_goesOf 73 (.iconst 2) 1 74 := ⟨by decide +kernel, rfl⟩
theorem qX2_goesOf_74 : DI cX2_goesOf 74 (.invokevirtual 68) 3 77 := ⟨by decide +kernel, rfl⟩
theorem qX2_goesOf_77 : DI cX2_goesOf 77 (.isub) 1 78 := ⟨by decide +kernel, rfl⟩
theorem qX2_goesOf_78 : DI cX2_goesOf 78 (.iload_n 2) 1 79 := ⟨by decide +kernel, rfl⟩
theorem qX2_goesOf_79 : DI cX2_goesOf 79 (.iadd) 1 80 := ⟨by decide +kernel, rfl⟩
theorem qX2_goesOf_80 : DI cX2_goesOf 80 (.istore 6) 2 82 := ⟨by decide +kernel, rfl⟩
theorem qX2_goesOf_82 : DI cX2_goesOf 82 (.aload_n 0) 1 83 := ⟨by decide +kernel, rfl⟩
theorem qX2_goesOf_83 : DI cX2_goesOf 83 (.iload_n 1) 1 84 := ⟨by decide +kernel, rfl⟩
theorem qX2_goesOf_84 : DI cX2_goesOf 84 (.invokevirtual 71) 3 87 := ⟨by decide +kernel, rfl⟩
theorem qX2_goesOf_87 : DJ cX2_goesOf 87 (.ifCond .eq) 94 90 := ⟨7, by decide +kernel, by decide, rfl⟩
theorem qX2_goesOf_90 : DI cX2_goesOf 90 (.iload_n 3) 1 91 := ⟨by decide +kernel, rfl⟩
theorem qX2_goesOf_91 : DJ cX2_goesOf 91 .goto 96 94 := ⟨5, by decide +kernel, by decide, rfl⟩
theorem qX2_goesOf_94 : DI cX2_goesOf 94 (.iload 4) 2 96 := ⟨by decide +kernel, rfl⟩
theorem qX2_goesOf_96 : DI cX2_goesOf 96 (.istore 7) 2 98 := ⟨by decide +kernel, rfl⟩
theorem qX2_goesOf_98 : DI cX2_goesOf 98 (.aload_n 0) 1 99 := ⟨by decide +kernel, rfl⟩
theorem qX2_goesOf_99 : DI cX2_goesOf 99 (.getfield 9) 3 102 := ⟨by decide +kernel, rfl⟩
theorem qX2_goesOf_102 : DI cX2_goesOf 102 (.iload_n 1) 1 103 := ⟨by decide +kernel, rfl⟩
theorem qX2_goesOf_103 : DI cX2_goesOf 103 (.iaload) 1 104 := ⟨by decide +kernel, rfl⟩
theorem qX2_goesOf_104 : decode cX2_goesOf 104 = .ok (.tableswitch 159 1 6 #[40, 53, 66, 79, 108, 128], 40) := by decide +kernel
theorem qX2_goesOf_144 : DI cX2_goesOf 144 (.iload 5) 2 146 := ⟨by decide +kernel, rfl⟩
theorem qX2_goesOf_146 : DI cX2_goesOf 146 (.aload_n 0) 1 147 := ⟨by decide +kernel, rfl⟩
theorem qX2_goesOf_147 : DI cX2_goesOf 147 (.getfield 30) 3 150 := ⟨by decide +kernel, rfl⟩
theorem qX2_goesOf_150 : DI cX2_goesOf 150 (.getfield 47) 3 153 := ⟨by decide +kernel, rfl⟩
theorem qX2_goesOf_153 : DI cX2_goesOf 153 (.invokestatic 60) 3 156 := ⟨by decide +kernel, rfl⟩
theorem qX2_goesOf_156 : DI cX2_goesOf 156 (.ireturn) 1 157 := ⟨by decide +kernel, rfl⟩
theorem qX2_goesOf_157 : DI cX2_goesOf 157 (.iload 6) 2 159 := ⟨by decide +kernel, rfl⟩
theorem qX2_goesOf_159 : DI cX2_goesOf 159 (.aload_n 0) 1 160 := ⟨by decide +kernel, rfl⟩
theorem qX2_goesOf_160 : DI cX2_goesOf 160 (.getfield 30) 3 163 := ⟨by decide +kernel, rfl⟩
theorem qX2_goesOf_163 : DI cX2_goesOf 163 (.getfield 47) 3 166 := ⟨by decide +kernel, rfl⟩
theorem qX2_goesOf_166 : DI cX2_goesOf 166 (.invokestatic 60) 3 169 := ⟨by decide +kernel, rfl⟩
theorem qX2_goesOf_169 : DI cX2_goesOf 169 (.ireturn) 1 170 := ⟨by decide +kernel, rfl⟩
theorem qX2_goesOf_170 : DI cX2_goesOf 170 (.iload 7) 2 172 := ⟨by decide +kernel, rfl⟩
theorem qX2_goesOf_172 : DI cX2_goesOf 172 (.aload_n 0) 1 173 := ⟨by decide +kernel, rfl⟩
theorem qX2_goesOf_173 : DI cX2_goesOf 173 (.getfield 30) 3 176 := ⟨by decide +kernel, rfl⟩
theorem qX2_goesOf_176 : DI cX2_goesOf 176 (.getfield 47) 3 179 := ⟨by decide +kernel, rfl⟩
theorem qX2_goesOf_179 : DI cX2_goesOf 179 (.invokestatic 60) 3 182 := ⟨by decide +kernel, rfl⟩
theorem qX2_goesOf_182 : DI cX2_goesOf 182 (.ireturn) 1 183 := ⟨by decide +kernel, rfl⟩
theorem qX2_goesOf_183 : DI cX2_goesOf 183 (.iload_n 3) 1 184 := ⟨by decide +kernel, rfl⟩
theorem qX2_goesOf_184 : DI cX2_goesOf 184 (.iload 5) 2 186 := ⟨by decide +kernel, rfl⟩
theorem qX2_goesOf_186 : DI cX2_goesOf 186 (.iload_n 3) 1 187 := ⟨by decide +kernel, rfl⟩
theorem qX2_goesOf_187 : DI cX2_goesOf 187 (.isub) 1 188 := ⟨by decide +kernel, rfl⟩
theorem qX2_goesOf_188 : DI cX2_goesOf 188 (.aload_n 0) 1 189 := ⟨by decide +kernel, rfl⟩
theorem qX2_goesOf_189 : DI cX2_goesOf 189 (.getfield 30) 3 192 := ⟨by decide +kernel, rfl⟩
theorem qX2_goesOf_192 : DI cX2_goesOf 192 (.getfield 47) 3 195 := ⟨by decide +kernel, rfl⟩
theorem qX2_goesOf_195 : DI cX2_goesOf 195 (.invokestatic 60) 3 198 := ⟨by decide +kernel, rfl⟩
theorem qX2_goesOf_198 : DI cX2_goesOf 198 (.iconst 2) 1 199 := ⟨by decide +kernel, rfl⟩
theorem qX2_goesOf_199 : DI cX2_goesOf 199 (.idiv) 1 200 := ⟨by decide +kernel, rfl⟩
theorem qX2_goesOf_200 : DI cX2_goesOf 200 (.iadd) 1 201 := ⟨by decide +kernel, rfl⟩
theorem qX2_goesOf_201 : DI cX2_goesOf 201 (.aload_n 0) 1 202 := ⟨by decide +kernel, rfl⟩
theorem qX2_goesOf_202 : DI cX2_goesOf 202 (.getfield 30) 3 205 := ⟨by decide +kernel, rfl⟩
theorem qX2_goesOf_205 : DI cX2_goesOf 205 (.getfield 47) 3 208 := ⟨by decide +kernel, rfl⟩
theorem qX2_goesOf_208 : DI cX2_goesOf 208 (.invokestatic 60) 3 211 := ⟨by decide +kernel, rfl⟩
theorem qX2_goesOf_211 : DI cX2_goesOf 211 (.ireturn) 1 212 := ⟨by decide +kernel, rfl⟩
theorem qX2_goesOf_212 : DI cX2_goesOf 212 (.iload 6) 2 214 := ⟨by decide +kernel, rfl⟩
theorem qX2_goesOf_214 : DI cX2_goesOf 214 (.aload_n 0) 1 215 := ⟨by decide +kernel, rfl⟩
theorem qX2_goesOf_215 : DI cX2_goesOf 215 (.getfield 38) 3 218 := ⟨by decide +kernel, rfl⟩
theorem qX2_goesOf_218 : DI cX2_goesOf 218 (.iconst 3) 1 219 := ⟨by decide +kernel, rfl⟩
theorem qX2_goesOf_219 : DI cX2_goesOf 219 (.irem) 1 220 := ⟨by decide +kernel, rfl⟩
theorem qX2_goesOf_220 : DI cX2_goesOf 220 (.iadd) 1 221 := ⟨by decide +kernel, rfl⟩
theorem qX2_goesOf_221 : DI cX2_goesOf 221 (.aload_n 0) 1 222 := ⟨by decide +kernel, rfl⟩
theorem qX2_goesOf_222 : DI cX2_goesOf 222 (.getfield 30) 3 225 := ⟨by decide +kernel, rfl⟩
theorem qX2_goesOf_225 : DI cX2_goesOf 225 (.getfield 47) 3 228 := ⟨by decide +kernel, rfl⟩
theorem qX2_goesOf_228 : DI cX2_goesOf 228 (.invokestatic 60) 3 231 := ⟨by decide +kernel, rfl⟩
theorem qX2_goesOf_231 : DI cX2_goesOf 231 (.ireturn) 1 232 := ⟨by decide +kernel, rfl⟩
theorem qX2_goesOf_232 : DI cX2_goesOf 232 (.iload 7) 2 234 := ⟨by decide +kernel, rfl⟩
theorem qX2_goesOf_234 : DI cX2_goesOf 234 (.aload_n 0) 1 235 := ⟨by decide +kernel, rfl⟩
theorem qX2_goesOf_235 : DI cX2_goesOf 235 (.getfield 24) 3 238 := ⟨by decide +kernel, rfl⟩
theorem qX2_goesOf_238 : DI cX2_goesOf 238 (.iload_n 1) 1 239 := ⟨by decide +kernel, rfl⟩
theorem qX2_goesOf_239 : DI cX2_goesOf 239 (.iconst 4) 1 240 := ⟨by decide +kernel, rfl⟩
theorem qX2_goesOf_240 : DI cX2_goesOf 240 (.imul) 1 241 := ⟨by decide +kernel, rfl⟩
theorem qX2_goesOf_241 : DI cX2_goesOf 241 (.aload_n 0) 1 242 := ⟨by decide +kernel, rfl⟩
theorem qX2_goesOf_242 : DI cX2_goesOf 242 (.getfield 38) 3 245 := ⟨by decide +kernel, rfl⟩
theorem qX2_goesOf_245 : DI cX2_goesOf 245 (.iconst 4) 1 246 := ⟨by decide +kernel, rfl⟩
theorem qX2_goesOf_246 : DI cX2_goesOf 246 (.invokestatic 60) 3 249 := ⟨by decide +kernel, rfl⟩
theorem qX2_goesOf_249 : DI cX2_goesOf 249 (.iadd) 1 250 := ⟨by decide +kernel, rfl⟩
theorem qX2_goesOf_250 : DI cX2_goesOf 250 (.iaload) 1 251 := ⟨by decide +kernel, rfl⟩
theorem qX2_goesOf_251 : DI cX2_goesOf 251 (.iadd) 1 252 := ⟨by decide +kernel, rfl⟩
theorem qX2_goesOf_252 : DI cX2_goesOf 252 (.aload_n 0) 1 253 := ⟨by decide +kernel, rfl⟩
theorem qX2_goesOf_253 : DI cX2_goesOf 253 (.getfield 30) 3 256 := ⟨by decide +kernel, rfl⟩
theorem qX2_goesOf_256 : DI cX2_goesOf 256 (.getfield 47) 3 259 := ⟨by decide +kernel, rfl⟩
theorem qX2_goesOf_259 : DI cX2_goesOf 259 (.invokestatic 60) 3 262 := ⟨by decide +kernel, rfl⟩
theorem qX2_goesOf_262 : DI cX2_goesOf 262 (.ireturn) 1 263 := ⟨by decide +kernel, rfl⟩
theorem qX2_goesOf_263 : DI cX2_goesOf 263 (.iload 4) 2 265 := ⟨by decide +kernel, rfl⟩
theorem qX2_goesOf_265 : DI cX2_goesOf 265 (.aload_n 0) 1 266 := ⟨by decide +kernel, rfl⟩
theorem qX2_goesOf_266 : DI cX2_goesOf 266 (.getfield 30) 3 269 := ⟨by decide +kernel, rfl⟩
theorem qX2_goesOf_269 : DI cX2_goesOf 269 (.getfield 47) 3 272 := ⟨by decide +kernel, rfl⟩
theorem qX2_goesOf_272 : DI cX2_goesOf 272 (.invokestatic 60) 3 275 := ⟨by decide +kernel, rfl⟩
theorem qX2_goesOf_275 : DI cX2_goesOf 275 (.ireturn) 1 276 := ⟨by decide +kernel, rfl⟩
theorem qX2_isLazyNow_0 : DI cX2_isLazyNow 0 (.aload_n 0) 1 1 := ⟨by decide +kernel, rfl⟩
theorem qX2_isLazyNow_1 : DI cX2_isLazyNow 1 (.getfield 38) 3 4 := ⟨by decide +kernel, rfl⟩
theorem qX2_isLazyNow_4 : DI cX2_isLazyNow 4 (.aload_n 0) 1 5 := ⟨by decide +kernel, rfl⟩
theorem qX2_isLazyNow_5 : DI cX2_isLazyNow 5 (.getfield 15) 3 8 := ⟨by decide +kernel, rfl⟩
theorem qX2_isLazyNow_8 : DI cX2_isLazyNow 8 (.iload_n 1) 1 9 := ⟨by decide +kernel, rfl⟩
theorem qX2_isLazyNow_9 : DI cX2_isLazyNow 9 (.iaload) 1 10 := ⟨by decide +kernel, rfl⟩
theorem qX2_isLazyNow_10 : DI cX2_isLazyNow 10 (.iconst 2) 1 11 := ⟨by decide +kernel, rfl⟩
theorem qX2_isLazyNow_11 : DI cX2_isLazyNow 11 (.iadd) 1 12 := ⟨by decide +kernel, rfl⟩
theorem qX2_isLazyNow_12 : DI cX2_isLazyNow 12 (.invokestatic 60) 3 15 := ⟨by decide +kernel, rfl⟩
theorem qX2_isLazyNow_15 : DJ cX2_isLazyNow 15 (.ifCond .ne) 22 18 := ⟨7, by decide +kernel, by decide, rfl⟩
theorem qX2_isLazyNow_18 : DI cX2_isLazyNow 18 (.iconst 1) 1 19 := ⟨by decide +kernel, rfl⟩
theorem qX2_isLazyNow_19 : DJ cX2_isLazyNow 19 .goto 23 22 := ⟨4, by decide +kernel, by decide, rfl⟩
theorem qX2_isLazyNow_22 : DI cX2_isLazyNow 22 (.iconst 0) 1 23 := ⟨by decide +kernel, rfl⟩
theorem qX2_isLazyNow_23 : DI cX2_isLazyNow 23 (.ireturn) 1 24 := ⟨by decide +kernel, rfl⟩
theorem qX2_goBeat_0 : DI cX2_goBeat 0 (.iload_n 1) 1 1 := ⟨by decide +kernel, rfl⟩
theorem qX2_goBeat_1 : DJ cX2_goBeat 1 (.ifCond .ne) 18 4 := ⟨17, by decide +kernel, by decide, rfl⟩
theorem qX2_goBeat_4 : DI cX2_goBeat 4 (.aload_n 0) 1 5 := ⟨by decide +kernel, rfl⟩
theorem qX2_goBeat_5 : DI cX2_goBeat 5 (.getfield 30) 3 8 := ⟨by decide +kernel, rfl⟩
theorem qX2_goBeat_8 : DI cX2_goBeat 8 (.aload_n 0) 1 9 := ⟨by decide +kernel, rfl⟩
theorem qX2_goBeat_9 : DI cX2_goBeat 9 (.getfield 38) 3 12 := ⟨by decide +kernel, rfl⟩
theorem qX2_goBeat_12 : DI cX2_goBeat 12 (.invokevirtual 74) 3 15 := ⟨by decide +kernel, rfl⟩
theorem qX2_goBeat_15 : DJ cX2_goBeat 15 (.ifCond .eq) 22 18 := ⟨7, by decide +kernel, by decide, rfl⟩
theorem qX2_goBeat_18 : DI cX2_goBeat 18 (.iconst 1) 1 19 := ⟨by decide +kernel, rfl⟩
theorem qX2_goBeat_19 : DJ cX2_goBeat 19 .goto 23 22 := ⟨4, by decide +kernel, by decide, rfl⟩
theorem qX2_goBeat_22 : DI cX2_goBeat 22 (.iconst 0) 1 23 := ⟨by decide +kernel, rfl⟩
theorem qX2_goBeat_23 : DI cX2_goBeat 23 (.istore_n 2) 1 24 := ⟨by decide +kernel, rfl⟩
theorem qX2_goBeat_24 : DI cX2_goBeat 24 (.iconst 0) 1 25 := ⟨by decide +kernel, rfl⟩
theorem qX2_goBeat_25 : DI cX2_goBeat 25 (.istore_n 3) 1 26 := ⟨by decide +kernel, rfl⟩
theorem qX2_goBeat_26 : DI cX2_goBeat 26 (.iload_n 3) 1 27 := ⟨by decide +kernel, rfl⟩
theorem qX2_goBeat_27 : DI cX2_goBeat 27 (.aload_n 0) 1 28 := ⟨by decide +kernel, rfl⟩
theorem qX2_goBeat_28 : DI cX2_goBeat 28 (.getfield 34) 3 31 := ⟨by decide +kernel, rfl⟩
theorem qX2_goBeat_31 : DJ cX2_goBeat 31 (.if_icmp .ge) 64 34 := ⟨33, by decide +kernel, by decide, rfl⟩
theorem qX2_goBeat_34 : DI cX2_goBeat 34 (.aload_n 0) 1 35 := ⟨by decide +kernel, rfl⟩
theorem qX2_goBeat_35 : DI cX2_goBeat 35 (.getfield 27) 3 38 := ⟨by decide +kernel, rfl⟩
theorem qX2_goBeat_38 : DI cX2_goBeat 38 (.iload_n 3) 1 39 := ⟨by decide +kernel, rfl⟩
theorem qX2_goBeat_39 : DI cX2_goBeat 39 (.iload_n 2) 1 40 := ⟨by decide +kernel, rfl⟩
theorem qX2_goBeat_40 : DJ cX2_goBeat 40 (.ifCond .eq) 52 43 := ⟨12, by decide +kernel, by decide, rfl⟩
theorem qX2_goBeat_43 : DI cX2_goBeat 43 (.aload_n 0) 1 44 := ⟨by decide +kernel, rfl⟩
theorem qX2_goBeat_44 : DI cX2_goBeat 44 (.iload_n 3) 1 45 := ⟨by decide +kernel, rfl⟩
theorem qX2_goBeat_45 : DI cX2_goBeat 45 (.iconst 0) 1 46 := ⟨by decide +kernel, rfl⟩
theorem qX2_goBeat_46 : DI cX2_goBeat 46 (.invokevirtual 68) 3 49 := ⟨by decide +kernel, rfl⟩
theorem qX2_goBeat_49 : DJ cX2_goBeat 49 .goto 57 52 := ⟨8, by decide +kernel, by decide, rfl⟩
theorem qX2_goBeat_52 : DI cX2_goBeat 52 (.aload_n 0) 1 53 := ⟨by decide +kernel, rfl⟩
theorem qX2_goBeat_53 : DI cX2_goBeat 53 (.iload_n 3) 1 54 := ⟨by decide +kernel, rfl⟩
theorem qX2_goBeat_54 : DI cX2_goBeat 54 (.invokevirtual 77) 3 57 := ⟨by decide +kernel, rfl⟩
theorem qX2_goBeat_57 : DI cX2_goBeat 57 (.iastore) 1 58 := ⟨by decide +kernel, rfl⟩
theorem qX2_goBeat_58 : DI cX2_goBeat 58 (.iinc 3 1) 3 61 := ⟨by decide +kernel, rfl⟩
theorem qX2_goBeat_61 : DJ cX2_goBeat 61 .goto 26 64 := ⟨(-35), by decide +kernel, by decide, rfl⟩
theorem qX2_goBeat_64 : DI cX2_goBeat 64 (.iconst 0) 1 65 := ⟨by decide +kernel, rfl⟩
theorem qX2_goBeat_65 : DI cX2_goBeat 65 (.istore_n 3) 1 66 := ⟨by decide +kernel, rfl⟩
theorem qX2_goBeat_66 : DI cX2_goBeat 66 (.iload_n 3) 1 67 := ⟨by decide +kernel, rfl⟩
theorem qX2_goBeat_67 : DI cX2_goBeat 67 (.aload_n 0) 1 68 := ⟨by decide +kernel, rfl⟩
theorem qX2_goBeat_68 : DI cX2_goBeat 68 (.getfield 34) 3 71 := ⟨by decide +kernel, rfl⟩
theorem qX2_goBeat_71 : DJ cX2_goBeat 71 (.if_icmp .ge) 118 74 := ⟨47, by decide +kernel, by decide, rfl⟩
theorem qX2_goBeat_74 : DI cX2_goBeat 74 (.iload_n 3) 1 75 := ⟨by decide +kernel, rfl⟩
theorem qX2_goBeat_75 : DI cX2_goBeat 75 (.bipush 8) 2 77 := ⟨by decide +kernel, rfl⟩
theorem qX2_goBeat_77 : DI cX2_goBeat 77 (.imul) 1 78 := ⟨by decide +kernel, rfl⟩
theorem qX2_goBeat_78 : DI cX2_goBeat 78 (.istore 4) 2 80 := ⟨by decide +kernel, rfl⟩
theorem qX2_goBeat_80 : DI cX2_goBeat 80 (.aload_n 0) 1 81 := ⟨by decide +kernel, rfl⟩
theorem qX2_goBeat_81 : DI cX2_goBeat 81 (.getfield 21) 3 84 := ⟨by decide +kernel, rfl⟩
theorem qX2_goBeat_84 : DI cX2_goBeat 84 (.iload 4) 2 86 := ⟨by decide +kernel, rfl⟩
theorem qX2_goBeat_86 : DI cX2_goBeat 86 (.aload_n 0) 1 87 := ⟨by decide +kernel, rfl⟩
theorem qX2_goBeat_87 : DI cX2_goBeat 87 (.getfield 21) 3 90 := ⟨by decide +kernel, rfl⟩
theorem qX2_goBeat_90 : DI cX2_goBeat 90 (.iload 4) 2 92 := ⟨by decide +kernel, rfl⟩
theorem qX2_goBeat_92 : DI cX2_goBeat 92 (.iconst 1) 1 93 := ⟨by decide +kernel, rfl⟩
theorem qX2_goBeat_93 : DI cX2_goBeat 93 (.iadd) 1 94 := ⟨by decide +kernel, rfl⟩
theorem qX2_goBeat_94 : DI cX2_goBeat 94 (.bipush 7) 2 96 := ⟨by decide +kernel, rfl⟩
theorem qX2_goBeat_96 : DI cX2_goBeat 96 (.invokestatic 41) 3 99 := ⟨by decide +kernel, rfl⟩
theorem qX2_goBeat_99 : DI cX2_goBeat 99 (.aload_n 0) 1 100 := ⟨by decide +kernel, rfl⟩
theorem qX2_goBeat_100 : DI cX2_goBeat 100 (.getfield 21) 3 103 := ⟨by decide +kernel, rfl⟩
theorem qX2_goBeat_103 : DI cX2_goBeat 103 (.iload 4) 2 105 := ⟨by decide +kernel, rfl⟩
theorem qX2_goBeat_105 : DI cX2_goBeat 105 (.aload_n 0) 1 106 := ⟨by decide +kernel, rfl⟩
theorem qX2_goBeat_106 : DI cX2_goBeat 106 (.getfield 27) 3 109 := ⟨by decide +kernel, rfl⟩
theorem qX2_goBeat_109 : DI cX2_goBeat 109 (.iload_n 3) 1 110 := ⟨by decide +kernel, rfl⟩
theorem qX2_goBeat_110 : DI cX2_goBeat 110 (.iaload) 1 111 := ⟨by decide +kernel, rfl⟩
theorem qX2_goBeat_111 : DI cX2_goBeat 111 (.iastore) 1 112 := ⟨by decide +kernel, rfl⟩
theorem qX2_goBeat_112 : DI cX2_goBeat 112 (.iinc 3 1) 3 115 := ⟨by decide +kernel, rfl⟩
theorem qX2_goBeat_115 : DJ cX2_goBeat 115 .goto 66 118 := ⟨(-49), by decide +kernel, by decide, rfl⟩
theorem qX2_goBeat_118 : DI cX2_goBeat 118 (.aload_n 0) 1 119 := ⟨by decide +kernel, rfl⟩
theorem qX2_goBeat_119 : DI cX2_goBeat 119 (.dup) 1 120 := ⟨by decide +kernel, rfl⟩
theorem qX2_goBeat_120 : DI cX2_goBeat 120 (.getfield 38) 3 123 := ⟨by decide +kernel, rfl⟩
theorem qX2_goBeat_123 : DI cX2_goBeat 123 (.iconst 1) 1 124 := ⟨by decide +kernel, rfl⟩
theorem qX2_goBeat_124 : DI cX2_goBeat 124 (.iadd) 1 125 := ⟨by decide +kernel, rfl⟩
theorem qX2_goBeat_125 : DI cX2_goBeat 125 (.putfield 38) 3 128 := ⟨by decide +kernel, rfl⟩
theorem qX2_goBeat_128 : DI cX2_goBeat 128 (.return_) 1 129 := ⟨by decide +kernel, rfl⟩
theorem qX2_goBeats_0 : DI cX2_goBeats 0 (.iconst 0) 1 1 := ⟨by decide +kernel, rfl⟩
theorem qX2_goBeats_1 : DI cX2_goBeats 1 (.istore_n 2) 1 2 := ⟨by decide +kernel, rfl⟩
theorem qX2_goBeats_2 : DI cX2_goBeats 2 (.iload_n 2) 1 3 := ⟨by decide +kernel, rfl⟩
theorem qX2_goBeats_3 : DI cX2_goBeats 3 (.iload_n 1) 1 4 := ⟨by decide +kernel, rfl⟩
theorem qX2_goBeats_4 : DJ cX2_goBeats 4 (.if_icmp .ge) 18 7 := ⟨14, by decide +kernel, by decide, rfl⟩
theorem qX2_goBeats_7 : DI cX2_goBeats 7 (.aload_n 0) 1 8 := ⟨by decide +kernel, rfl⟩
theorem qX2_goBeats_8 : DI cX2_goBeats 8 (.iconst 0) 1 9 := ⟨by decide +kernel, rfl⟩
theorem qX2_goBeats_9 : DI cX2_goBeats 9 (.invokevirtual 81) 3 12 := ⟨by decide +kernel, rfl⟩
theorem qX2_goBeats_12 : DI cX2_goBeats 12 (.iinc 2 1) 3 15 := ⟨by decide +kernel, rfl⟩
theorem qX2_goBeats_15 : DJ cX2_goBeats 15 .goto 2 18 := ⟨(-13), by decide +kernel, by decide, rfl⟩
theorem qX2_goBeats_18 : DI cX2_goBeats 18 (.return_) 1 19 := ⟨by decide +kernel, rfl⟩
theorem qX2_beatsTillTogether_0 : DI cX2_beatsTillTogether 0 (.iconst 0) 1 1 := ⟨by decide +kernel, rfl⟩
theorem qX2_beatsTillTogether_1 : DI cX2_beatsTillTogether 1 (.istore_n 3) 1 2 := ⟨by decide +kernel, rfl⟩
theorem qX2_beatsTillTogether_2 : DI cX2_beatsTillTogether 2 (.iload_n 3) 1 3 := ⟨by decide +kernel, rfl⟩
theorem qX2_beatsTillTogether_3 : DI cX2_beatsTillTogether 3 (.iload_n 1) 1 4 := ⟨by decide +kernel, rfl⟩
theorem qX2_beatsTillTogether_4 : DJ cX2_beatsTillTogether 4 (.if_icmp .gt) 36 7 := ⟨32, by decide +kernel, by decide, rfl⟩
theorem qX2_beatsTillTogether_7 : DI cX2_beatsTillTogether 7 (.aload_n 0) 1 8 := ⟨by decide +kernel, rfl⟩
theorem qX2_beatsTillTogether_8 : DI cX2_beatsTillTogether 8 (.invokevirtual 85) 3 11 := ⟨by decide +kernel, rfl⟩
theorem qX2_beatsTillTogether_11 : DJ cX2_beatsTillTogether 11 (.ifCond .eq) 16 14 := ⟨5, by decide +kernel, by decide, rfl⟩
theorem qX2_beatsTillTogether_14 : DI cX2_beatsTillTogether 14 (.iload_n 3) 1 15 := ⟨by decide +kernel, rfl⟩
theorem qX2_beatsTillTogether_15 : DI cX2_beatsTillTogether 15 (.ireturn) 1 16 := ⟨by decide +kernel, rfl⟩
theorem qX2_beatsTillTogether_16 : DI cX2_beatsTillTogether 16 (.aload_n 0) 1 17 := ⟨by decide +kernel, rfl⟩
theorem qX2_beatsTillTogether_17 : DI cX2_beatsTillTogether 17 (.iload_n 3) 1 18 := ⟨by decide +kernel, rfl⟩
theorem qX2_beatsTillTogether_18 : DI cX2_beatsTillTogether 18 (.iload_n 2) 1 19 := ⟨by decide +kernel, rfl⟩
theorem qX2_beatsTillTogether_19 : DJ cX2_beatsTillTogether 19 (.if_icmp .ne) 26 22 := ⟨7, by decide +kernel, by decide, rfl⟩
theorem qX2_beatsTillTogether_22 : DI cX2_beatsTillTogether 22 (.iconst 1) 1 23 := ⟨by decide +kernel, rfl⟩
theorem qX2_beatsTillTogether_23 : DJ cX2_beatsTillTogether 23 .goto 27 26 := ⟨4, by decide +kernel, by decide, rfl⟩
theorem qX2_beatsTillTogether_26 : DI cX2_beatsTillTogether 26 (.iconst 0) 1 27 := ⟨by decide +kernel, rfl⟩
theorem qX2_beatsTillTogether_27 : DI cX2_beatsTillTogether 27 (.invokevirtual 81) 3 30 := ⟨by decide +kernel, rfl⟩
theorem qX2_beatsTillTogether_30 : DI cX2_beatsTillTogether 30 (.iinc 3 1) 3 33 := ⟨by decide +kernel, rfl⟩
theorem qX2_beatsTillTogether_33 : DJ cX2_beatsTillTogether 33 .goto 2 36 := ⟨(-31), by decide +kernel, by decide, rfl⟩
theorem qX2_beatsTillTogether_36 : DI cX2_beatsTillTogether 36 (.bipush (-5)) 2 38 := ⟨by decide +kernel, rfl⟩
theorem qX2_beatsTillTogether_38 : DI cX2_beatsTillTogether 38 (.ireturn) 1 39 := ⟨by decide +kernel, rfl⟩
theorem qX2_beatsAlone_0 : DI cX2_beatsAlone 0 (.iconst 0) 1 1 := ⟨by decide +kernel, rfl⟩
theorem qX2_beatsAlone_1 : DI cX2_beatsAlone 1 (.istore_n 3) 1 2 := ⟨by decide +kernel, rfl⟩
theorem qX2_beatsAlone_2 : DI cX2_beatsAlone 2 (.iconst 0) 1 3 := ⟨by decide +kernel, rfl⟩
theorem qX2_beatsAlone_3 : DI cX2_beatsAlone 3 (.istore 4) 2 5 := ⟨by decide +kernel, rfl⟩
theorem qX2_beatsAlone_5 : DI cX2_beatsAlone 5 (.iload 4) 2 7 := ⟨by decide +kernel, rfl⟩
theorem qX2_beatsAlone_7 : DI cX2_beatsAlone 7 (.iload_n 2) 1 8 := ⟨by decide +kernel, rfl⟩
theorem qX2_beatsAlone_8 : DJ cX2_beatsAlone 8 (.if_icmp .ge) 33 11 := ⟨25, by decide +kernel, by decide, rfl⟩
theorem qX2_beatsAlone_11 : DI cX2_beatsAlone 11 (.aload_n 0) 1 12 := ⟨by decide +kernel, rfl⟩
theorem qX2_beatsAlone_12 : DI cX2_beatsAlone 12 (.iconst 0) 1 13 := ⟨by decide +kernel, rfl⟩
theorem qX2_beatsAlone_13 : DI cX2_beatsAlone 13 (.invokevirtual 81) 3 16 := ⟨by decide +kernel, rfl⟩
theorem qX2_beatsAlone_16 : DI cX2_beatsAlone 16 (.aload_n 0) 1 17 := ⟨by decide +kernel, rfl⟩
theorem qX2_beatsAlone_17 : DI cX2_beatsAlone 17 (.iload_n 1) 1 18 := ⟨by decide +kernel, rfl⟩
theorem qX2_beatsAlone_18 : DI cX2_beatsAlone 18 (.invokevirtual 89) 3 21 := ⟨by decide +kernel, rfl⟩
theorem qX2_beatsAlone_21 : DJ cX2_beatsAlone 21 (.ifCond .eq) 27 24 := ⟨6, by decide +kernel, by decide, rfl⟩
theorem qX2_beatsAlone_24 : DI cX2_beatsAlone 24 (.iinc 3 1) 3 27 := ⟨by decide +kernel, rfl⟩
theorem qX2_beatsAlone_27 : DI cX2_beatsAlone 27 (.iinc 4 1) 3 30 := ⟨by decide +kernel, rfl⟩
theorem qX2_beatsAlone_30 : DJ cX2_beatsAlone 30 .goto 5 33 := ⟨(-25), by decide +kernel, by decide, rfl⟩
theorem qX2_beatsAlone_33 : DI cX2_beatsAlone 33 (.iload_n 3) 1 34 := ⟨by decide +kernel, rfl⟩
theorem qX2_beatsAlone_34 : DI cX2_beatsAlone 34 (.ireturn) 1 35 := ⟨by decide +kernel, rfl⟩
theorem qX2_areTogether_0 : DI cX2_areTogether 0 (.iconst 1) 1 1 := ⟨by decide +kernel, rfl⟩
theorem qX2_areTogether_1 : DI cX2_areTogether 1 (.istore_n 1) 1 2 := ⟨by decide +kernel, rfl⟩
theorem qX2_areTogether_2 : DI cX2_areTogether 2 (.iload_n 1) 1 3 := ⟨by decide +kernel, rfl⟩
theorem qX2_areTogether_3 : DI cX2_areTogether 3 (.aload_n 0) 1 4 := ⟨by decide +kernel, rfl⟩
theorem qX2_areTogether_4 : DI cX2_areTogether 4 (.getfield 34) 3 7 := ⟨by decide +kernel, rfl⟩
theorem qX2_areTogether_7 : DJ cX2_areTogether 7 (.if_icmp .ge) 33 10 := ⟨26, by decide +kernel, by decide, rfl⟩
theorem qX2_areTogether_10 : DI cX2_areTogether 10 (.aload_n 0) 1 11 := ⟨by decide +kernel, rfl⟩
theorem qX2_areTogether_11 : DI cX2_areTogether 11 (.iload_n 1) 1 12 := ⟨by decide +kernel, rfl⟩
theorem qX2_areTogether_12 : DI cX2_areTogether 12 (.iconst 0) 1 13 := ⟨by decide +kernel, rfl⟩
theorem qX2_areTogether_13 : DI cX2_areTogether 13 (.invokevirtual 68) 3 16 := ⟨by decide +kernel, rfl⟩
theorem qX2_areTogether_16 : DI cX2_areTogether 16 (.aload_n 0) 1 17 := ⟨by decide +kernel, rfl⟩
theorem qX2_areTogether_17 : DI cX2_areTogether 17 (.iconst 0) 1 18 := ⟨by decide +kernel, rfl⟩
theorem qX2_areTogether_18 : DI cX2_areTogether 18 (.iconst 0) 1 19 := ⟨by decide +kernel, rfl⟩
theorem qX2_areTogether_19 : DI cX2_areTogether 19 (.invokevirtual 68) 3 22 := ⟨by decide +kernel, rfl⟩
theorem qX2_areTogether_22 : DJ cX2_areTogether 22 (.if_icmp .eq) 27 25 := ⟨5, by decide +kernel, by decide, rfl⟩
theorem qX2_areTogether_25 : DI cX2_areTogether 25 (.iconst 0) 1 26 := ⟨by decide +kernel, rfl⟩
theorem qX2_areTogether_26 : DI cX2_areTogether 26 (.ireturn) 1 27 := ⟨by decide +kernel, rfl⟩
theorem qX2_areTogether_27 : DI cX2_areTogether 27 (.iinc 1 1) 3 30 := ⟨by decide +kernel, rfl⟩
theorem qX2_areTogether_30 : DJ cX2_areTogether 30 .goto 2 33 := ⟨(-28), by decide +kernel, by decide, rfl⟩
theorem qX2_areTogether_33 : DI cX2_areTogether 33 (.iconst 1) 1 34 := ⟨by decide +kernel, rfl⟩
theorem qX2_areTogether_34 : DI cX2_areTogether 34 (.ireturn) 1 35 := ⟨by decide +kernel, rfl⟩
theorem qX2_isAlone_0 : DI cX2_isAlone 0 (.iconst 0) 1 1 := ⟨by decide +kernel, rfl⟩
theorem qX2_isAlone_1 : DI cX2_isAlone 1 (.istore_n 2) 1 2 := ⟨by decide +kernel, rfl⟩
theorem qX2_isAlone_2 : DI cX2_isAlone 2 (.iload_n 2) 1 3 := ⟨by decide +kernel, rfl⟩
theorem qX2_isAlone_3 : DI cX2_isAlone 3 (.aload_n 0) 1 4 := ⟨by decide +kernel, rfl⟩
theorem qX2_isAlone_4 : DI cX2_isAlone 4 (.getfield 34) 3 7 := ⟨by decide +kernel, rfl⟩
theorem qX2_isAlone_7 : DJ cX2_isAlone 7 (.if_icmp .ge) 38 10 := ⟨31, by decide +kernel, by decide, rfl⟩
theorem qX2_isAlone_10 : DI cX2_isAlone 10 (.iload_n 2) 1 11 := ⟨by decide +kernel, rfl⟩
theorem qX2_isAlone_11 : DI cX2_isAlone 11 (.iload_n 1) 1 12 := ⟨by decide +kernel, rfl⟩
theorem qX2_isAlone_12 : DJ cX2_isAlone 12 (.if_icmp .eq) 32 15 := ⟨20, by decide +kernel, by decide, rfl⟩
theorem qX2_isAlone_15 : DI cX2_isAlone 15 (.aload_n 0) 1 16 := ⟨by decide +kernel, rfl⟩
theorem qX2_isAlone_16 : DI cX2_isAlone 16 (.iload_n 2) 1 17 := ⟨by decide +kernel, rfl⟩
theorem qX2_isAlone_17 : DI cX2_isAlone 17 (.iconst 0) 1 18 := ⟨by decide +kernel, rfl⟩
theorem qX2_isAlone_18 : DI cX2_isAlone 18 (.invokevirtual 68) 3 21 := ⟨by decide +kernel, rfl⟩
theorem qX2_isAlone_21 : DI cX2_isAlone 21 (.aload_n 0) 1 22 := ⟨by decide +kernel, rfl⟩
theorem qX2_isAlone_22 : DI cX2_isAlone 22 (.iload_n 1) 1 23 := ⟨by decide +kernel, rfl⟩
theorem qX2_isAlone_23 : DI cX2_isAlone 23 (.iconst 0) 1 24 := ⟨by decide +kernel, rfl⟩
theorem qX2_isAlone_24 : DI cX2_isAlone 24 (.invokevirtual 68) 3 27 := ⟨by decide +kernel, rfl⟩
theorem qX2_isAlone_27 : DJ cX2_isAlone 27 (.if_icmp .ne) 32 30 := ⟨5, by decide +kernel, by decide, rfl⟩
theorem qX2_isAlone_30 : DI cX2_isAlone 30 (.iconst 0) 1 31 := ⟨by decide +kernel, rfl⟩
theorem qX2_isAlone_31 : DI cX2_isAlone 31 (.ireturn) 1 32 := ⟨by decide +kernel, rfl⟩
theorem qX2_isAlone_32 : DI cX2_isAlone 32 (.iinc 2 1) 3 35 := ⟨by decide +kernel, rfl⟩
theorem qX2_isAlone_35 : DJ cX2_isAlone 35 .goto 2 38 := ⟨(-33), by decide +kernel, by decide, rfl⟩
theorem qX2_isAlone_38 : DI cX2_isAlone 38 (.iconst 1) 1 39 := ⟨by decide +kernel, rfl⟩
theorem qX2_isAlone_39 : DI cX2_isAlone 39 (.ireturn) 1 40 := ⟨by decide +kernel, rfl⟩
theorem qX2_nobodyMoves_0 : DI cX2_nobodyMoves 0 (.iconst 0) 1 1 := ⟨by decide +kernel, rfl⟩
theorem qX2_nobodyMoves_1 : DI cX2_nobodyMoves 1 (.istore_n 1) 1 2 := ⟨by decide +kernel, rfl⟩
theorem qX2_nobodyMoves_2 : DI cX2_nobodyMoves 2 (.iload_n 1) 1 3 := ⟨by decide +kernel, rfl⟩
theorem qX2_nobodyMoves_3 : DI cX2_nobodyMoves 3 (.aload_n 0) 1 4 := ⟨by decide +kernel, rfl⟩
theorem qX2_nobodyMoves_4 : DI cX2_nobodyMoves 4 (.getfield 34) 3 7 := ⟨by decide +kernel, rfl⟩
theorem qX2_nobodyMoves_7 : DJ cX2_nobodyMoves 7 (.if_icmp .ge) 32 10 := ⟨25, by decide +kernel, by decide, rfl⟩
theorem qX2_nobodyMoves_10 : DI cX2_nobodyMoves 10 (.aload_n 0) 1 11 := ⟨by decide +kernel, rfl⟩
theorem qX2_nobodyMoves_11 : DI cX2_nobodyMoves 11 (.iload_n 1) 1 12 := ⟨by decide +kernel, rfl⟩
theorem qX2_nobodyMoves_12 : DI cX2_nobodyMoves 12 (.invokevirtual 77) 3 15 := ⟨by decide +kernel, rfl⟩
theorem qX2_nobodyMoves_15 : DI cX2_nobodyMoves 15 (.aload_n 0) 1 16 := ⟨by decide +kernel, rfl⟩
theorem qX2_nobodyMoves_16 : DI cX2_nobodyMoves 16 (.iload_n 1) 1 17 := ⟨by decide +kernel, rfl⟩
theorem qX2_nobodyMoves_17 : DI cX2_nobodyMoves 17 (.iconst 0) 1 18 := ⟨by decide +kernel, rfl⟩
theorem qX2_nobodyMoves_18 : DI cX2_nobodyMoves 18 (.invokevirtual 68) 3 21 := ⟨by decide +kernel, rfl⟩
theorem qX2_nobodyMoves_21 : DJ cX2_nobodyMoves 21 (.if_icmp .eq) 26 24 := ⟨5, by decide +kernel, by decide, rfl⟩
theorem qX2_nobodyMoves_24 : DI cX2_nobodyMoves 24 (.iconst 0) 1 25 := ⟨by decide +kernel, rfl⟩
theorem qX2_nobodyMoves_25 : DI cX2_nobodyMoves 25 (.ireturn) 1 26 := ⟨by decide +kernel, rfl⟩
theorem qX2_nobodyMoves_26 : DI cX2_nobodyMoves 26 (.iinc 1 1) 3 29 := ⟨by decide +kernel, rfl⟩
theorem qX2_nobodyMoves_29 : DJ cX2_nobodyMoves 29 .goto 2 32 := ⟨(-27), by decide +kernel, by decide, rfl⟩
theorem qX2_nobodyMoves_32 : DI cX2_nobodyMoves 32 (.iconst 1) 1 33 := ⟨by decide +kernel, rfl⟩
theorem qX2_nobodyMoves_33 : DI cX2_nobodyMoves 33 (.ireturn) 1 34 := ⟨by decide +kernel, rfl⟩
theorem qX2_standsAs_0 : DI cX2_standsAs 0 (.iconst 0) 1 1 := ⟨by decide +kernel, rfl⟩
theorem qX2_standsAs_1 : DI cX2_standsAs 1 (.istore_n 2) 1 2 := ⟨by decide +kernel, rfl⟩
theorem qX2_standsAs_2 : DI cX2_standsAs 2 (.iload_n 2) 1 3 := ⟨by decide +kernel, rfl⟩
theorem qX2_standsAs_3 : DI cX2_standsAs 3 (.aload_n 0) 1 4 := ⟨by decide +kernel, rfl⟩
theorem qX2_standsAs_4 : DI cX2_standsAs 4 (.getfield 34) 3 7 := ⟨by decide +kernel, rfl⟩
theorem qX2_standsAs_7 : DI cX2_standsAs 7 (.bipush 8) 2 9 := ⟨by decide +kernel, rfl⟩
theorem qX2_standsAs_9 : DI cX2_standsAs 9 (.imul) 1 10 := ⟨by decide +kernel, rfl⟩
theorem qX2_standsAs_10 : DJ cX2_standsAs 10 (.if_icmp .ge) 36 13 := ⟨26, by decide +kernel, by decide, rfl⟩
theorem qX2_standsAs_13 : DI cX2_standsAs 13 (.aload_n 0) 1 14 := ⟨by decide +kernel, rfl⟩
theorem qX2_standsAs_14 : DI cX2_standsAs 14 (.getfield 21) 3 17 := ⟨by decide +kernel, rfl⟩
theorem qX2_standsAs_17 : DI cX2_standsAs 17 (.iload_n 2) 1 18 := ⟨by decide +kernel, rfl⟩
theorem qX2_standsAs_18 : DI cX2_standsAs 18 (.iaload) 1 19 := ⟨by decide +kernel, rfl⟩
theorem qX2_standsAs_19 : DI cX2_standsAs 19 (.aload_n 1) 1 20 := ⟨by decide +kernel, rfl⟩
theorem qX2_standsAs_20 : DI cX2_standsAs 20 (.getfield 21) 3 23 := ⟨by decide +kernel, rfl⟩
theorem qX2_standsAs_23 : DI cX2_standsAs 23 (.iload_n 2) 1 24 := ⟨by decide +kernel, rfl⟩
theorem qX2_standsAs_24 : DI cX2_standsAs 24 (.iaload) 1 25 := ⟨by decide +kernel, rfl⟩
theorem qX2_standsAs_25 : DJ cX2_standsAs 25 (.if_icmp .eq) 30 28 := ⟨5, by decide +kernel, by decide, rfl⟩
theorem qX2_standsAs_28 : DI cX2_standsAs 28 (.iconst 0) 1 29 := ⟨by decide +kernel, rfl⟩
theorem qX2_standsAs_29 : DI cX2_standsAs 29 (.ireturn) 1 30 := ⟨by decide +kernel, rfl⟩
theorem qX2_standsAs_30 : DI cX2_standsAs 30 (.iinc 2 1) 3 33 := ⟨by decide +kernel, rfl⟩
theorem qX2_standsAs_33 : DJ cX2_standsAs 33 .goto 2 36 := ⟨(-31), by decide +kernel, by decide, rfl⟩
theorem qX2_standsAs_36 : DI cX2_standsAs 36 (.iconst 1) 1 37 := ⟨by decide +kernel, rfl⟩
theorem qX2_standsAs_37 : DI cX2_standsAs 37 (.ireturn) 1 38 := ⟨by decide +kernel, rfl⟩
theorem qX2_placesTaken_0 : DI cX2_placesTaken 0 (.iconst 0) 1 1 := ⟨by decide +kernel, rfl⟩
theorem qX2_placesTaken_1 : DI cX2_placesTaken 1 (.istore_n 1) 1 2 := ⟨by decide +kernel, rfl⟩
theorem qX2_placesTaken_2 : DI cX2_placesTaken 2 (.iconst 0) 1 3 := ⟨by decide +kernel, rfl⟩
theorem qX2_placesTaken_3 : DI cX2_placesTaken 3 (.istore_n 2) 1 4 := ⟨by decide +kernel, rfl⟩
theorem qX2_placesTaken_4 : DI cX2_placesTaken 4 (.iload_n 2) 1 5 := ⟨by decide +kernel, rfl⟩
theorem qX2_placesTaken_5 : DI cX2_placesTaken 5 (.aload_n 0) 1 6 := ⟨by decide +kernel, rfl⟩
theorem qX2_placesTaken_6 : DI cX2_placesTaken 6 (.getfield 34) 3 9 := ⟨by decide +kernel, rfl⟩
theorem qX2_placesTaken_9 : DJ cX2_placesTaken 9 (.if_icmp .ge) 60 12 := ⟨51, by decide +kernel, by decide, rfl⟩
theorem qX2_placesTaken_12 : DI cX2_placesTaken 12 (.iconst 1) 1 13 := ⟨by decide +kernel, rfl⟩
theorem qX2_placesTaken_13 : DI cX2_placesTaken 13 (.istore_n 3) 1 14 := ⟨by decide +kernel, rfl⟩
theorem qX2_placesTaken_14 : DI cX2_placesTaken 14 (.iconst 0) 1 15 := ⟨by decide +kernel, rfl⟩
theorem qX2_placesTaken_15 : DI cX2_placesTaken 15 (.istore 4) 2 17 := ⟨by decide +kernel, rfl⟩
theorem qX2_placesTaken_17 : DI cX2_placesTaken 17 (.iload 4) 2 19 := ⟨by decide +kernel, rfl⟩
theorem qX2_placesTaken_19 : DI cX2_placesTaken 19 (.iload_n 2) 1 20 := ⟨by decide +kernel, rfl⟩
theorem qX2_placesTaken_20 : DJ cX2_placesTaken 20 (.if_icmp .ge) 47 23 := ⟨27, by decide +kernel, by decide, rfl⟩
theorem qX2_placesTaken_23 : DI cX2_placesTaken 23 (.aload_n 0) 1 24 := ⟨by decide +kernel, rfl⟩
theorem qX2_placesTaken_24 : DI cX2_placesTaken 24 (.iload 4) 2 26 := ⟨by decide +kernel, rfl⟩
theorem qX2_placesTaken_26 : DI cX2_placesTaken 26 (.iconst 0) 1 27 := ⟨by decide +kernel, rfl⟩
theorem qX2_placesTaken_27 : DI cX2_placesTaken 27 (.invokevirtual 68) 3 30 := ⟨by decide +kernel, rfl⟩
theorem qX2_placesTaken_30 : DI cX2_placesTaken 30 (.aload_n 0) 1 31 := ⟨by decide +kernel, rfl⟩
theorem qX2_placesTaken_31 : DI cX2_placesTaken 31 (.iload_n 2) 1 32 := ⟨by decide +kernel, rfl⟩
theorem qX2_placesTaken_32 : DI cX2_placesTaken 32 (.iconst 0) 1 33 := ⟨by decide +kernel, rfl⟩
theorem qX2_placesTaken_33 : DI cX2_placesTaken 33 (.invokevirtual 68) 3 36 := ⟨by decide +kernel, rfl⟩
theorem qX2_placesTaken_36 : DJ cX2_placesTaken 36 (.if_icmp .ne) 41 39 := ⟨5, by decide +kernel, by decide, rfl⟩
theorem qX2_placesTaken_39 : DI cX2_placesTaken 39 (.iconst 0) 1 40 := ⟨by decide +kernel, rfl⟩
theorem qX2_placesTaken_40 : DI cX2_placesTaken 40 (.istore_n 3) 1 41 := ⟨by decide +kernel, rfl⟩
theorem qX2_placesTaken_41 : DI cX2_placesTaken 41 (.iinc 4 1) 3 44 := ⟨by decide +kernel, rfl⟩
theorem qX2_placesTaken_44 : DJ cX2_placesTaken 44 .goto 17 47 := ⟨(-27), by decide +kernel, by decide, rfl⟩
theorem qX2_placesTaken_47 : DI cX2_placesTaken 47 (.iload_n 3) 1 48 := ⟨by decide +kernel, rfl⟩
theorem qX2_placesTaken_48 : DJ cX2_placesTaken 48 (.ifCond .eq) 54 51 := ⟨6, by decide +kernel, by decide, rfl⟩
theorem qX2_placesTaken_51 : DI cX2_placesTaken 51 (.iinc 1 1) 3 54 := ⟨by decide +kernel, rfl⟩
theorem qX2_placesTaken_54 : DI cX2_placesTaken 54 (.iinc 2 1) 3 57 := ⟨by decide +kernel, rfl⟩
theorem qX2_placesTaken_57 : DJ cX2_placesTaken 57 .goto 4 60 := ⟨(-53), by decide +kernel, by decide, rfl⟩
theorem qX2_placesTaken_60 : DI cX2_placesTaken 60 (.iload_n 1) 1 61 := ⟨by decide +kernel, rfl⟩
theorem qX2_placesTaken_61 : DI cX2_placesTaken 61 (.ireturn) 1 62 := ⟨by decide +kernel, rfl⟩
theorem qX2_apart_0 : DI cX2_apart 0 (.aload_n 0) 1 1 := ⟨by decide +kernel, rfl⟩
theorem qX2_apart_1 : DI cX2_apart 1 (.iload_n 1) 1 2 := ⟨by decide +kernel, rfl⟩
theorem qX2_apart_2 : DI cX2_apart 2 (.iconst 0) 1 3 := ⟨by decide +kernel, rfl⟩
theorem qX2_apart_3 : DI cX2_apart 3 (.invokevirtual 68) 3 6 := ⟨by decide +kernel, rfl⟩
theorem qX2_apart_6 : DI cX2_apart 6 (.aload_n 0) 1 7 := ⟨by decide +kernel, rfl⟩
theorem qX2_apart_7 : DI cX2_apart 7 (.iload_n 2) 1 8 := ⟨by decide +kernel, rfl⟩
theorem qX2_apart_8 : DI cX2_apart 8 (.iconst 0) 1 9 := ⟨by decide +kernel, rfl⟩
theorem qX2_apart_9 : DI cX2_apart 9 (.invokevirtual 68) 3 12 := ⟨by decide +kernel, rfl⟩
theorem qX2_apart_12 : DI cX2_apart 12 (.isub) 1 13 := ⟨by decide +kernel, rfl⟩
theorem qX2_apart_13 : DI cX2_apart 13 (.aload_n 0) 1 14 := ⟨by decide +kernel, rfl⟩
theorem qX2_apart_14 : DI cX2_apart 14 (.getfield 30) 3 17 := ⟨by decide +kernel, rfl⟩
theorem qX2_apart_17 : DI cX2_apart 17 (.getfield 47) 3 20 := ⟨by decide +kernel, rfl⟩
theorem qX2_apart_20 : DI cX2_apart 20 (.invokestatic 60) 3 23 := ⟨by decide +kernel, rfl⟩
theorem qX2_apart_23 : DI cX2_apart 23 (.istore_n 3) 1 24 := ⟨by decide +kernel, rfl⟩
theorem qX2_apart_24 : DI cX2_apart 24 (.iload_n 3) 1 25 := ⟨by decide +kernel, rfl⟩
theorem qX2_apart_25 : DI cX2_apart 25 (.aload_n 0) 1 26 := ⟨by decide +kernel, rfl⟩
theorem qX2_apart_26 : DI cX2_apart 26 (.getfield 30) 3 29 := ⟨by decide +kernel, rfl⟩
theorem qX2_apart_29 : DI cX2_apart 29 (.getfield 47) 3 32 := ⟨by decide +kernel, rfl⟩
theorem qX2_apart_32 : DI cX2_apart 32 (.iload_n 3) 1 33 := ⟨by decide +kernel, rfl⟩
theorem qX2_apart_33 : DI cX2_apart 33 (.isub) 1 34 := ⟨by decide +kernel, rfl⟩
theorem qX2_apart_34 : DI cX2_apart 34 (.invokestatic 92) 3 37 := ⟨by decide +kernel, rfl⟩
theorem qX2_apart_37 : DI cX2_apart 37 (.ireturn) 1 38 := ⟨by decide +kernel, rfl⟩
theorem qX2_countStanding_0 : DI cX2_countStanding 0 (.iconst 0) 1 1 := ⟨by decide +kernel, rfl⟩
theorem qX2_countStanding_1 : DI cX2_countStanding 1 (.istore_n 2) 1 2 := ⟨by decide +kernel, rfl⟩
theorem qX2_countStanding_2 : DI cX2_countStanding 2 (.iload_n 2) 1 3 := ⟨by decide +kernel, rfl⟩
theorem qX2_countStanding_3 : DI cX2_countStanding 3 (.aload_n 0) 1 4 := ⟨by decide +kernel, rfl⟩
theorem qX2_countStanding_4 : DI cX2_countStanding 4 (.getfield 34) 3 7 := ⟨by decide +kernel, rfl⟩
theorem qX2_countStanding_7 : DJ cX2_countStanding 7 (.if_icmp .ge) 40 10 := ⟨33, by decide +kernel, by decide, rfl⟩
theorem qX2_countStanding_10 : DI cX2_countStanding 10 (.aload_n 0) 1 11 := ⟨by decide +kernel, rfl⟩
theorem qX2_countStanding_11 : DI cX2_countStanding 11 (.iload_n 2) 1 12 := ⟨by decide +kernel, rfl⟩
theorem qX2_countStanding_12 : DI cX2_countStanding 12 (.iconst 0) 1 13 := ⟨by decide +kernel, rfl⟩
theorem qX2_countStanding_13 : DI cX2_countStanding 13 (.invokevirtual 68) 3 16 := ⟨by decide +kernel, rfl⟩
theorem qX2_countStanding_16 : DI cX2_countStanding 16 (.istore_n 3) 1 17 := ⟨by decide +kernel, rfl⟩
theorem qX2_countStanding_17 : DI cX2_countStanding 17 (.iload_n 3) 1 18 := ⟨by decide +kernel, rfl⟩
theorem qX2_countStanding_18 : DJ cX2_countStanding 18 (.ifCond .lt) 34 21 := ⟨16, by decide +kernel, by decide, rfl⟩
theorem qX2_countStanding_21 : DI cX2_countStanding 21 (.iload_n 3) 1 22 := ⟨by decide +kernel, rfl⟩
theorem qX2_countStanding_22 : DI cX2_countStanding 22 (.aload_n 1) 1 23 := ⟨by decide +kernel, rfl⟩
theorem qX2_countStanding_23 : DI cX2_countStanding 23 (.arraylength) 1 24 := ⟨by decide +kernel, rfl⟩
theorem qX2_countStanding_24 : DJ cX2_countStanding 24 (.if_icmp .ge) 34 27 := ⟨10, by decide +kernel, by decide, rfl⟩
theorem qX2_countStanding_27 : DI cX2_countStanding 27 (.aload_n 1) 1 28 := ⟨by decide +kernel, rfl⟩
theorem qX2_countStanding_28 : DI cX2_countStanding 28 (.iload_n 3) 1 29 := ⟨by decide +kernel, rfl⟩
theorem qX2_countStanding_29 : DI cX2_countStanding 29 (.dup2) 1 30 := ⟨by decide +kernel, rfl⟩
theorem qX2_countStanding_30 : DI cX2_countStanding 30 (.iaload) 1 31 := ⟨by decide +kernel, rfl⟩
theorem qX2_countStanding_31 : DI cX2_countStanding 31 (.iconst 1) 1 32 := ⟨by decide +kernel, rfl⟩
theorem qX2_countStanding_32 : DI cX2_countStanding 32 (.iadd) 1 33 := ⟨by decide +kernel, rfl⟩
theorem qX2_countStanding_33 : DI cX2_countStanding 33 (.iastore) 1 34 := ⟨by decide +kernel, rfl⟩
theorem qX2_countStanding_34 : DI cX2_countStanding 34 (.iinc 2 1) 3 37 := ⟨by decide +kernel, rfl⟩
theorem qX2_countStanding_37 : DJ cX2_countStanding 37 .goto 2 40 := ⟨(-35), by decide +kernel, by decide, rfl⟩
theorem qX2_countStanding_40 : DI cX2_countStanding 40 (.return_) 1 41 := ⟨by decide +kernel, rfl⟩
theorem qX3_clear_0 : DI cX3_clear 0 (.aload_n 0) 1 1 := ⟨by decide +kernel, rfl⟩
theorem qX3_clear_1 : DI cX3_clear 1 (.bipush 24) 2 3 := ⟨by decide +kernel, rfl⟩
theorem qX3_clear_3 : DI cX3_clear 3 (.putfield 11) 3 6 := ⟨by decide +kernel, rfl⟩
theorem qX3_clear_6 : DI cX3_clear 6 (.aload_n 0) 1 7 := ⟨by decide +kernel, rfl⟩
theorem qX3_clear_7 : DI cX3_clear 7 (.iconst 0) 1 8 := ⟨by decide +kernel, rfl⟩
theorem qX3_clear_8 : DI cX3_clear 8 (.putfield 27) 3 11 := ⟨by decide +kernel, rfl⟩
theorem qX3_clear_11 : DI cX3_clear 11 (.aload_n 0) 1 12 := ⟨by decide +kernel, rfl⟩
theorem qX3_clear_12 : DI cX3_clear 12 (.iconst 0) 1 13 := ⟨by decide +kernel, rfl⟩
theorem qX3_clear_13 : DI cX3_clear 13 (.putfield 30) 3 16 := ⟨by decide +kernel, rfl⟩
theorem qX3_clear_16 : DI cX3_clear 16 (.aload_n 0) 1 17 := ⟨by decide +kernel, rfl⟩
theorem qX3_clear_17 : DI cX3_clear 17 (.iconst 0) 1 18 := ⟨by decide +kernel, rfl⟩
theorem qX3_clear_18 : DI cX3_clear 18 (.putfield 33) 3 21 := ⟨by decide +kernel, rfl⟩
theorem qX3_clear_21 : DI cX3_clear 21 (.return_) 1 22 := ⟨by decide +kernel, rfl⟩
theorem qX3_setWide_0 : DI cX3_setWide 0 (.aload_n 0) 1 1 := ⟨by decide +kernel, rfl⟩
theorem qX3_setWide_1 : DI cX3_setWide 1 (.iconst 1) 1 2 := ⟨by decide +kernel, rfl⟩
theorem qX3_setWide_2 : DI cX3_setWide 2 (.iload_n 1) 1 3 := ⟨by decide +kernel, rfl⟩
theorem qX3_setWide_3 : DI cX3_setWide 3 (.bipush 99) 2 5 := ⟨by decide +kernel, rfl⟩
theorem qX3_setWide_5 : DI cX3_setWide 5 (.invokestatic 36) 3 8 := ⟨by decide +kernel, rfl⟩
theorem qX3_setWide_8 : DI cX3_setWide 8 (.invokestatic 42) 3 11 := ⟨by decide +kernel, rfl⟩
theorem qX3_setWide_11 : DI cX3_setWide 11 (.putfield 11) 3 14 := ⟨by decide +kernel, rfl⟩
theorem qX3_setWide_14 : DI cX3_setWide 14 (.return_) 1 15 := ⟨by decide +kernel, rfl⟩
theorem qX3_addCode_0 : DI cX3_addCode 0 (.aload_n 0) 1 1 := ⟨by decide +kernel, rfl⟩
theorem qX3_addCode_1 : DI cX3_addCode 1 (.getfield 33) 3 4 := ⟨by decide +kernel, rfl⟩
theorem qX3_addCode_4 : DJ cX3_addCode 4 (.ifCond .lt) 19 7 := ⟨15, by decide +kernel, by decide, rfl⟩
theorem qX3_addCode_7 : DI cX3_addCode 7 (.aload_n 0) 1 8 := ⟨by decide +kernel, rfl⟩
theorem qX3_addCode_8 : DI cX3_addCode 8 (.getfield 33) 3 11 := ⟨by decide +kernel, rfl⟩
theorem qX3_addCode_11 : DI cX3_addCode 11 (.aload_n 0) 1 12 := ⟨by decide +kernel, rfl⟩
theorem qX3_addCode_12 : DI cX3_addCode 12 (.getfield 24) 3 15 := ⟨by decide +kernel, rfl⟩
theorem qX3_addCode_15 : DI cX3_addCode 15 (.arraylength) 1 16 := ⟨by decide +kernel, rfl⟩
theorem qX3_addCode_16 : DJ cX3_addCode 16 (.if_icmp .lt) 20 19 := ⟨4, by decide +kernel, by decide, rfl⟩
theorem qX3_addCode_19 : DI cX3_addCode 19 (.return_) 1 20 := ⟨by decide +kernel, rfl⟩
theorem qX3_addCode_20 : DI cX3_addCode 20 (.aload_n 0) 1 21 := ⟨by decide +kernel, rfl⟩
theorem qX3_addCode_21 : DI cX3_addCode 21 (.getfield 24) 3 24 := ⟨by decide +kernel, rfl⟩
theorem qX3_addCode_24 : DI cX3_addCode 24 (.aload_n 0) 1 25 := ⟨by decide +kernel, rfl⟩
theorem qX3_addCode_25 : DI cX3_addCode 25 (.getfield 33) 3 28 := ⟨by decide +kernel, rfl⟩
theorem qX3_addCode_28 : DI cX3_addCode 28 (.iload_n 1) 1 29 := ⟨by decide +kernel, rfl⟩
theorem qX3_addCode_29 : DI cX3_addCode 29 (.iastore) 1 30 := ⟨by decide +kernel, rfl⟩
theorem qX3_addCode_30 : DI cX3_addCode 30 (.aload_n 0) 1 31 := ⟨by decide +kernel, rfl⟩
theorem qX3_addCode_31 : DI cX3_addCode 31 (.dup) 1 32 := ⟨by decide +kernel, rfl⟩
theorem qX3_addCode_32 : DI cX3_addCode 32 (.getfield 33) 3 35 := ⟨by decide +kernel, rfl⟩
theorem qX3_addCode_35 : DI cX3_addCode 35 (.iconst 1) 1 36 := ⟨by decide +kernel, rfl⟩
theorem qX3_addCode_36 : DI cX3_addCode 36 (.iadd) 1 37 := ⟨by decide +kernel, rfl⟩
theorem qX3_addCode_37 : DI cX3_addCode 37 (.putfield 33) 3 40 := ⟨by decide +kernel, rfl⟩
theorem qX3_addCode_40 : DI cX3_addCode 40 (.return_) 1 41 := ⟨by decide +kernel, rfl⟩
theorem qX3_testCode_0 : DI cX3_testCode 0 (.iload_n 0) 1 1 := ⟨by decide +kernel, rfl⟩
theorem qX3_testCode_1 : DI cX3_testCode 1 (.iconst 3) 1 2 := ⟨by decide +kernel, rfl⟩
theorem qX3_testCode_2 : DI cX3_testCode 2 (.imul) 1 3 := ⟨by decide +kernel, rfl⟩
theorem qX3_testCode_3 : DI cX3_testCode 3 (.iload_n 1) 1 4 := ⟨by decide +kernel, rfl⟩
theorem qX3_testCode_4 : DI cX3_testCode 4 (.iadd) 1 5 := ⟨by decide +kernel, rfl⟩
theorem qX3_testCode_5 : DI cX3_testCode 5 (.bipush 100) 2 7 := ⟨by decide +kernel, rfl⟩
theorem qX3_testCode_7 : DI cX3_testCode 7 (.imul) 1 8 := ⟨by decide +kernel, rfl⟩
theorem qX3_testCode_8 : DI cX3_testCode 8 (.iload_n 2) 1 9 := ⟨by decide +kernel, rfl⟩
theorem qX3_testCode_9 : DI cX3_testCode 9 (.iadd) 1 10 := ⟨by decide +kernel, rfl⟩
theorem qX3_testCode_10 : DI cX3_testCode 10 (.ireturn) 1 11 := ⟨by decide +kernel, rfl⟩
theorem qX3_addStep_0 : DI cX3_addStep 0 (.aload_n 0) 1 1 := ⟨by decide +kernel, rfl⟩
theorem qX3_addStep_1 : DI cX3_addStep 1 (.getfield 30) 3 4 := ⟨by decide +kernel, rfl⟩
theorem qX3_addStep_4 : DJ cX3_addStep 4 (.ifCond .lt) 16 7 := ⟨12, by decide +kernel, by decide, rfl⟩
theorem qX3_addStep_7 : DI cX3_addStep 7 (.aload_n 0) 1 8 := ⟨by decide +kernel, rfl⟩
theorem qX3_addStep_8 : DI cX3_addStep 8 (.getfield 30) 3 11 := ⟨by decide +kernel, rfl⟩
theorem qX3_addStep_11 : DI cX3_addStep 11 (.bipush 10) 2 13 := ⟨by decide +kernel, rfl⟩
theorem qX3_addStep_13 : DJ cX3_addStep 13 (.if_icmp .lt) 17 16 := ⟨4, by decide +kernel, by decide, rfl⟩
theorem qX3_addStep_16 : DI cX3_addStep 16 (.return_) 1 17 := ⟨by decide +kernel, rfl⟩
theorem qX3_addStep_17 : DI cX3_addStep 17 (.aload_n 0) 1 18 := ⟨by decide +kernel, rfl⟩
theorem qX3_addStep_18 : DI cX3_addStep 18 (.getfield 15) 3 21 := ⟨by decide +kernel, rfl⟩
theorem qX3_addStep_21 : DI cX3_addStep 21 (.aload_n 0) 1 22 := ⟨by decide +kernel, rfl⟩
theorem qX3_addStep_22 : DI cX3_addStep 22 (.getfield 30) 3 25 := ⟨by decide +kernel, rfl⟩
theorem qX3_addStep_25 : DI cX3_addStep 25 (.iload_n 1) 1 26 := ⟨by decide +kernel, rfl⟩
theorem qX3_addStep_26 : DI cX3_addStep 26 (.iastore) 1 27 := ⟨by decide +kernel, rfl⟩
theorem qX3_addStep_27 : DI cX3_addStep 27 (.aload_n 0) 1 28 := ⟨by decide +kernel, rfl⟩
theorem qX3_addStep_28 : DI cX3_addStep 28 (.getfield 19) 3 31 := ⟨by decide +kernel, rfl⟩
theorem qX3_addStep_31 : DI cX3_addStep 31 (.aload_n 0) 1 32 := ⟨by decide +kernel, rfl⟩
theorem qX3_addStep_32 : DI cX3_addStep 32 (.getfield 30) 3 35 := ⟨by decide +kernel, rfl⟩
theorem qX3_addStep_35 : DI cX3_addStep 35 (.aload_n 0) 1 36 := ⟨by decide +kernel, rfl⟩
theorem qX3_addStep_36 : DI cX3_addStep 36 (.getfield 33) 3 39 := ⟨by decide +kernel, rfl⟩
theorem qX3_addStep_39 : DI cX3_addStep 39 (.iastore) 1 40 := ⟨by decide +kernel, rfl⟩
theorem qX3_addStep_40 : DI cX3_addStep 40 (.aload_n 0) 1 41 := ⟨by decide +kernel, rfl⟩
theorem qX3_addStep_41 : DI cX3_addStep 41 (.dup) 1 42 := ⟨by decide +kernel, rfl⟩
theorem qX3_addStep_42 : DI cX3_addStep 42 (.getfield 30) 3 45 := ⟨by decide +kernel, rfl⟩
theorem qX3_addStep_45 : DI cX3_addStep 45 (.iconst 1) 1 46 := ⟨by decide +kernel, rfl⟩
theorem qX3_addStep_46 : DI cX3_addStep 46 (.iadd) 1 47 := ⟨by decide +kernel, rfl⟩
theorem qX3_addStep_47 : DI cX3_addStep 47 (.putfield 30) 3 50 := ⟨by decide +kernel, rfl⟩
theorem qX3_addStep_50 : DI cX3_addStep 50 (.return_) 1 51 := ⟨by decide +kernel, rfl⟩
theorem qX3_stopsAfter_0 : DI cX3_stopsAfter 0 (.aload_n 0) 1 1 := ⟨by decide +kernel, rfl⟩
theorem qX3_stopsAfter_1 : DI cX3_stopsAfter 1 (.getfield 27) 3 4 := ⟨by decide +kernel, rfl⟩
theorem qX3_stopsAfter_4 : DJ cX3_stopsAfter 4 (.ifCond .le) 22 7 := ⟨18, by decide +kernel, by decide, rfl⟩
theorem qX3_stopsAfter_7 : DI cX3_stopsAfter 7 (.iload_n 1) 1 8 := ⟨by decide +kernel, rfl⟩
theorem qX3_stopsAfter_8 : DI cX3_stopsAfter 8 (.iconst 1) 1 9 := ⟨by decide +kernel, rfl⟩
theorem qX3_stopsAfter_9 : DI cX3_stopsAfter 9 (.iadd) 1 10 := ⟨by decide +kernel, rfl⟩
theorem qX3_stopsAfter_10 : DI cX3_stopsAfter 10 (.aload_n 0) 1 11 := ⟨by decide +kernel, rfl⟩
theorem qX3_stopsAfter_11 : DI cX3_stopsAfter 11 (.getfield 27) 3 14 := ⟨by decide +kernel, rfl⟩
theorem qX3_stopsAfter_14 : DI cX3_stopsAfter 14 (.irem) 1 15 := ⟨by decide +kernel, rfl⟩
theorem qX3_stopsAfter_15 : DJ cX3_stopsAfter 15 (.ifCond .ne) 22 18 := ⟨7, by decide +kernel, by decide, rfl⟩
theorem qX3_stopsAfter_18 : DI cX3_stopsAfter 18 (.iconst 1) 1 19 := ⟨by decide +kernel, rfl⟩
theorem qX3_stopsAfter_19 : DJ cX3_stopsAfter 19 .goto 23 22 := ⟨4, by decide +kernel, by decide, rfl⟩
theorem qX3_stopsAfter_22 : DI cX3_stopsAfter 22 (.iconst 0) 1 23 := ⟨by decide +kernel, rfl⟩
theorem qX3_stopsAfter_23 : DI cX3_stopsAfter 23 (.ireturn) 1 24 := ⟨by decide +kernel, rfl⟩
theorem qX3_stepFor_0 : DI cX3_stepFor 0 (.iconst 0) 1 1 := ⟨by decide +kernel, rfl⟩
theorem qX3_stepFor_1 : DI cX3_stepFor 1 (.istore_n 3) 1 2 := ⟨by decide +kernel, rfl⟩
theorem qX3_stepFor_2 : DI cX3_stepFor 2 (.iconst 0) 1 3 := ⟨by decide +kernel, rfl⟩
theorem qX3_stepFor_3 : DI cX3_stepFor 3 (.istore 4) 2 5 := ⟨by decide +kernel, rfl⟩
theorem qX3_stepFor_5 : DI cX3_stepFor 5 (.iconst 0) 1 6 := ⟨by decide +kernel, rfl⟩
theorem qX3_stepFor_6 : DI cX3_stepFor 6 (.istore 5) 2 8 := ⟨by decide +kernel, rfl⟩
theorem qX3_stepFor_8 : DI cX3_stepFor 8 (.iload 5) 2 10 := ⟨by decide +kernel, rfl⟩
theorem qX3_stepFor_10 : DI cX3_stepFor 10 (.aload_n 0) 1 11 := ⟨by decide +kernel, rfl⟩
theorem qX3_stepFor_11 : DI cX3_stepFor 11 (.getfield 30) 3 14 := ⟨by decide +kernel, rfl⟩
theorem qX3_stepFor_14 : DJ cX3_stepFor 14 (.if_icmp .ge) 60 17 := ⟨46, by decide +kernel, by decide, rfl⟩
theorem qX3_stepFor_17 : DI cX3_stepFor 17 (.aload_n 0) 1 18 := ⟨by decide +kernel, rfl⟩
theorem qX3_stepFor_18 : DI cX3_stepFor 18 (.iload 4) 2 20 := ⟨by decide +kernel, rfl⟩
theorem qX3_stepFor_20 : DI cX3_stepFor 20 (.aload_n 0) 1 21 := ⟨by decide +kernel, rfl⟩
theorem qX3_stepFor_21 : DI cX3_stepFor 21 (.getfield 19) 3 24 := ⟨by decide +kernel, rfl⟩
theorem qX3_stepFor_24 : DI cX3_stepFor 24 (.iload 5) 2 26 := ⟨by decide +kernel, rfl⟩
theorem qX3_stepFor_26 : DI cX3_stepFor 26 (.iaload) 1 27 := ⟨by decide +kernel, rfl⟩
theorem qX3_stepFor_27 : DI cX3_stepFor 27 (.aload_n 1) 1 28 := ⟨by decide +kernel, rfl⟩
theorem qX3_stepFor_28 : DI cX3_stepFor 28 (.iload_n 2) 1 29 := ⟨by decide +kernel, rfl⟩
theorem qX3_stepFor_29 : DI cX3_stepFor 29 (.invokevirtual 45) 3 32 := ⟨by decide +kernel, rfl⟩
theorem qX3_stepFor_32 : DJ cX3_stepFor 32 (.ifCond .eq) 45 35 := ⟨13, by decide +kernel, by decide, rfl⟩
theorem qX3_stepFor_35 : DI cX3_stepFor 35 (.iload_n 3) 1 36 := ⟨by decide +kernel, rfl⟩
theorem qX3_stepFor_36 : DI cX3_stepFor 36 (.aload_n 0) 1 37 := ⟨by decide +kernel, rfl⟩
theorem qX3_stepFor_37 : DI cX3_stepFor 37 (.getfield 15) 3 40 := ⟨by decide +kernel, rfl⟩
theorem qX3_stepFor_40 : DI cX3_stepFor 40 (.iload 5) 2 42 := ⟨by decide +kernel, rfl⟩
theorem qX3_stepFor_42 : DI cX3_stepFor 42 (.iaload) 1 43 := ⟨by decide +kernel, rfl⟩
theorem qX3_stepFor_43 : DI cX3_stepFor 43 (.iadd) 1 44 := ⟨by decide +kernel, rfl⟩
theorem qX3_stepFor_44 : DI cX3_stepFor 44 (.istore_n 3) 1 45 := ⟨by decide +kernel, rfl⟩
theorem qX3_stepFor_45 : DI cX3_stepFor 45 (.aload_n 0) 1 46 := ⟨by decide +kernel, rfl⟩
theorem qX3_stepFor_46 : DI cX3_stepFor 46 (.getfield 19) 3 49 := ⟨by decide +kernel, rfl⟩
theorem qX3_stepFor_49 : DI cX3_stepFor 49 (.iload 5) 2 51 := ⟨by decide +kernel, rfl⟩
theorem qX3_stepFor_51 : DI cX3_stepFor 51 (.iaload) 1 52 := ⟨by decide +kernel, rfl⟩
theorem qX3_stepFor_52 : DI cX3_stepFor 52 (.istore 4) 2 54 := ⟨by decide +kernel, rfl⟩
theorem qX3_stepFor_54 : DI cX3_stepFor 54 (.iinc 5 1) 3 57 := ⟨by decide +kernel, rfl⟩
theorem qX3_stepFor_57 : DJ cX3_stepFor 57 .goto 8 60 := ⟨(-49), by decide +kernel, by decide, rfl⟩
theorem qX3_stepFor_60 : DI cX3_stepFor 60 (.iload_n 3) 1 61 := ⟨by decide +kernel, rfl⟩
theorem qX3_stepFor_61 : DI cX3_stepFor 61 (.ireturn) 1 62 := ⟨by decide +kernel, rfl⟩
theorem qX3_holds_0 : DI cX3_holds 0 (.lconst 0) 1 1 := ⟨by decide +kernel, rfl⟩
theorem qX3_holds_1 : DI cX3_holds 1 (.lstore 5) 2 3 := ⟨by decide +kernel, rfl⟩
theorem qX3_holds_3 : DI cX3_holds 3 (.iload_n 1) 1 4 := ⟨by decide +kernel, rfl⟩
theorem qX3_holds_4 : DI cX3_holds 4 (.istore 7) 2 6 := ⟨by decide +kernel, rfl⟩
theorem qX3_holds_6 : DI cX3_holds 6 (.iload 7) 2 8 := ⟨by decide +kernel, rfl⟩
theorem qX3_holds_8 : DI cX3_holds 8 (.iload_n 2) 1 9 := ⟨by decide +kernel, rfl⟩
theorem qX3_holds_9 : DJ cX3_holds 9 (.if_icmp .ge) 109 12 := ⟨100, by decide +kernel, by decide, rfl⟩
theorem qX3_holds_12 : DI cX3_holds 12 (.aload_n 0) 1 13 := ⟨by decide +kernel, rfl⟩
theorem qX3_holds_13 : DI cX3_holds 13 (.getfield 24) 3 16 := ⟨by decide +kernel, rfl⟩
theorem qX3_holds_16 : DI cX3_holds 16 (.iload 7) 2 18 := ⟨by decide +kernel, rfl⟩
theorem qX3_holds_18 : DI cX3_holds 18 (.iaload) 1 19 := ⟨by decide +kernel, rfl⟩
theorem qX3_holds_19 : DI cX3_holds 19 (.istore 8) 2 21 := ⟨by decide +kernel, rfl⟩
theorem qX3_holds_21 : DI cX3_holds 21 (.iload 8) 2 23 := ⟨by decide +kernel, rfl⟩
theorem qX3_holds_23 : DI cX3_holds 23 (.iconst (-1)) 1 24 := ⟨by decide +kernel, rfl⟩
theorem qX3_holds_24 : DJ cX3_holds 24 (.if_icmp .ne) 36 27 := ⟨12, by decide +kernel, by decide, rfl⟩
theorem qX3_holds_27 : DI cX3_holds 27 (.lload 5) 2 29 := ⟨by decide +kernel, rfl⟩
theorem qX3_holds_29 : DI cX3_holds 29 (.lconst 1) 1 30 := ⟨by decide +kernel, rfl⟩
theorem qX3_holds_30 : DI cX3_holds 30 (.lxor) 1 31 := ⟨by decide +kernel, rfl⟩
theorem qX3_holds_31 : DI cX3_holds 31 (.lstore 5) 2 33 := ⟨by decide +kernel, rfl⟩
theorem qX3_holds_33 : DJ cX3_holds 33 .goto 103 36 := ⟨70, by decide +kernel, by decide, rfl⟩
theorem qX3_holds_36 : DI cX3_holds 36 (.iload 8) 2 38 := ⟨by decide +kernel, rfl⟩
theorem qX3_holds_38 : DI cX3_holds 38 (.bipush (-2)) 2 40 := ⟨by decide +kernel, rfl⟩
theorem qX3_holds_40 : DJ cX3_holds 40 (.if_icmp .ne) 59 43 := ⟨19, by decide +kernel, by decide, rfl⟩
theorem qX3_holds_43 : DI cX3_holds 43 (.lload 5) 2 45 := ⟨by decide +kernel, rfl⟩
theorem qX3_holds_45 : DI cX3_holds 45 (.iconst 1) 1 46 := ⟨by decide +kernel, rfl⟩
theorem qX3_holds_46 : DI cX3_holds 46 (.lushr) 1 47 := ⟨by decide +kernel, rfl⟩
theorem qX3_holds_47 : DI cX3_holds 47 (.lload 5) 2 49 := ⟨by decide +kernel, rfl⟩
theorem qX3_holds_49 : DI cX3_holds 49 (.ldc2_w 49) 3 52 := ⟨by decide +kernel, rfl⟩
theorem qX3_holds_52 : DI cX3_holds 52 (.lor) 1 53 := ⟨by decide +kernel, rfl⟩
theorem qX3_holds_53 : DI cX3_holds 53 (.land) 1 54 := ⟨by decide +kernel, rfl⟩
theorem qX3_holds_54 : DI cX3_holds 54 (.lstore 5) 2 56 := ⟨by decide +kernel, rfl⟩
theorem qX3_holds_56 : DJ cX3_holds 56 .goto 103 59 := ⟨47, by decide +kernel, by decide, rfl⟩
theorem qX3_holds_59 : DI cX3_holds 59 (.iload 8) 2 61 := ⟨by decide +kernel, rfl⟩
theorem qX3_holds_61 : DI cX3_holds 61 (.bipush (-3)) 2 63 := ⟨by decide +kernel, rfl⟩
theorem qX3_holds_63 : DJ cX3_holds 63 (.if_icmp .ne) 80 66 := ⟨17, by decide +kernel, by decide, rfl⟩
theorem qX3_holds_66 : DI cX3_holds 66 (.lload 5) 2 68 := ⟨by decide +kernel, rfl⟩
theorem qX3_holds_68 : DI cX3_holds 68 (.iconst 1) 1 69 := ⟨by decide +kernel, rfl⟩
theorem qX3_holds_69 : DI cX3_holds 69 (.lushr) 1 70 := ⟨by decide +kernel, rfl⟩
theorem qX3_holds_70 : DI cX3_holds 70 (.lload 5) 2 72 := ⟨by decide +kernel, rfl⟩
theorem qX3_holds_72 : DI cX3_holds 72 (.lconst 1) 1 73 := ⟨by decide +kernel, rfl⟩
theorem qX3_holds_73 : DI cX3_holds 73 (.land) 1 74 := ⟨by decide +kernel, rfl⟩
theorem qX3_holds_74 : DI cX3_holds 74 (.lor) 1 75 := ⟨by decide +kernel, rfl⟩
theorem qX3_holds_75 : DI cX3_holds 75 (.lstore 5) 2 77 := ⟨by decide +kernel, rfl⟩
theorem qX3_holds_77 : DJ cX3_holds 77 .goto 103 80 := ⟨26, by decide +kernel, by decide, rfl⟩
theorem qX3_holds_80 : DI cX3_holds 80 (.lload 5) 2 82 := ⟨by decide +kernel, rfl⟩
theorem qX3_holds_82 : DI cX3_holds 82 (.iconst 1) 1 83 := ⟨by decide +kernel, rfl⟩
theorem qX3_holds_83 : DI cX3_holds 83 (.lshl) 1 84 := ⟨by decide +kernel, rfl⟩
theorem qX3_holds_84 : DI cX3_holds 84 (.iload 8) 2 86 := ⟨by decide +kernel, rfl⟩
theorem qX3_holds_86 : DI cX3_holds 86 (.aload_n 3) 1 87 := ⟨by decide +kernel, rfl⟩
theorem qX3_holds_87 : DI cX3_holds 87 (.iload 4) 2 89 := ⟨by decide +kernel, rfl⟩
theorem qX3_holds_89 : DI cX3_holds 89 (.invokestatic 51) 3 92 := ⟨by decide +kernel, rfl⟩
theorem qX3_holds_92 : DJ cX3_holds 92 (.ifCond .eq) 99 95 := ⟨7, by decide +kernel, by decide, rfl⟩
theorem qX3_holds_95 : DI cX3_holds 95 (.lconst 1) 1 96 := ⟨by decide +kernel, rfl⟩
theorem qX3_holds_96 : DJ cX3_holds 96 .goto 100 99 := ⟨4, by decide +kernel, by decide, rfl⟩
theorem qX3_holds_99 : DI cX3_holds 99 (.lconst 0) 1 100 := ⟨by decide +kernel, rfl⟩
theorem qX3_holds_100 : DI cX3_holds 100 (.lor) 1 101 := ⟨by decide +kernel, rfl⟩
theorem qX3_holds_101 : DI cX3_holds 101 (.lstore 5) 2 103 := ⟨by decide +kernel, rfl⟩
theorem qX3_holds_103 : DI cX3_holds 103 (.iinc 7 1) 3 106 := ⟨by decide +kernel, rfl⟩
theorem qX3_holds_106 : DJ cX3_holds 106 .goto 6 109 := ⟨(-100), by decide +kernel, by decide, rfl⟩
theorem qX3_holds_109 : DI cX3_holds 109 (.lload 5) 2 111 := ⟨by decide +kernel, rfl⟩
theorem qX3_holds_111 : DI cX3_holds 111 (.lconst 1) 1 112 := ⟨by decide +kernel, rfl⟩
theorem qX3_holds_112 : DI cX3_holds 112 (.land) 1 113 := ⟨by decide +kernel, rfl⟩
theorem qX3_holds_113 : DI cX3_holds 113 (.lconst 1) 1 114 := ⟨by decide +kernel, rfl⟩
theorem qX3_holds_114 : DI cX3_holds 114 (.lcmp) 1 115 := ⟨by decide +kernel, rfl⟩
theorem qX3_holds_115 : DJ cX3_holds 115 (.ifCond .ne) 122 118 := ⟨7, by decide +kernel, by decide, rfl⟩
theorem qX3_holds_118 : DI cX3_holds 118 (.iconst 1) 1 119 := ⟨by decide +kernel, rfl⟩
theorem qX3_holds_119 : DJ cX3_holds 119 .goto 123 122 := ⟨4, by decide +kernel, by decide, rfl⟩
theorem qX3_holds_122 : DI cX3_holds 122 (.iconst 0) 1 123 := ⟨by decide +kernel, rfl⟩
theorem qX3_holds_123 : DI cX3_holds 123 (.ireturn) 1 124 := ⟨by decide +kernel, rfl⟩
theorem qX3_passes_0 : DI cX3_passes 0 (.iload_n 0) 1 1 := ⟨by decide +kernel, rfl⟩
theorem qX3_passes_1 : DI cX3_passes 1 (.bipush 100) 2 3 := ⟨by decide +kernel, rfl⟩
theorem qX3_passes_3 : DI cX3_passes 3 (.irem) 1 4 := ⟨by decide +kernel, rfl⟩
theorem qX3_passes_4 : DI cX3_passes 4 (.istore_n 3) 1 5 := ⟨by decide +kernel, rfl⟩
theorem qX3_passes_5 : DI cX3_passes 5 (.iload_n 0) 1 6 := ⟨by decide +kernel, rfl⟩
theorem qX3_passes_6 : DI cX3_passes 6 (.bipush 100) 2 8 := ⟨by decide +kernel, rfl⟩
theorem qX3_passes_8 : DI cX3_passes 8 (.idiv) 1 9 := ⟨by decide +kernel, rfl⟩
theorem qX3_passes_9 : DI cX3_passes 9 (.iconst 3) 1 10 := ⟨by decide +kernel, rfl⟩
theorem qX3_passes_10 : DI cX3_passes 10 (.irem) 1 11 := ⟨by decide +kernel, rfl⟩
theorem qX3_passes_11 : DI cX3_passes 11 (.istore 4) 2 13 := ⟨by decide +kernel, rfl⟩
theorem qX3_passes_13 : DI cX3_passes 13 (.aload_n 1) 1 14 := ⟨by decide +kernel, rfl⟩
theorem qX3_passes_14 : DI cX3_passes 14 (.iload_n 0) 1 15 := ⟨by decide +kernel, rfl⟩
theorem qX3_passes_15 : DI cX3_passes 15 (.bipush 100) 2 17 := ⟨by decide +kernel, rfl⟩
theorem qX3_passes_17 : DI cX3_passes 17 (.idiv) 1 18 := ⟨by decide +kernel, rfl⟩
theorem qX3_passes_18 : DI cX3_passes 18 (.iconst 3) 1 19 := ⟨by decide +kernel, rfl⟩
theorem qX3_passes_19 : DI cX3_passes 19 (.idiv) 1 20 := ⟨by decide +kernel, rfl⟩
theorem qX3_passes_20 : DI cX3_passes 20 (.iload_n 2) 1 21 := ⟨by decide +kernel, rfl⟩
theorem qX3_passes_21 : DI cX3_passes 21 (.invokevirtual 55) 3 24 := ⟨by decide +kernel, rfl⟩
theorem qX3_passes_24 : DI cX3_passes 24 (.istore 5) 2 26 := ⟨by decide +kernel, rfl⟩
theorem qX3_passes_26 : DI cX3_passes 26 (.iload 4) 2 28 := ⟨by decide +kernel, rfl⟩
theorem qX3_passes_28 : DJ cX3_passes 28 (.ifCond .ne) 43 31 := ⟨15, by decide +kernel, by decide, rfl⟩
theorem qX3_passes_31 : DI cX3_passes 31 (.iload 5) 2 33 := ⟨by decide +kernel, rfl⟩
theorem qX3_passes_33 : DI cX3_passes 33 (.iload_n 3) 1 34 := ⟨by decide +kernel, rfl⟩
theorem qX3_passes_34 : DJ cX3_passes 34 (.if_icmp .ge) 41 37 := ⟨7, by decide +kernel, by decide, rfl⟩
theorem qX3_passes_37 : DI cX3_passes 37 (.iconst 1) 1 38 := ⟨by decide +kernel, rfl⟩
theorem qX3_passes_38 : DJ cX3_passes 38 .goto 42 41 := ⟨4, by decide +kernel, by decide, rfl⟩
theorem qX3_passes_41 : DI cX3_passes 41 (.iconst 0) 1 42 := ⟨by decide +kernel, rfl⟩
theorem qX3_passes_42 : DI cX3_passes 42 (.ireturn) 1 43 := ⟨by decide +kernel, rfl⟩
theorem qX3_passes_43 : DI cX3_passes 43 (.iload 4) 2 45 := ⟨by decide +kernel, rfl⟩
theorem qX3_passes_45 : DI cX3_passes 45 (.iconst 1) 1 46 := ⟨by decide +kernel, rfl⟩
theorem qX3_passes_46 : DJ cX3_passes 46 (.if_icmp .ne) 61 49 := ⟨15, by decide +kernel, by decide, rfl⟩
theorem qX3_passes_49 : DI cX3_passes 49 (.iload 5) 2 51 := ⟨by decide +kernel, rfl⟩
theorem qX3_passes_51 : DI cX3_passes 51 (.iload_n 3) 1 52 := ⟨by decide +kernel, rfl⟩
theorem qX3_passes_52 : DJ cX3_passes 52 (.if_icmp .ne) 59 55 := ⟨7, by decide +kernel, by decide, rfl⟩
theorem qX3_passes_55 : DI cX3_passes 55 (.iconst 1) 1 56 := ⟨by decide +kernel, rfl⟩
theorem qX3_passes_56 : DJ cX3_passes 56 .goto 60 59 := ⟨4, by decide +kernel, by decide, rfl⟩
theorem qX3_passes_59 : DI cX3_passes 59 (.iconst 0) 1 60 := ⟨by decide +kernel, rfl⟩
theorem qX3_passes_60 : DI cX3_passes 60 (.ireturn) 1 61 := ⟨by decide +kernel, rfl⟩
theorem qX3_passes_61 : DI cX3_passes 61 (.iload 5) 2 63 := ⟨by decide +kernel, rfl⟩
theorem qX3_passes_63 : DI cX3_passes 63 (.iload_n 3) 1 64 := ⟨by decide +kernel, rfl⟩
theorem qX3_passes_64 : DJ cX3_passes 64 (.if_icmp .le) 71 67 := ⟨7, by decide +kernel, by decide, rfl⟩
theorem qX3_passes_67 : DI cX3_passes 67 (.iconst 1) 1 68 := ⟨by decide +kernel, rfl⟩
theorem qX3_passes_68 : DJ cX3_passes 68 .goto 72 71 := ⟨4, by decide +kernel, by decide, rfl⟩
theorem qX3_passes_71 : DI cX3_passes 71 (.iconst 0) 1 72 := ⟨by decide +kernel, rfl⟩
theorem qX3_passes_72 : DI cX3_passes 72 (.ireturn) 1 73 := ⟨by decide +kernel, rfl⟩
theorem qX4_add_0 : DI cX4_add 0 (.aload_n 0) 1 1 := ⟨by decide +kernel, rfl⟩
theorem qX4_add_1 : DI cX4_add 1 (.getfield 15) 3 4 := ⟨by decide +kernel, rfl⟩
theorem qX4_add_4 : DJ cX4_add 4 (.ifCond .lt) 16 7 := ⟨12, by decide +kernel, by decide, rfl⟩
theorem qX4_add_7 : DI cX4_add 7 (.aload_n 0) 1 8 := ⟨by decide +kernel, rfl⟩
theorem qX4_add_8 : DI cX4_add 8 (.getfield 15) 3 11 := ⟨by decide +kernel, rfl⟩
theorem qX4_add_11 : DI cX4_add 11 (.bipush 100) 2 13 := ⟨by decide +kernel, rfl⟩
theorem qX4_add_13 : DJ cX4_add 13 (.if_icmp .lt) 17 16 := ⟨4, by decide +kernel, by decide, rfl⟩
theorem qX4_add_16 : DI cX4_add 16 (.return_) 1 17 := ⟨by decide +kernel, rfl⟩
theorem qX4_add_17 : DI cX4_add 17 (.aload_n 0) 1 18 := ⟨by decide +kernel, rfl⟩
theorem qX4_add_18 : DI cX4_add 18 (.getfield 11) 3 21 := ⟨by decide +kernel, rfl⟩
theorem qX4_add_21 : DI cX4_add 21 (.aload_n 0) 1 22 := ⟨by decide +kernel, rfl⟩
theorem qX4_add_22 : DI cX4_add 22 (.getfield 15) 3 25 := ⟨by decide +kernel, rfl⟩
theorem qX4_add_25 : DI cX4_add 25 (.iload_n 1) 1 26 := ⟨by decide +kernel, rfl⟩
theorem qX4_add_26 : DI cX4_add 26 (.castore) 1 27 := ⟨by decide +kernel, rfl⟩
theorem qX4_add_27 : DI cX4_add 27 (.aload_n 0) 1 28 := ⟨by decide +kernel, rfl⟩
theorem qX4_add_28 : DI cX4_add 28 (.dup) 1 29 := ⟨by decide +kernel, rfl⟩
theorem qX4_add_29 : DI cX4_add 29 (.getfield 15) 3 32 := ⟨by decide +kernel, rfl⟩
theorem qX4_add_32 : DI cX4_add 32 (.iconst 1) 1 33 := ⟨by decide +kernel, rfl⟩
theorem qX4_add_33 : DI cX4_add 33 (.iadd) 1 34 := ⟨by decide +kernel, rfl⟩
theorem qX4_add_34 : DI cX4_add 34 (.putfield 15) 3 37 := ⟨by decide +kernel, rfl⟩
theorem qX4_add_37 : DI cX4_add 37 (.return_) 1 38 := ⟨by decide +kernel, rfl⟩
theorem qX4_readInto_0 : DI cX4_readInto 0 (.aload_n 0) 1 1 := ⟨by decide +kernel, rfl⟩
theorem qX4_readInto_1 : DI cX4_readInto 1 (.iconst 0) 1 2 := ⟨by decide +kernel, rfl⟩
theorem qX4_readInto_2 : DI cX4_readInto 2 (.putfield 19) 3 5 := ⟨by decide +kernel, rfl⟩
theorem qX4_readInto_5 : DI cX4_readInto 5 (.aload_n 1) 1 6 := ⟨by decide +kernel, rfl⟩
theorem qX4_readInto_6 : DI cX4_readInto 6 (.invokevirtual 22) 3 9 := ⟨by decide +kernel, rfl⟩
theorem qX4_readInto_9 : DI cX4_readInto 9 (.aload_n 0) 1 10 := ⟨by decide +kernel, rfl⟩
theorem qX4_readInto_10 : DI cX4_readInto 10 (.aload_n 1) 1 11 := ⟨by decide +kernel, rfl⟩
theorem qX4_readInto_11 : DI cX4_readInto 11 (.invokevirtual 27) 3 14 := ⟨by decide +kernel, rfl⟩
theorem qX4_readInto_14 : DJ cX4_readInto 14 (.ifCond .ne) 19 17 := ⟨5, by decide +kernel, by decide, rfl⟩
theorem qX4_readInto_17 : DI cX4_readInto 17 (.iconst 0) 1 18 := ⟨by decide +kernel, rfl⟩
theorem qX4_readInto_18 : DI cX4_readInto 18 (.ireturn) 1 19 := ⟨by decide +kernel, rfl⟩
theorem qX4_readInto_19 : DI cX4_readInto 19 (.iconst 1) 1 20 := ⟨by decide +kernel, rfl⟩
theorem qX4_readInto_20 : DI cX4_readInto 20 (.istore_n 2) 1 21 := ⟨by decide +kernel, rfl⟩
theorem qX4_readInto_21 : DI cX4_readInto 21 (.iload_n 2) 1 22 := ⟨by decide +kernel, rfl⟩
theorem qX4_readInto_22 : DI cX4_readInto 22 (.bipush 10) 2 24 := ⟨by decide +kernel, rfl⟩
theorem qX4_readInto_24 : DJ cX4_readInto 24 (.if_icmp .ge) 52 27 := ⟨28, by decide +kernel, by decide, rfl⟩
theorem qX4_readInto_27 : DI cX4_readInto 27 (.aload_n 0) 1 28 := ⟨by decide +kernel, rfl⟩
theorem qX4_readInto_28 : DI cX4_readInto 28 (.bipush 59) 2 30 := ⟨by decide +kernel, rfl⟩
theorem qX4_readInto_30 : DI cX4_readInto 30 (.invokevirtual 31) 3 33 := ⟨by decide +kernel, rfl⟩
theorem qX4_readInto_33 : DJ cX4_readInto 33 (.ifCond .eq) 52 36 := ⟨19, by decide +kernel, by decide, rfl⟩
theorem qX4_readInto_36 : DI cX4_readInto 36 (.aload_n 0) 1 37 := ⟨by decide +kernel, rfl⟩
theorem qX4_readInto_37 : DI cX4_readInto 37 (.aload_n 1) 1 38 := ⟨by decide +kernel, rfl⟩
theorem qX4_readInto_38 : DI cX4_readInto 38 (.invokevirtual 27) 3 41 := ⟨by decide +kernel, rfl⟩
theorem qX4_readInto_41 : DJ cX4_readInto 41 (.ifCond .ne) 46 44 := ⟨5, by decide +kernel, by decide, rfl⟩
theorem qX4_readInto_44 : DI cX4_readInto 44 (.iconst 0) 1 45 := ⟨by decide +kernel, rfl⟩
theorem qX4_readInto_45 : DI cX4_readInto 45 (.ireturn) 1 46 := ⟨by decide +kernel, rfl⟩
theorem qX4_readInto_46 : DI cX4_readInto 46 (.iinc 2 1) 3 49 := ⟨by decide +kernel, rfl⟩
theorem qX4_readInto_49 : DJ cX4_readInto 49 .goto 21 52 := ⟨(-28), by decide +kernel, by decide, rfl⟩
theorem qX4_readInto_52 : DI cX4_readInto 52 (.aload_n 0) 1 53 := ⟨by decide +kernel, rfl⟩
theorem qX4_readInto_53 : DI cX4_readInto 53 (.getfield 19) 3 56 := ⟨by decide +kernel, rfl⟩
theorem qX4_readInto_56 : DI cX4_readInto 56 (.aload_n 0) 1 57 := ⟨by decide +kernel, rfl⟩
theorem qX4_readInto_57 : DI cX4_readInto 57 (.getfield 15) 3 60 := ⟨by decide +kernel, rfl⟩
theorem qX4_readInto_60 : DJ cX4_readInto 60 (.if_icmp .ne) 67 63 := ⟨7, by decide +kernel, by decide, rfl⟩
theorem qX4_readInto_63 : DI cX4_readInto 63 (.iconst 1) 1 64 := ⟨by decide +kernel, rfl⟩
theorem qX4_readInto_64 : DJ cX4_readInto 64 .goto 68 67 := ⟨4, by decide +kernel, by decide, rfl⟩
theorem qX4_readInto_67 : DI cX4_readInto 67 (.iconst 0) 1 68 := ⟨by decide +kernel, rfl⟩
theorem qX4_readInto_68 : DI cX4_readInto 68 (.ireturn) 1 69 := ⟨by decide +kernel, rfl⟩
theorem qX4_readClause_0 : DI cX4_readClause 0 (.aload_n 0) 1 1 := ⟨by decide +kernel, rfl⟩
theorem qX4_readClause_1 : DI cX4_readClause 1 (.invokevirtual 35) 3 4 := ⟨by decide +kernel, rfl⟩
theorem qX4_readClause_4 : DI cX4_readClause 4 (.istore_n 2) 1 5 := ⟨by decide +kernel, rfl⟩
theorem qX4_readClause_5 : DI cX4_readClause 5 (.aload_n 0) 1 6 := ⟨by decide +kernel, rfl⟩
theorem qX4_readClause_6 : DI cX4_readClause 6 (.iload_n 2) 1 7 := ⟨by decide +kernel, rfl⟩
theorem qX4_readClause_7 : DI cX4_readClause 7 (.invokestatic 39) 3 10 := ⟨by decide +kernel, rfl⟩
theorem qX4_readClause_10 : DI cX4_readClause 10 (.invokevirtual 43) 3 13 := ⟨by decide +kernel, rfl⟩
theorem qX4_readClause_13 : DJ cX4_readClause 13 (.ifCond .ne) 18 16 := ⟨5, by decide +kernel, by decide, rfl⟩
theorem qX4_readClause_16 : DI cX4_readClause 16 (.iconst 0) 1 17 := ⟨by decide +kernel, rfl⟩
theorem qX4_readClause_17 : DI cX4_readClause 17 (.ireturn) 1 18 := ⟨by decide +kernel, rfl⟩
theorem qX4_readClause_18 : DI cX4_readClause 18 (.aload_n 0) 1 19 := ⟨by decide +kernel, rfl⟩
theorem qX4_readClause_19 : DI cX4_readClause 19 (.invokevirtual 47) 3 22 := ⟨by decide +kernel, rfl⟩
theorem qX4_readClause_22 : DI cX4_readClause 22 (.istore_n 3) 1 23 := ⟨by decide +kernel, rfl⟩
theorem qX4_readClause_23 : DI cX4_readClause 23 (.iload_n 3) 1 24 := ⟨by decide +kernel, rfl⟩
theorem qX4_readClause_24 : DJ cX4_readClause 24 (.ifCond .ge) 29 27 := ⟨5, by decide +kernel, by decide, rfl⟩
theorem qX4_readClause_27 : DI cX4_readClause 27 (.iconst 0) 1 28 := ⟨by decide +kernel, rfl⟩
theorem qX4_readClause_28 : DI cX4_readClause 28 (.ireturn) 1 29 := ⟨by decide +kernel, rfl⟩
theorem qX4_readClause_29 : DI cX4_readClause 29 (.iload_n 2) 1 30 := ⟨by decide +kernel, rfl⟩
theorem qX4_readClause_30 : DI cX4_readClause 30 (.bipush 119) 2 32 := ⟨by decide +kernel, rfl⟩
theorem qX4_readClause_32 : DJ cX4_readClause 32 (.if_icmp .ne) 42 35 := ⟨10, by decide +kernel, by decide, rfl⟩
theorem qX4_readClause_35 : DI cX4_readClause 35 (.aload_n 1) 1 36 := ⟨by decide +kernel, rfl⟩
theorem qX4_readClause_36 : DI cX4_readClause 36 (.iload_n 3) 1 37 := ⟨by decide +kernel, rfl⟩
theorem qX4_readClause_37 : DI cX4_readClause 37 (.invokevirtual 51) 3 40 := ⟨by decide +kernel, rfl⟩
theorem qX4_readClause_40 : DI cX4_readClause 40 (.iconst 1) 1 41 := ⟨by decide +kernel, rfl⟩
theorem qX4_readClause_41 : DI cX4_readClause 41 (.ireturn) 1 42 := ⟨by decide +kernel, rfl⟩
theorem qX4_readClause_42 : DI cX4_readClause 42 (.iload_n 2) 1 43 := ⟨by decide +kernel, rfl⟩
theorem qX4_readClause_43 : DI cX4_readClause 43 (.bipush 115) 2 45 := ⟨by decide +kernel, rfl⟩
theorem qX4_readClause_45 : DJ cX4_readClause 45 (.if_icmp .ne) 55 48 := ⟨10, by decide +kernel, by decide, rfl⟩
theorem qX4_readClause_48 : DI cX4_readClause 48 (.aload_n 1) 1 49 := ⟨by decide +kernel, rfl⟩
theorem qX4_readClause_49 : DI cX4_readClause 49 (.iload_n 3) 1 50 := ⟨by decide +kernel, rfl⟩
theorem qX4_readClause_50 : DI cX4_readClause 50 (.putfield 55) 3 53 := ⟨by decide +kernel, rfl⟩
theorem qX4_readClause_53 : DI cX4_readClause 53 (.iconst 1) 1 54 := ⟨by decide +kernel, rfl⟩
theorem qX4_readClause_54 : DI cX4_readClause 54 (.ireturn) 1 55 := ⟨by decide +kernel, rfl⟩
theorem qX4_readClause_55 : DI cX4_readClause 55 (.aload_n 0) 1 56 := ⟨by decide +kernel, rfl⟩
theorem qX4_readClause_56 : DI cX4_readClause 56 (.bipush 32) 2 58 := ⟨by decide +kernel, rfl⟩
theorem qX4_readClause_58 : DI cX4_readClause 58 (.invokevirtual 31) 3 61 := ⟨by decide +kernel, rfl⟩
theorem qX4_readClause_61 : DJ cX4_readClause 61 (.ifCond .eq) 73 64 := ⟨12, by decide +kernel, by decide, rfl⟩
theorem qX4_readClause_64 : DI cX4_readClause 64 (.aload_n 0) 1 65 := ⟨by decide +kernel, rfl⟩
theorem qX4_readClause_65 : DI cX4_readClause 65 (.aload_n 1) 1 66 := ⟨by decide +kernel, rfl⟩
theorem qX4_readClause_66 : DI cX4_readClause 66 (.iconst 0) 1 67 := ⟨by decide +kernel, rfl⟩
theorem qX4_readClause_67 : DI cX4_readClause 67 (.invokevirtual 58) 3 70 := ⟨by decide +kernel, rfl⟩
theorem qX4_readClause_70 : DJ cX4_readClause 70 (.ifCond .ne) 75 73 := ⟨5, by decide +kernel, by decide, rfl⟩
theorem qX4_readClause_73 : DI cX4_readClause 73 (.iconst 0) 1 74 := ⟨by decide +kernel, rfl⟩
theorem qX4_readClause_74 : DI cX4_readClause 74 (.ireturn) 1 75 := ⟨by decide +kernel, rfl⟩
theorem qX4_readClause_75 : DI cX4_readClause 75 (.aload_n 1) 1 76 := ⟨by decide +kernel, rfl⟩
theorem qX4_readClause_76 : DI cX4_readClause 76 (.iload_n 2) 1 77 := ⟨by decide +kernel, rfl⟩
theorem qX4_readClause_77 : DI cX4_readClause 77 (.bipush 108) 2 79 := ⟨by decide +kernel, rfl⟩
theorem qX4_readClause_79 : DJ cX4_readClause 79 (.if_icmp .ne) 86 82 := ⟨7, by decide +kernel, by decide, rfl⟩
theorem qX4_readClause_82 : DI cX4_readClause 82 (.iload_n 3) 1 83 := ⟨by decide +kernel, rfl⟩
theorem qX4_readClause_83 : DJ cX4_readClause 83 .goto 88 86 := ⟨5, by decide +kernel, by decide, rfl⟩
theorem qX4_readClause_86 : DI cX4_readClause 86 (.iload_n 3) 1 87 := ⟨by decide +kernel, rfl⟩
theorem qX4_readClause_87 : DI cX4_readClause 87 (.ineg) 1 88 := ⟨by decide +kernel, rfl⟩
theorem qX4_readClause_88 : DI cX4_readClause 88 (.invokevirtual 62) 3 91 := ⟨by decide +kernel, rfl⟩
theorem qX4_readClause_91 : DI cX4_readClause 91 (.iconst 1) 1 92 := ⟨by decide +kernel, rfl⟩
theorem qX4_readClause_92 : DI cX4_readClause 92 (.ireturn) 1 93 := ⟨by decide +kernel, rfl⟩
theorem qX4_wordOf_0 : DI cX4_wordOf 0 (.iload_n 0) 1 1 := ⟨by decide +kernel, rfl⟩
theorem qX4_wordOf_1 : decode cX4_wordOf 1 = .ok (.lookupswitch 44 #[(108, 35), (114, 38), (119, 41)], 35) := by decide +kernel
theorem qX4_wordOf_36 : DI cX4_wordOf 36 (.ldc 65) 2 38 := ⟨by decide +kernel, rfl⟩
theorem qX4_wordOf_38 : DI cX4_wordOf 38 (.areturn) 1 39 := ⟨by decide +kernel, rfl⟩
theorem qX4_wordOf_39 : DI cX4_wordOf 39 (.ldc 67) 2 41 := ⟨by decide +kernel, rfl⟩
theorem qX4_wordOf_41 : DI cX4_wordOf 41 (.areturn) 1 42 := ⟨by decide +kernel, rfl⟩
theorem qX4_wordOf_42 : DI cX4_wordOf 42 (.ldc 69) 2 44 := ⟨by decide +kernel, rfl⟩
theorem qX4_wordOf_44 : DI cX4_wordOf 44 (.areturn) 1 45 := ⟨by decide +kernel, rfl⟩
theorem qX4_wordOf_45 : DI cX4_wordOf 45 (.ldc 71) 2 47 := ⟨by decide +kernel, rfl⟩
theorem qX4_wordOf_47 : DI cX4_wordOf 47 (.areturn) 1 48 := ⟨by decide +kernel, rfl⟩
theorem qX4_readAnyOf_0 : DI cX4_readAnyOf 0 (.aload_n 0) 1 1 := ⟨by decide +kernel, rfl⟩
theorem qX4_readAnyOf_1 : DI cX4_readAnyOf 1 (.aload_n 1) 1 2 := ⟨by decide +kernel, rfl⟩
theorem qX4_readAnyOf_2 : DI cX4_readAnyOf 2 (.iload_n 2) 1 3 := ⟨by decide +kernel, rfl⟩
theorem qX4_readAnyOf_3 : DI cX4_readAnyOf 3 (.invokevirtual 73) 3 6 := ⟨by decide +kernel, rfl⟩
theorem qX4_readAnyOf_6 : DJ cX4_readAnyOf 6 (.ifCond .ne) 11 9 := ⟨5, by decide +kernel, by decide, rfl⟩
theorem qX4_readAnyOf_9 : DI cX4_readAnyOf 9 (.iconst 0) 1 10 := ⟨by decide +kernel, rfl⟩
theorem qX4_readAnyOf_10 : DI cX4_readAnyOf 10 (.ireturn) 1 11 := ⟨by decide +kernel, rfl⟩
theorem qX4_readAnyOf_11 : DI cX4_readAnyOf 11 (.iconst 0) 1 12 := ⟨by decide +kernel, rfl⟩
theorem qX4_readAnyOf_12 : DI cX4_readAnyOf 12 (.istore_n 3) 1 13 := ⟨by decide +kernel, rfl⟩
theorem qX4_readAnyOf_13 : DI cX4_readAnyOf 13 (.iload_n 3) 1 14 := ⟨by decide +kernel, rfl⟩
theorem qX4_readAnyOf_14 : DI cX4_readAnyOf 14 (.bipush 100) 2 16 := ⟨by decide +kernel, rfl⟩
theorem qX4_readAnyOf_16 : DJ cX4_readAnyOf 16 (.if_icmp .ge) 51 19 := ⟨35, by decide +kernel, by decide, rfl⟩
theorem qX4_readAnyOf_19 : DI cX4_readAnyOf 19 (.aload_n 0) 1 20 := ⟨by decide +kernel, rfl⟩
theorem qX4_readAnyOf_20 : DI cX4_readAnyOf 20 (.bipush 124) 2 22 := ⟨by decide +kernel, rfl⟩
theorem qX4_readAnyOf_22 : DI cX4_readAnyOf 22 (.invokevirtual 31) 3 25 := ⟨by decide +kernel, rfl⟩
theorem qX4_readAnyOf_25 : DJ cX4_readAnyOf 25 (.ifCond .eq) 51 28 := ⟨26, by decide +kernel, by decide, rfl⟩
theorem qX4_readAnyOf_28 : DI cX4_readAnyOf 28 (.aload_n 0) 1 29 := ⟨by decide +kernel, rfl⟩
theorem qX4_readAnyOf_29 : DI cX4_readAnyOf 29 (.aload_n 1) 1 30 := ⟨by decide +kernel, rfl⟩
theorem qX4_readAnyOf_30 : DI cX4_readAnyOf 30 (.iload_n 2) 1 31 := ⟨by decide +kernel, rfl⟩
theorem qX4_readAnyOf_31 : DI cX4_readAnyOf 31 (.invokevirtual 73) 3 34 := ⟨by decide +kernel, rfl⟩
theorem qX4_readAnyOf_34 : DJ cX4_readAnyOf 34 (.ifCond .ne) 39 37 := ⟨5, by decide +kernel, by decide, rfl⟩
theorem qX4_readAnyOf_37 : DI cX4_readAnyOf 37 (.iconst 0) 1 38 := ⟨by decide +kernel, rfl⟩
theorem qX4_readAnyOf_38 : DI cX4_readAnyOf 38 (.ireturn) 1 39 := ⟨by decide +kernel, rfl⟩
theorem qX4_readAnyOf_39 : DI cX4_readAnyOf 39 (.aload_n 1) 1 40 := ⟨by decide +kernel, rfl⟩
theorem qX4_readAnyOf_40 : DI cX4_readAnyOf 40 (.bipush (-3)) 2 42 := ⟨by decide +kernel, rfl⟩
theorem qX4_readAnyOf_42 : DI cX4_readAnyOf 42 (.invokevirtual 76) 3 45 := ⟨by decide +kernel, rfl⟩
theorem qX4_readAnyOf_45 : DI cX4_readAnyOf 45 (.iinc 3 1) 3 48 := ⟨by decide +kernel, rfl⟩
theorem qX4_readAnyOf_48 : DJ cX4_readAnyOf 48 .goto 13 51 := ⟨(-35), by decide +kernel, by decide, rfl⟩
theorem qX4_readAnyOf_51 : DI cX4_readAnyOf 51 (.iconst 1) 1 52 := ⟨by decide +kernel, rfl⟩
theorem qX4_readAnyOf_52 : DI cX4_readAnyOf 52 (.ireturn) 1 53 := ⟨by decide +kernel, rfl⟩
theorem qX4_readAllOf_0 : DI cX4_readAllOf 0 (.aload_n 0) 1 1 := ⟨by decide +kernel, rfl⟩
theorem qX4_readAllOf_1 : DI cX4_readAllOf 1 (.aload_n 1) 1 2 := ⟨by decide +kernel, rfl⟩
theorem qX4_readAllOf_2 : DI cX4_readAllOf 2 (.iload_n 2) 1 3 := ⟨by decide +kernel, rfl⟩
theorem qX4_readAllOf_3 : DI cX4_readAllOf 3 (.invokevirtual 79) 3 6 := ⟨by decide +kernel, rfl⟩
theorem qX4_readAllOf_6 : DJ cX4_readAllOf 6 (.ifCond .ne) 11 9 := ⟨5, by decide +kernel, by decide, rfl⟩
theorem qX4_readAllOf_9 : DI cX4_readAllOf 9 (.iconst 0) 1 10 := ⟨by decide +kernel, rfl⟩
theorem qX4_readAllOf_10 : DI cX4_readAllOf 10 (.ireturn) 1 11 := ⟨by decide +kernel, rfl⟩
theorem qX4_readAllOf_11 : DI cX4_readAllOf 11 (.iconst 0) 1 12 := ⟨by decide +kernel, rfl⟩
theorem qX4_readAllOf_12 : DI cX4_readAllOf 12 (.istore_n 3) 1 13 := ⟨by decide +kernel, rfl⟩
theorem qX4_readAllOf_13 : DI cX4_readAllOf 13 (.iload_n 3) 1 14 := ⟨by decide +kernel, rfl⟩
theorem qX4_readAllOf_14 : DI cX4_readAllOf 14 (.bipush 100) 2 16 := ⟨by decide +kernel, rfl⟩
theorem qX4_readAllOf_16 : DJ cX4_readAllOf 16 (.if_icmp .ge) 51 19 := ⟨35, by decide +kernel, by decide, rfl⟩
theorem qX4_readAllOf_19 : DI cX4_readAllOf 19 (.aload_n 0) 1 20 := ⟨by decide +kernel, rfl⟩
theorem qX4_readAllOf_20 : DI cX4_readAllOf 20 (.bipush 38) 2 22 := ⟨by decide +kernel, rfl⟩
theorem qX4_readAllOf_22 : DI cX4_readAllOf 22 (.invokevirtual 31) 3 25 := ⟨by decide +kernel, rfl⟩
theorem qX4_readAllOf_25 : DJ cX4_readAllOf 25 (.ifCond .eq) 51 28 := ⟨26, by decide +kernel, by decide, rfl⟩
theorem qX4_readAllOf_28 : DI cX4_readAllOf 28 (.aload_n 0) 1 29 := ⟨by decide +kernel, rfl⟩
theorem qX4_readAllOf_29 : DI cX4_readAllOf 29 (.aload_n 1) 1 30 := ⟨by decide +kernel, rfl⟩
theorem qX4_readAllOf_30 : DI cX4_readAllOf 30 (.iload_n 2) 1 31 := ⟨by decide +kernel, rfl⟩
theorem qX4_readAllOf_31 : DI cX4_readAllOf 31 (.invokevirtual 79) 3 34 := ⟨by decide +kernel, rfl⟩
theorem qX4_readAllOf_34 : DJ cX4_readAllOf 34 (.ifCond .ne) 39 37 := ⟨5, by decide +kernel, by decide, rfl⟩
theorem qX4_readAllOf_37 : DI cX4_readAllOf 37 (.iconst 0) 1 38 := ⟨by decide +kernel, rfl⟩
theorem qX4_readAllOf_38 : DI cX4_readAllOf 38 (.ireturn) 1 39 := ⟨by decide +kernel, rfl⟩
theorem qX4_readAllOf_39 : DI cX4_readAllOf 39 (.aload_n 1) 1 40 := ⟨by decide +kernel, rfl⟩
theorem qX4_readAllOf_40 : DI cX4_readAllOf 40 (.bipush (-2)) 2 42 := ⟨by decide +kernel, rfl⟩
theorem qX4_readAllOf_42 : DI cX4_readAllOf 42 (.invokevirtual 76) 3 45 := ⟨by decide +kernel, rfl⟩
theorem qX4_readAllOf_45 : DI cX4_readAllOf 45 (.iinc 3 1) 3 48 := ⟨by decide +kernel, rfl⟩
theorem qX4_readAllOf_48 : DJ cX4_readAllOf 48 .goto 13 51 := ⟨(-35), by decide +kernel, by decide, rfl⟩
theorem qX4_readAllOf_51 : DI cX4_readAllOf 51 (.iconst 1) 1 52 := ⟨by decide +kernel, rfl⟩
theorem qX4_readAllOf_52 : DI cX4_readAllOf 52 (.ireturn) 1 53 := ⟨by decide +kernel, rfl⟩
theorem qX4_readOne_0 : DI cX4_readOne 0 (.aload_n 0) 1 1 := ⟨by decide +kernel, rfl⟩
theorem qX4_readOne_1 : DI cX4_readOne 1 (.invokevirtual 35) 3 4 := ⟨by decide +kernel, rfl⟩
theorem qX4_readOne_4 : DI cX4_readOne 4 (.istore_n 3) 1 5 := ⟨by decide +kernel, rfl⟩
theorem qX4_readOne_5 : DI cX4_readOne 5 (.iload_n 3) 1 6 := ⟨by decide +kernel, rfl⟩
theorem qX4_readOne_6 : DI cX4_readOne 6 (.bipush 33) 2 8 := ⟨by decide +kernel, rfl⟩
theorem qX4_readOne_8 : DJ cX4_readOne 8 (.if_icmp .eq) 23 11 := ⟨15, by decide +kernel, by decide, rfl⟩
theorem qX4_readOne_11 : DI cX4_readOne 11 (.iload_n 3) 1 12 := ⟨by decide +kernel, rfl⟩
theorem qX4_readOne_12 : DI cX4_readOne 12 (.bipush 40) 2 14 := ⟨by decide +kernel, rfl⟩
theorem qX4_readOne_14 : DJ cX4_readOne 14 (.if_icmp .eq) 23 17 := ⟨9, by decide +kernel, by decide, rfl⟩
theorem qX4_readOne_17 : DI cX4_readOne 17 (.aload_n 0) 1 18 := ⟨by decide +kernel, rfl⟩
theorem qX4_readOne_18 : DI cX4_readOne 18 (.aload_n 1) 1 19 := ⟨by decide +kernel, rfl⟩
theorem qX4_readOne_19 : DI cX4_readOne 19 (.invokevirtual 82) 3 22 := ⟨by decide +kernel, rfl⟩
theorem qX4_readOne_22 : DI cX4_readOne 22 (.ireturn) 1 23 := ⟨by decide +kernel, rfl⟩
theorem qX4_readOne_23 : DI cX4_readOne 23 (.iload_n 2) 1 24 := ⟨by decide +kernel, rfl⟩
theorem qX4_readOne_24 : DI cX4_readOne 24 (.iconst 4) 1 25 := ⟨by decide +kernel, rfl⟩
theorem qX4_readOne_25 : DJ cX4_readOne 25 (.if_icmp .lt) 30 28 := ⟨5, by decide +kernel, by decide, rfl⟩
theorem qX4_readOne_28 : DI cX4_readOne 28 (.iconst 0) 1 29 := ⟨by decide +kernel, rfl⟩
theorem qX4_readOne_29 : DI cX4_readOne 29 (.ireturn) 1 30 := ⟨by decide +kernel, rfl⟩
theorem qX4_readOne_30 : DI cX4_readOne 30 (.aload_n 0) 1 31 := ⟨by decide +kernel, rfl⟩
theorem qX4_readOne_31 : DI cX4_readOne 31 (.dup) 1 32 := ⟨by decide +kernel, rfl⟩
theorem qX4_readOne_32 : DI cX4_readOne 32 (.getfield 19) 3 35 := ⟨by decide +kernel, rfl⟩
theorem qX4_readOne_35 : DI cX4_readOne 35 (.iconst 1) 1 36 := ⟨by decide +kernel, rfl⟩
theorem qX4_readOne_36 : DI cX4_readOne 36 (.iadd) 1 37 := ⟨by decide +kernel, rfl⟩
theorem qX4_readOne_37 : DI cX4_readOne 37 (.putfield 19) 3 40 := ⟨by decide +kernel, rfl⟩
theorem qX4_readOne_40 : DI cX4_readOne 40 (.iload_n 3) 1 41 := ⟨by decide +kernel, rfl⟩
theorem qX4_readOne_41 : DI cX4_readOne 41 (.bipush 40) 2 43 := ⟨by decide +kernel, rfl⟩
theorem qX4_readOne_43 : DJ cX4_readOne 43 (.if_icmp .ne) 72 46 := ⟨29, by decide +kernel, by decide, rfl⟩
theorem qX4_readOne_46 : DI cX4_readOne 46 (.aload_n 0) 1 47 := ⟨by decide +kernel, rfl⟩
theorem qX4_readOne_47 : DI cX4_readOne 47 (.aload_n 1) 1 48 := ⟨by decide +kernel, rfl⟩
theorem qX4_readOne_48 : DI cX4_readOne 48 (.iload_n 2) 1 49 := ⟨by decide +kernel, rfl⟩
theorem qX4_readOne_49 : DI cX4_readOne 49 (.iconst 1) 1 50 := ⟨by decide +kernel, rfl⟩
theorem qX4_readOne_50 : DI cX4_readOne 50 (.iadd) 1 51 := ⟨by decide +kernel, rfl⟩
theorem qX4_readOne_51 : DI cX4_readOne 51 (.invokevirtual 58) 3 54 := ⟨by decide +kernel, rfl⟩
theorem qX4_readOne_54 : DJ cX4_readOne 54 (.ifCond .eq) 70 57 := ⟨16, by decide +kernel, by decide, rfl⟩
theorem qX4_readOne_57 : DI cX4_readOne 57 (.aload_n 0) 1 58 := ⟨by decide +kernel, rfl⟩
theorem qX4_readOne_58 : DI cX4_readOne 58 (.bipush 41) 2 60 := ⟨by decide +kernel, rfl⟩
theorem qX4_readOne_60 : DI cX4_readOne 60 (.invokevirtual 31) 3 63 := ⟨by decide +kernel, rfl⟩
theorem qX4_readOne_63 : DJ cX4_readOne 63 (.ifCond .eq) 70 66 := ⟨7, by decide +kernel, by decide, rfl⟩
theorem qX4_readOne_66 : DI cX4_readOne 66 (.iconst 1) 1 67 := ⟨by decide +kernel, rfl⟩
theorem qX4_readOne_67 : DJ cX4_readOne 67 .goto 71 70 := ⟨4, by decide +kernel, by decide, rfl⟩
theorem qX4_readOne_70 : DI cX4_readOne 70 (.iconst 0) 1 71 := ⟨by decide +kernel, rfl⟩
theorem qX4_readOne_71 : DI cX4_readOne 71 (.ireturn) 1 72 := ⟨by decide +kernel, rfl⟩
theorem qX4_readOne_72 : DI cX4_readOne 72 (.aload_n 0) 1 73 := ⟨by decide +kernel, rfl⟩
theorem qX4_readOne_73 : DI cX4_readOne 73 (.aload_n 1) 1 74 := ⟨by decide +kernel, rfl⟩
theorem qX4_readOne_74 : DI cX4_readOne 74 (.iload_n 2) 1 75 := ⟨by decide +kernel, rfl⟩
theorem qX4_readOne_75 : DI cX4_readOne 75 (.iconst 1) 1 76 := ⟨by decide +kernel, rfl⟩
theorem qX4_readOne_76 : DI cX4_readOne 76 (.iadd) 1 77 := ⟨by decide +kernel, rfl⟩
theorem qX4_readOne_77 : DI cX4_readOne 77 (.invokevirtual 79) 3 80 := ⟨by decide +kernel, rfl⟩
theorem qX4_readOne_80 : DJ cX4_readOne 80 (.ifCond .ne) 85 83 := ⟨5, by decide +kernel, by decide, rfl⟩
theorem qX4_readOne_83 : DI cX4_readOne 83 (.iconst 0) 1 84 := ⟨by decide +kernel, rfl⟩
theorem qX4_readOne_84 : DI cX4_readOne 84 (.ireturn) 1 85 := ⟨by decide +kernel, rfl⟩
theorem qX4_readOne_85 : DI cX4_readOne 85 (.aload_n 1) 1 86 := ⟨by decide +kernel, rfl⟩
theorem qX4_readOne_86 : DI cX4_readOne 86 (.iconst (-1)) 1 87 := ⟨by decide +kernel, rfl⟩
theorem qX4_readOne_87 : DI cX4_readOne 87 (.invokevirtual 76) 3 90 := ⟨by decide +kernel, rfl⟩
theorem qX4_readOne_90 : DI cX4_readOne 90 (.iconst 1) 1 91 := ⟨by decide +kernel, rfl⟩
theorem qX4_readOne_91 : DI cX4_readOne 91 (.ireturn) 1 92 := ⟨by decide +kernel, rfl⟩
theorem qX4_readTest_0 : DI cX4_readTest 0 (.ldc 85) 2 2 := ⟨by decide +kernel, rfl⟩
theorem qX4_readTest_2 : DI cX4_readTest 2 (.aload_n 0) 1 3 := ⟨by decide +kernel, rfl⟩
theorem qX4_readTest_3 : DI cX4_readTest 3 (.invokevirtual 35) 3 6 := ⟨by decide +kernel, rfl⟩
theorem qX4_readTest_6 : DI cX4_readTest 6 (.invokevirtual 87) 3 9 := ⟨by decide +kernel, rfl⟩
theorem qX4_readTest_9 : DI cX4_readTest 9 (.istore_n 2) 1 10 := ⟨by decide +kernel, rfl⟩
theorem qX4_readTest_10 : DI cX4_readTest 10 (.iload_n 2) 1 11 := ⟨by decide +kernel, rfl⟩
theorem qX4_readTest_11 : DJ cX4_readTest 11 (.ifCond .ge) 16 14 := ⟨5, by decide +kernel, by decide, rfl⟩
theorem qX4_readTest_14 : DI cX4_readTest 14 (.iconst 0) 1 15 := ⟨by decide +kernel, rfl⟩
theorem qX4_readTest_15 : DI cX4_readTest 15 (.ireturn) 1 16 := ⟨by decide +kernel, rfl⟩
theorem qX4_readTest_16 : DI cX4_readTest 16 (.aload_n 0) 1 17 := ⟨by decide +kernel, rfl⟩
theorem qX4_readTest_17 : DI cX4_readTest 17 (.dup) 1 18 := ⟨by decide +kernel, rfl⟩
theorem qX4_readTest_18 : DI cX4_readTest 18 (.getfield 19) 3 21 := ⟨by decide +kernel, rfl⟩
theorem qX4_readTest_21 : DI cX4_readTest 21 (.iconst 1) 1 22 := ⟨by decide +kernel, rfl⟩
theorem qX4_readTest_22 : DI cX4_readTest 22 (.iadd) 1 23 := ⟨by decide +kernel, rfl⟩
theorem qX4_readTest_23 : DI cX4_readTest 23 (.putfield 19) 3 26 := ⟨by decide +kernel, rfl⟩
theorem qX4_readTest_26 : DI cX4_readTest 26 (.ldc 93) 2 28 := ⟨by decide +kernel, rfl⟩
theorem qX4_readTest_28 : DI cX4_readTest 28 (.aload_n 0) 1 29 := ⟨by decide +kernel, rfl⟩
theorem qX4_readTest_29 : DI cX4_readTest 29 (.invokevirtual 35) 3 32 := ⟨by decide +kernel, rfl⟩
theorem qX4_readTest_32 : DI cX4_readTest 32 (.invokevirtual 87) 3 35 := ⟨by decide +kernel, rfl⟩
theorem qX4_readTest_35 : DI cX4_readTest 35 (.istore_n 3) 1 36 := ⟨by decide +kernel, rfl⟩
theorem qX4_readTest_36 : DI cX4_readTest 36 (.iload_n 3) 1 37 := ⟨by decide +kernel, rfl⟩
theorem qX4_readTest_37 : DJ cX4_readTest 37 (.ifCond .ge) 42 40 := ⟨5, by decide +kernel, by decide, rfl⟩
theorem qX4_readTest_40 : DI cX4_readTest 40 (.iconst 0) 1 41 := ⟨by decide +kernel, rfl⟩
theorem qX4_readTest_41 : DI cX4_readTest 41 (.ireturn) 1 42 := ⟨by decide +kernel, rfl⟩
theorem qX4_readTest_42 : DI cX4_readTest 42 (.aload_n 0) 1 43 := ⟨by decide +kernel, rfl⟩
theorem qX4_readTest_43 : DI cX4_readTest 43 (.dup) 1 44 := ⟨by decide +kernel, rfl⟩
theorem qX4_readTest_44 : DI cX4_readTest 44 (.getfield 19) 3 47 := ⟨by decide +kernel, rfl⟩
theorem qX4_readTest_47 : DI cX4_readTest 47 (.iconst 1) 1 48 := ⟨by decide +kernel, rfl⟩
theorem qX4_readTest_48 : DI cX4_readTest 48 (.iadd) 1 49 := ⟨by decide +kernel, rfl⟩
theorem qX4_readTest_49 : DI cX4_readTest 49 (.putfield 19) 3 52 := ⟨by decide +kernel, rfl⟩
theorem qX4_readTest_52 : DI cX4_readTest 52 (.aload_n 0) 1 53 := ⟨by decide +kernel, rfl⟩
theorem qX4_readTest_53 : DI cX4_readTest 53 (.invokevirtual 47) 3 56 := ⟨by decide +kernel, rfl⟩
theorem qX4_readTest_56 : DI cX4_readTest 56 (.istore 4) 2 58 := ⟨by decide +kernel, rfl⟩
theorem qX4_readTest_58 : DI cX4_readTest 58 (.iload 4) 2 60 := ⟨by decide +kernel, rfl⟩
theorem qX4_readTest_60 : DJ cX4_readTest 60 (.ifCond .ge) 65 63 := ⟨5, by decide +kernel, by decide, rfl⟩
theorem qX4_readTest_63 : DI cX4_readTest 63 (.iconst 0) 1 64 := ⟨by decide +kernel, rfl⟩
theorem qX4_readTest_64 : DI cX4_readTest 64 (.ireturn) 1 65 := ⟨by decide +kernel, rfl⟩
theorem qX4_readTest_65 : DI cX4_readTest 65 (.aload_n 1) 1 66 := ⟨by decide +kernel, rfl⟩
theorem qX4_readTest_66 : DI cX4_readTest 66 (.iload_n 2) 1 67 := ⟨by decide +kernel, rfl⟩
theorem qX4_readTest_67 : DI cX4_readTest 67 (.iload_n 3) 1 68 := ⟨by decide +kernel, rfl⟩
theorem qX4_readTest_68 : DI cX4_readTest 68 (.iload 4) 2 70 := ⟨by decide +kernel, rfl⟩
theorem qX4_readTest_70 : DI cX4_readTest 70 (.invokestatic 95) 3 73 := ⟨by decide +kernel, rfl⟩
theorem qX4_readTest_73 : DI cX4_readTest 73 (.invokevirtual 76) 3 76 := ⟨by decide +kernel, rfl⟩
theorem qX4_readTest_76 : DI cX4_readTest 76 (.iconst 1) 1 77 := ⟨by decide +kernel, rfl⟩
theorem qX4_readTest_77 : DI cX4_readTest 77 (.ireturn) 1 78 := ⟨by decide +kernel, rfl⟩
theorem qX4_readNumber_0 : DI cX4_readNumber 0 (.iconst (-1)) 1 1 := ⟨by decide +kernel, rfl⟩
theorem qX4_readNumber_1 : DI cX4_readNumber 1 (.istore_n 1) 1 2 := ⟨by decide +kernel, rfl⟩
theorem qX4_readNumber_2 : DI cX4_readNumber 2 (.iconst 0) 1 3 := ⟨by decide +kernel, rfl⟩
theorem qX4_readNumber_3 : DI cX4_readNumber 3 (.istore_n 2) 1 4 := ⟨by decide +kernel, rfl⟩
theorem qX4_readNumber_4 : DI cX4_readNumber 4 (.iload_n 2) 1 5 := ⟨by decide +kernel, rfl⟩
theorem qX4_readNumber_5 : DI cX4_readNumber 5 (.iconst 2) 1 6 := ⟨by decide +kernel, rfl⟩
theorem qX4_readNumber_6 : DJ cX4_readNumber 6 (.if_icmp .ge) 93 9 := ⟨87, by decide +kernel, by decide, rfl⟩
theorem qX4_readNumber_9 : DI cX4_readNumber 9 (.aload_n 0) 1 10 := ⟨by decide +kernel, rfl⟩
theorem qX4_readNumber_10 : DI cX4_readNumber 10 (.getfield 19) 3 13 := ⟨by decide +kernel, rfl⟩
theorem qX4_readNumber_13 : DJ cX4_readNumber 13 (.ifCond .lt) 93 16 := ⟨80, by decide +kernel, by decide, rfl⟩
theorem qX4_readNumber_16 : DI cX4_readNumber 16 (.aload_n 0) 1 17 := ⟨by decide +kernel, rfl⟩
theorem qX4_readNumber_17 : DI cX4_readNumber 17 (.getfield 19) 3 20 := ⟨by decide +kernel, rfl⟩
theorem qX4_readNumber_20 : DI cX4_readNumber 20 (.aload_n 0) 1 21 := ⟨by decide +kernel, rfl⟩
theorem qX4_readNumber_21 : DI cX4_readNumber 21 (.getfield 15) 3 24 := ⟨by decide +kernel, rfl⟩
theorem qX4_readNumber_24 : DJ cX4_readNumber 24 (.if_icmp .ge) 93 27 := ⟨69, by decide +kernel, by decide, rfl⟩
theorem qX4_readNumber_27 : DI cX4_readNumber 27 (.aload_n 0) 1 28 := ⟨by decide +kernel, rfl⟩
theorem qX4_readNumber_28 : DI cX4_readNumber 28 (.getfield 19) 3 31 := ⟨by decide +kernel, rfl⟩
theorem qX4_readNumber_31 : DI cX4_readNumber 31 (.bipush 100) 2 33 := ⟨by decide +kernel, rfl⟩
theorem qX4_readNumber_33 : DJ cX4_readNumber 33 (.if_icmp .ge) 93 36 := ⟨60, by decide +kernel, by decide, rfl⟩
theorem qX4_readNumber_36 : DI cX4_readNumber 36 (.aload_n 0) 1 37 := ⟨by decide +kernel, rfl⟩
theorem qX4_readNumber_37 : DI cX4_readNumber 37 (.getfield 11) 3 40 := ⟨by decide +kernel, rfl⟩
theorem qX4_readNumber_40 : DI cX4_readNumber 40 (.aload_n 0) 1 41 := ⟨by decide +kernel, rfl⟩
theorem qX4_readNumber_41 : DI cX4_readNumber 41 (.getfield 19) 3 44 := ⟨by decide +kernel, rfl⟩
theorem qX4_readNumber_44 : DI cX4_readNumber 44 (.caload) 1 45 := ⟨by decide +kernel, rfl⟩
theorem qX4_readNumber_45 : DI cX4_readNumber 45 (.bipush 48) 2 47 := ⟨by decide +kernel, rfl⟩
theorem qX4_readNumber_47 : DI cX4_readNumber 47 (.isub) 1 48 := ⟨by decide +kernel, rfl⟩
theorem qX4_readNumber_48 : DI cX4_readNumber 48 (.istore_n 3) 1 49 := ⟨by decide +kernel, rfl⟩
theorem qX4_readNumber_49 : DI cX4_readNumber 49 (.iload_n 3) 1 50 := ⟨by decide +kernel, rfl⟩
theorem qX4_readNumber_50 : DJ cX4_readNumber 50 (.ifCond .lt) 59 53 := ⟨9, by decide +kernel, by decide, rfl⟩
theorem qX4_readNumber_53 : DI cX4_readNumber 53 (.iload_n 3) 1 54 := ⟨by decide +kernel, rfl⟩
theorem qX4_readNumber_54 : DI cX4_readNumber 54 (.bipush 9) 2 56 := ⟨by decide +kernel, rfl⟩
theorem qX4_readNumber_56 : DJ cX4_readNumber 56 (.if_icmp .le) 61 59 := ⟨5, by decide +kernel, by decide, rfl⟩
theorem qX4_readNumber_59 : DI cX4_readNumber 59 (.iload_n 1) 1 60 := ⟨by decide +kernel, rfl⟩
theorem qX4_readNumber_60 : DI cX4_readNumber 60 (.ireturn) 1 61 := ⟨by decide +kernel, rfl⟩
theorem qX4_readNumber_61 : DI cX4_readNumber 61 (.iload_n 1) 1 62 := ⟨by decide +kernel, rfl⟩
theorem qX4_readNumber_62 : DI cX4_readNumber 62 (.iconst (-1)) 1 63 := ⟨by decide +kernel, rfl⟩
theorem qX4_readNumber_63 : DJ cX4_readNumber 63 (.if_icmp .ne) 70 66 := ⟨7, by decide +kernel, by decide, rfl⟩
theorem qX4_readNumber_66 : DI cX4_readNumber 66 (.iload_n 3) 1 67 := ⟨by decide +kernel, rfl⟩
theorem qX4_readNumber_67 : DJ cX4_readNumber 67 .goto 76 70 := ⟨9, by decide +kernel, by decide, rfl⟩
theorem qX4_readNumber_70 : DI cX4_readNumber 70 (.iload_n 1) 1 71 := ⟨by decide +kernel, rfl⟩
theorem qX4_readNumber_71 : DI cX4_readNumber 71 (.bipush 10) 2 73 := ⟨by decide +kernel, rfl⟩
theorem qX4_readNumber_73 : DI cX4_readNumber 73 (.imul) 1 74 := ⟨by decide +kernel, rfl⟩
theorem qX4_readNumber_74 : DI cX4_readNumber 74 (.iload_n 3) 1 75 := ⟨by decide +kernel, rfl⟩
theorem qX4_readNumber_75 : DI cX4_readNumber 75 (.iadd) 1 76 := ⟨by decide +kernel, rfl⟩
theorem qX4_readNumber_76 : DI cX4_readNumber 76 (.istore_n 1) 1 77 := ⟨by decide +kernel, rfl⟩
theorem qX4_readNumber_77 : DI cX4_readNumber 77 (.aload_n 0) 1 78 := ⟨by decide +kernel, rfl⟩
theorem qX4_readNumber_78 : DI cX4_readNumber 78 (.dup) 1 79 := ⟨by decide +kernel, rfl⟩
theorem qX4_readNumber_79 : DI cX4_readNumber 79 (.getfield 19) 3 82 := ⟨by decide +kernel, rfl⟩
theorem qX4_readNumber_82 : DI cX4_readNumber 82 (.iconst 1) 1 83 := ⟨by decide +kernel, rfl⟩
theorem qX4_readNumber_83 : DI cX4_readNumber 83 (.iadd) 1 84 := ⟨by decide +kernel, rfl⟩
theorem qX4_readNumber_84 : DI cX4_readNumber 84 (.putfield 19) 3 87 := ⟨by decide +kernel, rfl⟩
theorem qX4_readNumber_87 : DI cX4_readNumber 87 (.iinc 2 1) 3 90 := ⟨by decide +kernel, rfl⟩
theorem qX4_readNumber_90 : DJ cX4_readNumber 90 .goto 4 93 := ⟨(-86), by decide +kernel, by decide, rfl⟩
theorem qX4_readNumber_93 : DI cX4_readNumber 93 (.iload_n 1) 1 94 := ⟨by decide +kernel, rfl⟩
theorem qX4_readNumber_94 : DI cX4_readNumber 94 (.ireturn) 1 95 := ⟨by decide +kernel, rfl⟩
theorem qX4_takesAll_0 : DI cX4_takesAll 0 (.iconst 0) 1 1 := ⟨by decide +kernel, rfl⟩
theorem qX4_takesAll_1 : DI cX4_takesAll 1 (.istore_n 2) 1 2 := ⟨by decide +kernel, rfl⟩
theorem qX4_takesAll_2 : DI cX4_takesAll 2 (.iload_n 2) 1 3 := ⟨by decide +kernel, rfl⟩
theorem qX4_takesAll_3 : DI cX4_takesAll 3 (.aload_n 1) 1 4 := ⟨by decide +kernel, rfl⟩
theorem qX4_takesAll_4 : DI cX4_takesAll 4 (.invokevirtual 99) 3 7 := ⟨by decide +kernel, rfl⟩
theorem qX4_takesAll_7 : DJ cX4_takesAll 7 (.if_icmp .ge) 30 10 := ⟨23, by decide +kernel, by decide, rfl⟩
theorem qX4_takesAll_10 : DI cX4_takesAll 10 (.aload_n 0) 1 11 := ⟨by decide +kernel, rfl⟩
theorem qX4_takesAll_11 : DI cX4_takesAll 11 (.aload_n 1) 1 12 := ⟨by decide +kernel, rfl⟩
theorem qX4_takesAll_12 : DI cX4_takesAll 12 (.iload_n 2) 1 13 := ⟨by decide +kernel, rfl⟩
theorem qX4_takesAll_13 : DI cX4_takesAll 13 (.invokevirtual 101) 3 16 := ⟨by decide +kernel, rfl⟩
theorem qX4_takesAll_16 : DI cX4_takesAll 16 (.invokevirtual 31) 3 19 := ⟨by decide +kernel, rfl⟩
theorem qX4_takesAll_19 : DJ cX4_takesAll 19 (.ifCond .ne) 24 22 := ⟨5, by decide +kernel, by decide, rfl⟩
theorem qX4_takesAll_22 : DI cX4_takesAll 22 (.iconst 0) 1 23 := ⟨by decide +kernel, rfl⟩
theorem qX4_takesAll_23 : DI cX4_takesAll 23 (.ireturn) 1 24 := ⟨by decide +kernel, rfl⟩
theorem qX4_takesAll_24 : DI cX4_takesAll 24 (.iinc 2 1) 3 27 := ⟨by decide +kernel, rfl⟩
theorem qX4_takesAll_27 : DJ cX4_takesAll 27 .goto 2 30 := ⟨(-25), by decide +kernel, by decide, rfl⟩
theorem qX4_takesAll_30 : DI cX4_takesAll 30 (.iconst 1) 1 31 := ⟨by decide +kernel, rfl⟩
theorem qX4_takesAll_31 : DI cX4_takesAll 31 (.ireturn) 1 32 := ⟨by decide +kernel, rfl⟩
theorem qX4_takes_0 : DI cX4_takes 0 (.aload_n 0) 1 1 := ⟨by decide +kernel, rfl⟩
theorem qX4_takes_1 : DI cX4_takes 1 (.invokevirtual 35) 3 4 := ⟨by decide +kernel, rfl⟩
theorem qX4_takes_4 : DI cX4_takes 4 (.iload_n 1) 1 5 := ⟨by decide +kernel, rfl⟩
theorem qX4_takes_5 : DJ cX4_takes 5 (.if_icmp .eq) 10 8 := ⟨5, by decide +kernel, by decide, rfl⟩
theorem qX4_takes_8 : DI cX4_takes 8 (.iconst 0) 1 9 := ⟨by decide +kernel, rfl⟩
theorem qX4_takes_9 : DI cX4_takes 9 (.ireturn) 1 10 := ⟨by decide +kernel, rfl⟩
theorem qX4_takes_10 : DI cX4_takes 10 (.aload_n 0) 1 11 := ⟨by decide +kernel, rfl⟩
theorem qX4_takes_11 : DI cX4_takes 11 (.dup) 1 12 := ⟨by decide +kernel, rfl⟩
theorem qX4_takes_12 : DI cX4_takes 12 (.getfield 19) 3 15 := ⟨by decide +kernel, rfl⟩
theorem qX4_takes_15 : DI cX4_takes 15 (.iconst 1) 1 16 := ⟨by decide +kernel, rfl⟩
theorem qX4_takes_16 : DI cX4_takes 16 (.iadd) 1 17 := ⟨by decide +kernel, rfl⟩
theorem qX4_takes_17 : DI cX4_takes 17 (.putfield 19) 3 20 := ⟨by decide +kernel, rfl⟩
theorem qX4_takes_20 : DI cX4_takes 20 (.iconst 1) 1 21 := ⟨by decide +kernel, rfl⟩
theorem qX4_takes_21 : DI cX4_takes 21 (.ireturn) 1 22 := ⟨by decide +kernel, rfl⟩
theorem qX4_ahead_0 : DI cX4_ahead 0 (.aload_n 0) 1 1 := ⟨by decide +kernel, rfl⟩
theorem qX4_ahead_1 : DI cX4_ahead 1 (.getfield 19) 3 4 := ⟨by decide +kernel, rfl⟩
theorem qX4_ahead_4 : DJ cX4_ahead 4 (.ifCond .lt) 39 7 := ⟨35, by decide +kernel, by decide, rfl⟩
theorem qX4_ahead_7 : DI cX4_ahead 7 (.aload_n 0) 1 8 := ⟨by decide +kernel, rfl⟩
theorem qX4_ahead_8 : DI cX4_ahead 8 (.getfield 19) 3 11 := ⟨by decide +kernel, rfl⟩
theorem qX4_ahead_11 : DI cX4_ahead 11 (.aload_n 0) 1 12 := ⟨by decide +kernel, rfl⟩
theorem qX4_ahead_12 : DI cX4_ahead 12 (.getfield 15) 3 15 := ⟨by decide +kernel, rfl⟩
theorem qX4_ahead_15 : DJ cX4_ahead 15 (.if_icmp .ge) 39 18 := ⟨24, by decide +kernel, by decide, rfl⟩
theorem qX4_ahead_18 : DI cX4_ahead 18 (.aload_n 0) 1 19 := ⟨by decide +kernel, rfl⟩
theorem qX4_ahead_19 : DI cX4_ahead 19 (.getfield 19) 3 22 := ⟨by decide +kernel, rfl⟩
theorem qX4_ahead_22 : DI cX4_ahead 22 (.bipush 100) 2 24 := ⟨by decide +kernel, rfl⟩
theorem qX4_ahead_24 : DJ cX4_ahead 24 (.if_icmp .ge) 39 27 := ⟨15, by decide +kernel, by decide, rfl⟩
theorem qX4_ahead_27 : DI cX4_ahead 27 (.aload_n 0) 1 28 := ⟨by decide +kernel, rfl⟩
theorem qX4_ahead_28 : DI cX4_ahead 28 (.getfield 11) 3 31 := ⟨by decide +kernel, rfl⟩
theorem qX4_ahead_31 : DI cX4_ahead 31 (.aload_n 0) 1 32 := ⟨by decide +kernel, rfl⟩
theorem qX4_ahead_32 : DI cX4_ahead 32 (.getfield 19) 3 35 := ⟨by decide +kernel, rfl⟩
theorem qX4_ahead_35 : DI cX4_ahead 35 (.caload) 1 36 := ⟨by decide +kernel, rfl⟩
theorem qX4_ahead_36 : DJ cX4_ahead 36 .goto 42 39 := ⟨6, by decide +kernel, by decide, rfl⟩
theorem qX4_ahead_39 : DI cX4_ahead 39 (.sipush 255) 3 42 := ⟨by decide +kernel, rfl⟩
theorem qX4_ahead_42 : DI cX4_ahead 42 (.ireturn) 1 43 := ⟨by decide +kernel, rfl⟩
theorem qX5_become_0 : DI cX5_become 0 (.aload_n 0) 1 1 := ⟨by decide +kernel, rfl⟩
theorem qX5_become_1 : DI cX5_become 1 (.iload_n 1) 1 2 := ⟨by decide +kernel, rfl⟩
theorem qX5_become_2 : DI cX5_become 2 (.putfield 9) 3 5 := ⟨by decide +kernel, rfl⟩
theorem qX5_become_5 : DI cX5_become 5 (.aload_n 0) 1 6 := ⟨by decide +kernel, rfl⟩
theorem qX5_become_6 : DI cX5_become 6 (.iconst 0) 1 7 := ⟨by decide +kernel, rfl⟩
theorem qX5_become_7 : DI cX5_become 7 (.iload_n 2) 1 8 := ⟨by decide +kernel, rfl⟩
theorem qX5_become_8 : DI cX5_become 8 (.bipush 60) 2 10 := ⟨by decide +kernel, rfl⟩
theorem qX5_become_10 : DI cX5_become 10 (.invokestatic 17) 3 13 := ⟨by decide +kernel, rfl⟩
theorem qX5_become_13 : DI cX5_become 13 (.invokestatic 23) 3 16 := ⟨by decide +kernel, rfl⟩
theorem qX5_become_16 : DI cX5_become 16 (.putfield 26) 3 19 := ⟨by decide +kernel, rfl⟩
theorem qX5_become_19 : DI cX5_become 19 (.aload_n 0) 1 20 := ⟨by decide +kernel, rfl⟩
theorem qX5_become_20 : DI cX5_become 20 (.getfield 13) 3 23 := ⟨by decide +kernel, rfl⟩
theorem qX5_become_23 : DI cX5_become 23 (.lconst 0) 1 24 := ⟨by decide +kernel, rfl⟩
theorem qX5_become_24 : DI cX5_become 24 (.invokestatic 29) 3 27 := ⟨by decide +kernel, rfl⟩
theorem qX5_become_27 : DI cX5_become 27 (.return_) 1 28 := ⟨by decide +kernel, rfl⟩
theorem qX5_fitted_0 : DI cX5_fitted 0 (.aload_n 0) 1 1 := ⟨by decide +kernel, rfl⟩
theorem qX5_fitted_1 : DI cX5_fitted 1 (.getfield 9) 3 4 := ⟨by decide +kernel, rfl⟩
theorem qX5_fitted_4 : decode cX5_fitted 4 = .ok (.tableswitch 62 0 4 #[36, 41, 46, 62, 50], 36) := by decide +kernel
theorem qX5_fitted_40 : DI cX5_fitted 40 (.lload_n 1) 1 41 := ⟨by decide +kernel, rfl⟩
theorem qX5_fitted_41 : DI cX5_fitted 41 (.l2i) 1 42 := ⟨by decide +kernel, rfl⟩
theorem qX5_fitted_42 : DI cX5_fitted 42 (.i2b) 1 43 := ⟨by decide +kernel, rfl⟩
theorem qX5_fitted_43 : DI cX5_fitted 43 (.i2l) 1 44 := ⟨by decide +kernel, rfl⟩
theorem qX5_fitted_44 : DI cX5_fitted 44 (.lreturn) 1 45 := ⟨by decide +kernel, rfl⟩
theorem qX5_fitted_45 : DI cX5_fitted 45 (.lload_n 1) 1 46 := ⟨by decide +kernel, rfl⟩
theorem qX5_fitted_46 : DI cX5_fitted 46 (.l2i) 1 47 := ⟨by decide +kernel, rfl⟩
theorem qX5_fitted_47 : DI cX5_fitted 47 (.i2s) 1 48 := ⟨by decide +kernel, rfl⟩
theorem qX5_fitted_48 : DI cX5_fitted 48 (.i2l) 1 49 := ⟨by decide +kernel, rfl⟩
theorem qX5_fitted_49 : DI cX5_fitted 49 (.lreturn) 1 50 := ⟨by decide +kernel, rfl⟩
theorem qX5_fitted_50 : DI cX5_fitted 50 (.lload_n 1) 1 51 := ⟨by decide +kernel, rfl⟩
theorem qX5_fitted_51 : DI cX5_fitted 51 (.l2i) 1 52 := ⟨by decide +kernel, rfl⟩
theorem qX5_fitted_52 : DI cX5_fitted 52 (.i2l) 1 53 := ⟨by decide +kernel, rfl⟩
theorem qX5_fitted_53 : DI cX5_fitted 53 (.lreturn) 1 54 := ⟨by decide +kernel, rfl⟩
theorem qX5_fitted_54 : DI cX5_fitted 54 (.lload_n 1) 1 55 := ⟨by decide +kernel, rfl⟩
theorem qX5_fitted_55 : DI cX5_fitted 55 (.lconst 0) 1 56 := ⟨by decide +kernel, rfl⟩
theorem qX5_fitted_56 : DI cX5_fitted 56 (.lcmp) 1 57 := ⟨by decide +kernel, rfl⟩
theorem qX5_fitted_57 : DJ cX5_fitted 57 (.ifCond .eq) 64 60 := ⟨7, by decide +kernel, by decide, rfl⟩
theorem qX5_fitted_60 : DI cX5_fitted 60 (.lconst 1) 1 61 := ⟨by decide +kernel, rfl⟩
theorem qX5_fitted_61 : DJ cX5_fitted 61 .goto 65 64 := ⟨4, by decide +kernel, by decide, rfl⟩
theorem qX5_fitted_64 : DI cX5_fitted 64 (.lconst 0) 1 65 := ⟨by decide +kernel, rfl⟩
theorem qX5_fitted_65 : DI cX5_fitted 65 (.lreturn) 1 66 := ⟨by decide +kernel, rfl⟩
theorem qX5_fitted_66 : DI cX5_fitted 66 (.lload_n 1) 1 67 := ⟨by decide +kernel, rfl⟩
theorem qX5_fitted_67 : DI cX5_fitted 67 (.lreturn) 1 68 := ⟨by decide +kernel, rfl⟩
theorem qX5_hasStretch_0 : DI cX5_hasStretch 0 (.iload_n 2) 1 1 := ⟨by decide +kernel, rfl⟩
theorem qX5_hasStretch_1 : DJ cX5_hasStretch 1 (.ifCond .lt) 22 4 := ⟨21, by decide +kernel, by decide, rfl⟩
theorem qX5_hasStretch_4 : DI cX5_hasStretch 4 (.iload_n 1) 1 5 := ⟨by decide +kernel, rfl⟩
theorem qX5_hasStretch_5 : DJ cX5_hasStretch 5 (.ifCond .lt) 22 8 := ⟨17, by decide +kernel, by decide, rfl⟩
theorem qX5_hasStretch_8 : DI cX5_hasStretch 8 (.iload_n 1) 1 9 := ⟨by decide +kernel, rfl⟩
theorem qX5_hasStretch_9 : DI cX5_hasStretch 9 (.aload_n 0) 1 10 := ⟨by decide +kernel, rfl⟩
theorem qX5_hasStretch_10 : DI cX5_hasStretch 10 (.getfield 26) 3 13 := ⟨by decide +kernel, rfl⟩
theorem qX5_hasStretch_13 : DI cX5_hasStretch 13 (.iload_n 2) 1 14 := ⟨by decide +kernel, rfl⟩
theorem qX5_hasStretch_14 : DI cX5_hasStretch 14 (.isub) 1 15 := ⟨by decide +kernel, rfl⟩
theorem qX5_hasStretch_15 : DJ cX5_hasStretch 15 (.if_icmp .gt) 22 18 := ⟨7, by decide +kernel, by decide, rfl⟩
theorem qX5_hasStretch_18 : DI cX5_hasStretch 18 (.iconst 1) 1 19 := ⟨by decide +kernel, rfl⟩
theorem qX5_hasStretch_19 : DJ cX5_hasStretch 19 .goto 23 22 := ⟨4, by decide +kernel, by decide, rfl⟩
theorem qX5_hasStretch_22 : DI cX5_hasStretch 22 (.iconst 0) 1 23 := ⟨by decide +kernel, rfl⟩
theorem qX5_hasStretch_23 : DI cX5_hasStretch 23 (.ireturn) 1 24 := ⟨by decide +kernel, rfl⟩
theorem qX6_modulo_0 : DI cX6_modulo 0 (.iload_n 1) 1 1 := ⟨by decide +kernel, rfl⟩
theorem qX6_modulo_1 : DI cX6_modulo 1 (.iconst 1) 1 2 := ⟨by decide +kernel, rfl⟩
theorem qX6_modulo_2 : DJ cX6_modulo 2 (.if_icmp .ge) 9 5 := ⟨7, by decide +kernel, by decide, rfl⟩
theorem qX6_modulo_5 : DI cX6_modulo 5 (.iconst 0) 1 6 := ⟨by decide +kernel, rfl⟩
theorem qX6_modulo_6 : DJ cX6_modulo 6 .goto 14 9 := ⟨8, by decide +kernel, by decide, rfl⟩
theorem qX6_modulo_9 : DI cX6_modulo 9 (.iload_n 0) 1 10 := ⟨by decide +kernel, rfl⟩
theorem qX6_modulo_10 : DI cX6_modulo 10 (.iload_n 1) 1 11 := ⟨by decide +kernel, rfl⟩
theorem qX6_modulo_11 : DI cX6_modulo 11 (.invokestatic 284) 3 14 := ⟨by decide +kernel, rfl⟩
theorem qX6_modulo_14 : DI cX6_modulo 14 (.ireturn) 1 15 := ⟨by decide +kernel, rfl⟩
theorem qJ9_floorMod_7cf53_0 : DI cJ9_floorMod_7cf53 0 (.iload_n 0) 1 1 := ⟨by decide +kernel, rfl⟩
theorem qJ9_floorMod_7cf53_1 : DI cJ9_floorMod_7cf53 1 (.iload_n 1) 1 2 := ⟨by decide +kernel, rfl⟩
theorem qJ9_floorMod_7cf53_2 : DI cJ9_floorMod_7cf53 2 (.irem) 1 3 := ⟨by decide +kernel, rfl⟩
theorem qJ9_floorMod_7cf53_3 : DI cJ9_floorMod_7cf53 3 (.istore_n 2) 1 4 := ⟨by decide +kernel, rfl⟩
theorem qJ9_floorMod_7cf53_4 : DI cJ9_floorMod_7cf53 4 (.iload_n 0) 1 5 := ⟨by decide +kernel, rfl⟩
theorem qJ9_floorMod_7cf53_5 : DI cJ9_floorMod_7cf53 5 (.iload_n 1) 1 6 := ⟨by decide +kernel, rfl⟩
theorem qJ9_floorMod_7cf53_6 : DI cJ9_floorMod_7cf53 6 (.ixor) 1 7 := ⟨by decide +kernel, rfl⟩
theorem qJ9_floorMod_7cf53_7 : DJ cJ9_floorMod_7cf53 7 (.ifCond .ge) 18 10 := ⟨11, by decide +kernel, by decide, rfl⟩
theorem qJ9_floorMod_7cf53_10 : DI cJ9_floorMod_7cf53 10 (.iload_n 2) 1 11 := ⟨by decide +kernel, rfl⟩
theorem qJ9_floorMod_7cf53_11 : DJ cJ9_floorMod_7cf53 11 (.ifCond .eq) 18 14 := ⟨7, by decide +kernel, by decide, rfl⟩
theorem qJ9_floorMod_7cf53_14 : DI cJ9_floorMod_7cf53 14 (.iload_n 2) 1 15 := ⟨by decide +kernel, rfl⟩
theorem qJ9_floorMod_7cf53_15 : DI cJ9_floorMod_7cf53 15 (.iload_n 1) 1 16 := ⟨by decide +kernel, rfl⟩
theorem qJ9_floorMod_7cf53_16 : DI cJ9_floorMod_7cf53 16 (.iadd) 1 17 := ⟨by decide +kernel, rfl⟩
theorem qJ9_floorMod_7cf53_17 : DI cJ9_floorMod_7cf53 17 (.ireturn) 1 18 := ⟨by decide +kernel, rfl⟩
theorem qJ9_floorMod_7cf53_18 : DI cJ9_floorMod_7cf53 18 (.iload_n 2) 1 19 := ⟨by decide +kernel, rfl⟩
theorem qJ9_floorMod_7cf53_19 : DI cJ9_floorMod_7cf53 19 (.ireturn) 1 20 := ⟨by decide +kernel, rfl⟩
theorem qJ9_max_7cf53_0 : DI cJ9_max_7cf53 0 (.iload_n 0) 1 1 := ⟨by decide +kernel, rfl⟩
theorem qJ9_max_7cf53_1 : DI cJ9_max_7cf53 1 (.iload_n 1) 1 2 := ⟨by decide +kernel, rfl⟩
theorem qJ9_max_7cf53_2 : DJ cJ9_max_7cf53 2 (.if_icmp .lt) 9 5 := ⟨7, by decide +kernel, by decide, rfl⟩
theorem qJ9_max_7cf53_5 : DI cJ9_max_7cf53 5 (.iload_n 0) 1 6 := ⟨by decide +kernel, rfl⟩
theorem qJ9_max_7cf53_6 : DJ cJ9_max_7cf53 6 .goto 10 9 := ⟨4, by decide +kernel, by decide, rfl⟩
theorem qJ9_max_7cf53_9 : DI cJ9_max_7cf53 9 (.iload_n 1) 1 10 := ⟨by decide +kernel, rfl⟩
theorem qJ9_max_7cf53_10 : DI cJ9_max_7cf53 10 (.ireturn) 1 11 := ⟨by decide +kernel, rfl⟩
theorem qJ9_min_7cf53_0 : DI cJ9_min_7cf53 0 (.iload_n 0) 1 1 := ⟨by decide +kernel, rfl⟩
theorem qJ9_min_7cf53_1 : DI cJ9_min_7cf53 1 (.iload_n 1) 1 2 := ⟨by decide +kernel, rfl⟩
theorem qJ9_min_7cf53_2 : DJ cJ9_min_7cf53 2 (.if_icmp .gt) 9 5 := ⟨7, by decide +kernel, by decide, rfl⟩
theorem qJ9_min_7cf53_5 : DI cJ9_min_7cf53 5 (.iload_n 0) 1 6 := ⟨by decide +kernel, rfl⟩
theorem qJ9_min_7cf53_6 : DJ cJ9_min_7cf53 6 .goto 10 9 := ⟨4, by decide +kernel, by decide, rfl⟩
theorem qJ9_min_7cf53_9 : DI cJ9_min_7cf53 9 (.iload_n 1) 1 10 := ⟨by decide +kernel, rfl⟩
theorem qJ9_min_7cf53_10 : DI cJ9_min_7cf53 10 (.ireturn) 1 11 := ⟨by decide +kernel, rfl⟩
theorem qJ0_length_8abf5_0 : DI cJ0_length_8abf5 0 (.aload_n 0) 1 1 := ⟨by decide +kernel, rfl⟩
theorem qJ0_length_8abf5_1 : DI cJ0_length_8abf5 1 (.getfield 9) 3 4 := ⟨by decide +kernel, rfl⟩
theorem qJ0_length_8abf5_4 : DI cJ0_length_8abf5 4 (.arraylength) 1 5 := ⟨by decide +kernel, rfl⟩
theorem qJ0_length_8abf5_5 : DI cJ0_length_8abf5 5 (.aload_n 0) 1 6 := ⟨by decide +kernel, rfl⟩
theorem qJ0_length_8abf5_6 : DI cJ0_length_8abf5 6 (.invokevirtual 335) 3 9 := ⟨by decide +kernel, rfl⟩
theorem qJ0_length_8abf5_9 : DI cJ0_length_8abf5 9 (.ishr) 1 10 := ⟨by decide +kernel, rfl⟩
theorem qJ0_length_8abf5_10 : DI cJ0_length_8abf5 10 (.ireturn) 1 11 := ⟨by decide +kernel, rfl⟩
theorem qJ0_charAt_5068e_0 : DI cJ0_charAt_5068e 0 (.aload_n 0) 1 1 := ⟨by decide +kernel, rfl⟩
theorem qJ0_charAt_5068e_1 : DI cJ0_charAt_5068e 1 (.invokevirtual 492) 3 4 := ⟨by decide +kernel, rfl⟩
theorem qJ0_charAt_5068e_4 : DJ cJ0_charAt_5068e 4 (.ifCond .eq) 16 7 := ⟨12, by decide +kernel, by decide, rfl⟩
theorem qJ0_charAt_5068e_7 : DI cJ0_charAt_5068e 7 (.aload_n 0) 1 8 := ⟨by decide +kernel, rfl⟩
theorem qJ0_charAt_5068e_8 : DI cJ0_charAt_5068e 8 (.getfield 9) 3 11 := ⟨by decide +kernel, rfl⟩
theorem qJ0_charAt_5068e_11 : DI cJ0_charAt_5068e 11 (.iload_n 1) 1 12 := ⟨by decide +kernel, rfl⟩
theorem qJ0_charAt_5068e_12 : DI cJ0_charAt_5068e 12 (.invokestatic 495) 3 15 := ⟨by decide +kernel, rfl⟩
theorem qJ0_charAt_5068e_15 : DI cJ0_charAt_5068e 15 (.ireturn) 1 16 := ⟨by decide +kernel, rfl⟩
theorem qJ0_charAt_5068e_16 : DI cJ0_charAt_5068e 16 (.aload_n 0) 1 17 := ⟨by decide +kernel, rfl⟩
theorem qJ0_charAt_5068e_17 : DI cJ0_charAt_5068e 17 (.getfield 9) 3 20 := ⟨by decide +kernel, rfl⟩
theorem qJ0_charAt_5068e_20 : DI cJ0_charAt_5068e 20 (.iload_n 1) 1 21 := ⟨by decide +kernel, rfl⟩
theorem qJ0_charAt_5068e_21 : DI cJ0_charAt_5068e 21 (.invokestatic 498) 3 24 := ⟨by decide +kernel, rfl⟩
theorem qJ0_charAt_5068e_24 : DI cJ0_charAt_5068e 24 (.ireturn) 1 25 := ⟨by decide +kernel, rfl⟩
theorem qJ0_indexOf_0f7a4_0 : DI cJ0_indexOf_0f7a4 0 (.aload_n 0) 1 1 := ⟨by decide +kernel, rfl⟩
theorem qJ0_indexOf_0f7a4_1 : DI cJ0_indexOf_0f7a4 1 (.iload_n 1) 1 2 := ⟨by decide +kernel, rfl⟩
theorem qJ0_indexOf_0f7a4_2 : DI cJ0_indexOf_0f7a4 2 (.iconst 0) 1 3 := ⟨by decide +kernel, rfl⟩
theorem qJ0_indexOf_0f7a4_3 : DI cJ0_indexOf_0f7a4 3 (.invokevirtual 633) 3 6 := ⟨by decide +kernel, rfl⟩
theorem qJ0_indexOf_0f7a4_6 : DI cJ0_indexOf_0f7a4 6 (.ireturn) 1 7 := ⟨by decide +kernel, rfl⟩
theorem qJ0_indexOf_7cf53_0 : DI cJ0_indexOf_7cf53 0 (.aload_n 0) 1 1 := ⟨by decide +kernel, rfl⟩
theorem qJ0_indexOf_7cf53_1 : DI cJ0_indexOf_7cf53 1 (.invokevirtual 492) 3 4 := ⟨by decide +kernel, rfl⟩
theorem qJ0_indexOf_7cf53_4 : DJ cJ0_indexOf_7cf53 4 (.ifCond .eq) 23 7 := ⟨19, by decide +kernel, by decide, rfl⟩
theorem qJ0_indexOf_7cf53_7 : DI cJ0_indexOf_7cf53 7 (.aload_n 0) 1 8 := ⟨by decide +kernel, rfl⟩
theorem qJ0_indexOf_7cf53_8 : DI cJ0_indexOf_7cf53 8 (.getfield 9) 3 11 := ⟨by decide +kernel, rfl⟩
theorem qJ0_indexOf_7cf53_11 : DI cJ0_indexOf_7cf53 11 (.iload_n 1) 1 12 := ⟨by decide +kernel, rfl⟩
theorem qJ0_indexOf_7cf53_12 : DI cJ0_indexOf_7cf53 12 (.iload_n 2) 1 13 := ⟨by decide +kernel, rfl⟩
theorem qJ0_indexOf_7cf53_13 : DI cJ0_indexOf_7cf53 13 (.aload_n 0) 1 14 := ⟨by decide +kernel, rfl⟩
theorem qJ0_indexOf_7cf53_14 : DI cJ0_indexOf_7cf53 14 (.invokevirtual 505) 3 17 := ⟨by decide +kernel, rfl⟩
theorem qJ0_indexOf_7cf53_17 : DI cJ0_indexOf_7cf53 17 (.invokestatic 637) 3 20 := ⟨by decide +kernel, rfl⟩
theorem qJ0_indexOf_7cf53_20 : DJ cJ0_indexOf_7cf53 20 .goto 36 23 := ⟨16, by decide +kernel, by decide, rfl⟩
theorem qJ0_indexOf_7cf53_23 : DI cJ0_indexOf_7cf53 23 (.aload_n 0) 1 24 := ⟨by decide +kernel, rfl⟩
theorem qJ0_indexOf_7cf53_24 : DI cJ0_indexOf_7cf53 24 (.getfield 9) 3 27 := ⟨by decide +kernel, rfl⟩
theorem qJ0_indexOf_7cf53_27 : DI cJ0_indexOf_7cf53 27 (.iload_n 1) 1 28 := ⟨by decide +kernel, rfl⟩
theorem qJ0_indexOf_7cf53_28 : DI cJ0_indexOf_7cf53 28 (.iload_n 2) 1 29 := ⟨by decide +kernel, rfl⟩
theorem qJ0_indexOf_7cf53_29 : DI cJ0_indexOf_7cf53 29 (.aload_n 0) 1 30 := ⟨by decide +kernel, rfl⟩
theorem qJ0_indexOf_7cf53_30 : DI cJ0_indexOf_7cf53 30 (.invokevirtual 505) 3 33 := ⟨by decide +kernel, rfl⟩
theorem qJ0_indexOf_7cf53_33 : DI cJ0_indexOf_7cf53 33 (.invokestatic 640) 3 36 := ⟨by decide +kernel, rfl⟩
theorem qJ0_indexOf_7cf53_36 : DI cJ0_indexOf_7cf53 36 (.ireturn) 1 37 := ⟨by decide +kernel, rfl⟩
theorem qJ0_coder_7d493_0 : DI cJ0_coder_7d493 0 (.getstatic 38) 3 3 := ⟨by decide +kernel, rfl⟩
theorem qJ0_coder_7d493_3 : DJ cJ0_coder_7d493 3 (.ifCond .eq) 13 6 := ⟨10, by decide +kernel, by decide, rfl⟩
theorem qJ0_coder_7d493_6 : DI cJ0_coder_7d493 6 (.aload_n 0) 1 7 := ⟨by decide +kernel, rfl⟩
theorem qJ0_coder_7d493_7 : DI cJ0_coder_7d493 7 (.getfield 15) 3 10 := ⟨by decide +kernel, rfl⟩
theorem qJ0_coder_7d493_10 : DJ cJ0_coder_7d493 10 .goto 14 13 := ⟨4, by decide +kernel, by decide, rfl⟩
theorem qJ0_coder_7d493_13 : DI cJ0_coder_7d493 13 (.iconst 1) 1 14 := ⟨by decide +kernel, rfl⟩
theorem qJ0_coder_7d493_14 : DI cJ0_coder_7d493 14 (.ireturn) 1 15 := ⟨by decide +kernel, rfl⟩
theorem qJ0_isLatin1_aae02_0 : DI cJ0_isLatin1_aae02 0 (.getstatic 38) 3 3 := ⟨by decide +kernel, rfl⟩
theorem qJ0_isLatin1_aae02_3 : DJ cJ0_isLatin1_aae02 3 (.ifCond .eq) 17 6 := ⟨14, by decide +kernel, by decide, rfl⟩
theorem qJ0_isLatin1_aae02_6 : DI cJ0_isLatin1_aae02 6 (.aload_n 0) 1 7 := ⟨by decide +kernel, rfl⟩
theorem qJ0_isLatin1_aae02_7 : DI cJ0_isLatin1_aae02 7 (.getfield 15) 3 10 := ⟨by decide +kernel, rfl⟩
theorem qJ0_isLatin1_aae02_10 : DJ cJ0_isLatin1_aae02 10 (.ifCond .ne) 17 13 := ⟨7, by decide +kernel, by decide, rfl⟩
theorem qJ0_isLatin1_aae02_13 : DI cJ0_isLatin1_aae02 13 (.iconst 1) 1 14 := ⟨by decide +kernel, rfl⟩
theorem qJ0_isLatin1_aae02_14 : DJ cJ0_isLatin1_aae02 14 .goto 18 17 := ⟨4, by decide +kernel, by decide, rfl⟩
theorem qJ0_isLatin1_aae02_17 : DI cJ0_isLatin1_aae02 17 (.iconst 0) 1 18 := ⟨by decide +kernel, rfl⟩
theorem qJ0_isLatin1_aae02_18 : DI cJ0_isLatin1_aae02 18 (.ireturn) 1 19 := ⟨by decide +kernel, rfl⟩
theorem qJ0_checkIndex_df160_0 : DI cJ0_checkIndex_df160 0 (.iload_n 0) 1 1 := ⟨by decide +kernel, rfl⟩
theorem qJ0_checkIndex_df160_1 : DI cJ0_checkIndex_df160 1 (.iload_n 1) 1 2 := ⟨by decide +kernel, rfl⟩
theorem qJ0_checkIndex_df160_2 : DI cJ0_checkIndex_df160 2 (.getstatic 1053) 3 5 := ⟨by decide +kernel, rfl⟩
theorem qJ0_checkIndex_df160_5 : DI cJ0_checkIndex_df160 5 (.invokestatic 1059) 3 8 := ⟨by decide +kernel, rfl⟩
theorem qJ0_checkIndex_df160_8 : DI cJ0_checkIndex_df160 8 (.pop) 1 9 := ⟨by decide +kernel, rfl⟩
theorem qJ0_checkIndex_df160_9 : DI cJ0_checkIndex_df160 9 (.return_) 1 10 := ⟨by decide +kernel, rfl⟩
theorem qJ0_checkBoundsBeginEnd_23922_0 : DI cJ0_checkBoundsBeginEnd_23922 0 (.iload_n 0) 1 1 := ⟨by decide +kernel, rfl⟩
theorem qJ0_checkBoundsBeginEnd_23922_1 : DI cJ0_checkBoundsBeginEnd_23922 1 (.iload_n 1) 1 2 := ⟨by decide +kernel, rfl⟩
theorem qJ0_checkBoundsBeginEnd_23922_2 : DI cJ0_checkBoundsBeginEnd_23922 2 (.iload_n 2) 1 3 := ⟨by decide +kernel, rfl⟩
theorem qJ0_checkBoundsBeginEnd_23922_3 : DI cJ0_checkBoundsBeginEnd_23922 3 (.getstatic 1053) 3 6 := ⟨by decide +kernel, rfl⟩
theorem qJ0_checkBoundsBeginEnd_23922_6 : DI cJ0_checkBoundsBeginEnd_23922 6 (.invokestatic 1062) 3 9 := ⟨by decide +kernel, rfl⟩
theorem qJ0_checkBoundsBeginEnd_23922_9 : DI cJ0_checkBoundsBeginEnd_23922 9 (.pop) 1 10 := ⟨by decide +kernel, rfl⟩
theorem qJ0_checkBoundsBeginEnd_23922_10 : DI cJ0_checkBoundsBeginEnd_23922 10 (.return_) 1 11 := ⟨by decide +kernel, rfl⟩
theorem qJ1_charAt_3b067_0 : DI cJ1_charAt_3b067 0 (.iload_n 1) 1 1 := ⟨by decide +kernel, rfl⟩
theorem qJ1_charAt_3b067_1 : DI cJ1_charAt_3b067 1 (.aload_n 0) 1 2 := ⟨by decide +kernel, rfl⟩
theorem qJ1_charAt_3b067_2 : DI cJ1_charAt_3b067 2 (.arraylength) 1 3 := ⟨by decide +kernel, rfl⟩
theorem qJ1_charAt_3b067_3 : DI cJ1_charAt_3b067 3 (.invokestatic 9) 3 6 := ⟨by decide +kernel, rfl⟩
theorem qJ1_charAt_3b067_6 : DI cJ1_charAt_3b067 6 (.aload_n 0) 1 7 := ⟨by decide +kernel, rfl⟩
theorem qJ1_charAt_3b067_7 : DI cJ1_charAt_3b067 7 (.iload_n 1) 1 8 := ⟨by decide +kernel, rfl⟩
theorem qJ1_charAt_3b067_8 : DI cJ1_charAt_3b067 8 (.baload) 1 9 := ⟨by decide +kernel, rfl⟩
theorem qJ1_charAt_3b067_9 : DI cJ1_charAt_3b067 9 (.sipush 255) 3 12 := ⟨by decide +kernel, rfl⟩
theorem qJ1_charAt_3b067_12 : DI cJ1_charAt_3b067 12 (.iand) 1 13 := ⟨by decide +kernel, rfl⟩
theorem qJ1_charAt_3b067_13 : DI cJ1_charAt_3b067 13 (.i2c) 1 14 := ⟨by decide +kernel, rfl⟩
theorem qJ1_charAt_3b067_14 : DI cJ1_charAt_3b067 14 (.ireturn) 1 15 := ⟨by decide +kernel, rfl⟩
theorem qJ1_canEncode_9a6ad_0 : DI cJ1_canEncode_9a6ad 0 (.iload_n 0) 1 1 := ⟨by decide +kernel, rfl⟩
theorem qJ1_canEncode_9a6ad_1 : DJ cJ1_canEncode_9a6ad 1 (.ifCond .lt) 15 4 := ⟨14, by decide +kernel, by decide, rfl⟩
theorem qJ1_canEncode_9a6ad_4 : DI cJ1_canEncode_9a6ad 4 (.iload_n 0) 1 5 := ⟨by decide +kernel, rfl⟩
theorem qJ1_canEncode_9a6ad_5 : DI cJ1_canEncode_9a6ad 5 (.sipush 255) 3 8 := ⟨by decide +kernel, rfl⟩
theorem qJ1_canEncode_9a6ad_8 : DJ cJ1_canEncode_9a6ad 8 (.if_icmp .gt) 15 11 := ⟨7, by decide +kernel, by decide, rfl⟩
theorem qJ1_canEncode_9a6ad_11 : DI cJ1_canEncode_9a6ad 11 (.iconst 1) 1 12 := ⟨by decide +kernel, rfl⟩
theorem qJ1_canEncode_9a6ad_12 : DJ cJ1_canEncode_9a6ad 12 .goto 16 15 := ⟨4, by decide +kernel, by decide, rfl⟩
theorem qJ1_canEncode_9a6ad_15 : DI cJ1_canEncode_9a6ad 15 (.iconst 0) 1 16 := ⟨by decide +kernel, rfl⟩
theorem qJ1_canEncode_9a6ad_16 : DI cJ1_canEncode_9a6ad 16 (.ireturn) 1 17 := ⟨by decide +kernel, rfl⟩
theorem qJ1_indexOf_4cfef_0 : DI cJ1_indexOf_4cfef 0 (.iload_n 1) 1 1 := ⟨by decide +kernel, rfl⟩
theorem qJ1_indexOf_4cfef_1 : DI cJ1_indexOf_4cfef 1 (.invokestatic 88) 3 4 := ⟨by decide +kernel, rfl⟩
theorem qJ1_indexOf_4cfef_4 : DJ cJ1_indexOf_4cfef 4 (.ifCond .ne) 9 7 := ⟨5, by decide +kernel, by decide, rfl⟩
theorem qJ1_indexOf_4cfef_7 : DI cJ1_indexOf_4cfef 7 (.iconst (-1)) 1 8 := ⟨by decide +kernel, rfl⟩
theorem qJ1_indexOf_4cfef_8 : DI cJ1_indexOf_4cfef 8 (.ireturn) 1 9 := ⟨by decide +kernel, rfl⟩
theorem qJ1_indexOf_4cfef_9 : DI cJ1_indexOf_4cfef 9 (.iload_n 2) 1 10 := ⟨by decide +kernel, rfl⟩
theorem qJ1_indexOf_4cfef_10 : DI cJ1_indexOf_4cfef 10 (.iconst 0) 1 11 := ⟨by decide +kernel, rfl⟩
theorem qJ1_indexOf_4cfef_11 : DI cJ1_indexOf_4cfef 11 (.invokestatic 92) 3 14 := ⟨by decide +kernel, rfl⟩
theorem qJ1_indexOf_4cfef_14 : DI cJ1_indexOf_4cfef 14 (.istore_n 2) 1 15 := ⟨by decide +kernel, rfl⟩
theorem qJ1_indexOf_4cfef_15 : DI cJ1_indexOf_4cfef 15 (.iload_n 3) 1 16 := ⟨by decide +kernel, rfl⟩
theorem qJ1_indexOf_4cfef_16 : DI cJ1_indexOf_4cfef 16 (.aload_n 0) 1 17 := ⟨by decide +kernel, rfl⟩
theorem qJ1_indexOf_4cfef_17 : DI cJ1_indexOf_4cfef 17 (.arraylength) 1 18 := ⟨by decide +kernel, rfl⟩
theorem qJ1_indexOf_4cfef_18 : DI cJ1_indexOf_4cfef 18 (.invokestatic 38) 3 21 := ⟨by decide +kernel, rfl⟩
theorem qJ1_indexOf_4cfef_21 : DI cJ1_indexOf_4cfef 21 (.istore_n 3) 1 22 := ⟨by decide +kernel, rfl⟩
theorem qJ1_indexOf_4cfef_22 : DI cJ1_indexOf_4cfef 22 (.iload_n 2) 1 23 := ⟨by decide +kernel, rfl⟩
theorem qJ1_indexOf_4cfef_23 : DI cJ1_indexOf_4cfef 23 (.iload_n 3) 1 24 := ⟨by decide +kernel, rfl⟩
theorem qJ1_indexOf_4cfef_24 : DJ cJ1_indexOf_4cfef 24 (.if_icmp .lt) 29 27 := ⟨5, by decide +kernel, by decide, rfl⟩
theorem qJ1_indexOf_4cfef_27 : DI cJ1_indexOf_4cfef 27 (.iconst (-1)) 1 28 := ⟨by decide +kernel, rfl⟩
theorem qJ1_indexOf_4cfef_28 : DI cJ1_indexOf_4cfef 28 (.ireturn) 1 29 := ⟨by decide +kernel, rfl⟩
theorem qJ1_indexOf_4cfef_29 : DI cJ1_indexOf_4cfef 29 (.aload_n 0) 1 30 := ⟨by decide +kernel, rfl⟩
theorem qJ1_indexOf_4cfef_30 : DI cJ1_indexOf_4cfef 30 (.iload_n 1) 1 31 := ⟨by decide +kernel, rfl⟩
theorem qJ1_indexOf_4cfef_31 : DI cJ1_indexOf_4cfef 31 (.iload_n 2) 1 32 := ⟨by decide +kernel, rfl⟩
theorem qJ1_indexOf_4cfef_32 : DI cJ1_indexOf_4cfef 32 (.iload_n 3) 1 33 := ⟨by decide +kernel, rfl⟩
theorem qJ1_indexOf_4cfef_33 : DI cJ1_indexOf_4cfef 33 (.invokestatic 95) 3 36 := ⟨by decide +kernel, rfl⟩
theorem qJ1_indexOf_4cfef_36 : DI cJ1_indexOf_4cfef 36 (.ireturn) 1 37 := ⟨by decide +kernel, rfl⟩
theorem qJ1_indexOfChar_4cfef_0 : DI cJ1_indexOfChar_4cfef 0 (.iload_n 1) 1 1 := ⟨by decide +kernel, rfl⟩
theorem qJ1_indexOfChar_4cfef_1 : DI cJ1_indexOfChar_4cfef 1 (.i2b) 1 2 := ⟨by decide +kernel, rfl⟩
theorem qJ1_indexOfChar_4cfef_2 : DI cJ1_indexOfChar_4cfef 2 (.istore 4) 2 4 := ⟨by decide +kernel, rfl⟩
theorem qJ1_indexOfChar_4cfef_4 : DI cJ1_indexOfChar_4cfef 4 (.iload_n 2) 1 5 := ⟨by decide +kernel, rfl⟩
theorem qJ1_indexOfChar_4cfef_5 : DI cJ1_indexOfChar_4cfef 5 (.istore 5) 2 7 := ⟨by decide +kernel, rfl⟩
theorem qJ1_indexOfChar_4cfef_7 : DI cJ1_indexOfChar_4cfef 7 (.iload 5) 2 9 := ⟨by decide +kernel, rfl⟩
theorem qJ1_indexOfChar_4cfef_9 : DI cJ1_indexOfChar_4cfef 9 (.iload_n 3) 1 10 := ⟨by decide +kernel, rfl⟩
theorem qJ1_indexOfChar_4cfef_10 : DJ cJ1_indexOfChar_4cfef 10 (.if_icmp .ge) 31 13 := ⟨21, by decide +kernel, by decide, rfl⟩
theorem qJ1_indexOfChar_4cfef_13 : DI cJ1_indexOfChar_4cfef 13 (.aload_n 0) 1 14 := ⟨by decide +kernel, rfl⟩
theorem qJ1_indexOfChar_4cfef_14 : DI cJ1_indexOfChar_4cfef 14 (.iload 5) 2 16 := ⟨by decide +kernel, rfl⟩
theorem qJ1_indexOfChar_4cfef_16 : DI cJ1_indexOfChar_4cfef 16 (.baload) 1 17 := ⟨by decide +kernel, rfl⟩
theorem qJ1_indexOfChar_4cfef_17 : DI cJ1_indexOfChar_4cfef 17 (.iload 4) 2 19 := ⟨by decide +kernel, rfl⟩
theorem qJ1_indexOfChar_4cfef_19 : DJ cJ1_indexOfChar_4cfef 19 (.if_icmp .ne) 25 22 := ⟨6, by decide +kernel, by decide, rfl⟩
theorem qJ1_indexOfChar_4cfef_22 : DI cJ1_indexOfChar_4cfef 22 (.iload 5) 2 24 := ⟨by decide +kernel, rfl⟩
theorem qJ1_indexOfChar_4cfef_24 : DI cJ1_indexOfChar_4cfef 24 (.ireturn) 1 25 := ⟨by decide +kernel, rfl⟩
theorem qJ1_indexOfChar_4cfef_25 : DI cJ1_indexOfChar_4cfef 25 (.iinc 5 1) 3 28 := ⟨by decide +kernel, rfl⟩
theorem qJ1_indexOfChar_4cfef_28 : DJ cJ1_indexOfChar_4cfef 28 .goto 7 31 := ⟨(-21), by decide +kernel, by decide, rfl⟩
theorem qJ1_indexOfChar_4cfef_31 : DI cJ1_indexOfChar_4cfef 31 (.iconst (-1)) 1 32 := ⟨by decide +kernel, rfl⟩
theorem qJ1_indexOfChar_4cfef_32 : DI cJ1_indexOfChar_4cfef 32 (.ireturn) 1 33 := ⟨by decide +kernel, rfl⟩
theorem qJ7_fill_d0a16_0 : DI cJ7_fill_d0a16 0 (.iconst 0) 1 1 := ⟨by decide +kernel, rfl⟩
theorem qJ7_fill_d0a16_1 : DI cJ7_fill_d0a16 1 (.istore_n 3) 1 2 := ⟨by decide +kernel, rfl⟩
theorem qJ7_fill_d0a16_2 : DI cJ7_fill_d0a16 2 (.aload_n 0) 1 3 := ⟨by decide +kernel, rfl⟩
theorem qJ7_fill_d0a16_3 : DI cJ7_fill_d0a16 3 (.arraylength) 1 4 := ⟨by decide +kernel, rfl⟩
theorem qJ7_fill_d0a16_4 : DI cJ7_fill_d0a16 4 (.istore 4) 2 6 := ⟨by decide +kernel, rfl⟩
theorem qJ7_fill_d0a16_6 : DI cJ7_fill_d0a16 6 (.iload_n 3) 1 7 := ⟨by decide +kernel, rfl⟩
theorem qJ7_fill_d0a16_7 : DI cJ7_fill_d0a16 7 (.iload 4) 2 9 := ⟨by decide +kernel, rfl⟩
theorem qJ7_fill_d0a16_9 : DJ cJ7_fill_d0a16 9 (.if_icmp .ge) 22 12 := ⟨13, by decide +kernel, by decide, rfl⟩
theorem qJ7_fill_d0a16_12 : DI cJ7_fill_d0a16 12 (.aload_n 0) 1 13 := ⟨by decide +kernel, rfl⟩
theorem qJ7_fill_d0a16_13 : DI cJ7_fill_d0a16 13 (.iload_n 3) 1 14 := ⟨by decide +kernel, rfl⟩
theorem qJ7_fill_d0a16_14 : DI cJ7_fill_d0a16 14 (.lload_n 1) 1 15 := ⟨by decide +kernel, rfl⟩
theorem qJ7_fill_d0a16_15 : DI cJ7_fill_d0a16 15 (.lastore) 1 16 := ⟨by decide +kernel, rfl⟩
theorem qJ7_fill_d0a16_16 : DI cJ7_fill_d0a16 16 (.iinc 3 1) 3 19 := ⟨by decide +kernel, rfl⟩
theorem qJ7_fill_d0a16_19 : DJ cJ7_fill_d0a16 19 .goto 6 22 := ⟨(-13), by decide +kernel, by decide, rfl⟩
theorem qJ7_fill_d0a16_22 : DI cJ7_fill_d0a16 22 (.return_) 1 23 := ⟨by decide +kernel, rfl⟩
theorem qJ7_fill_53178_0 : DI cJ7_fill_53178 0 (.iconst 0) 1 1 := ⟨by decide +kernel, rfl⟩
theorem qJ7_fill_53178_1 : DI cJ7_fill_53178 1 (.istore_n 2) 1 2 := ⟨by decide +kernel, rfl⟩
theorem qJ7_fill_53178_2 : DI cJ7_fill_53178 2 (.aload_n 0) 1 3 := ⟨by decide +kernel, rfl⟩
theorem qJ7_fill_53178_3 : DI cJ7_fill_53178 3 (.arraylength) 1 4 := ⟨by decide +kernel, rfl⟩
theorem qJ7_fill_53178_4 : DI cJ7_fill_53178 4 (.istore_n 3) 1 5 := ⟨by decide +kernel, rfl⟩
theorem qJ7_fill_53178_5 : DI cJ7_fill_53178 5 (.iload_n 2) 1 6 := ⟨by decide +kernel, rfl⟩
theorem qJ7_fill_53178_6 : DI cJ7_fill_53178 6 (.iload_n 3) 1 7 := ⟨by decide +kernel, rfl⟩
theorem qJ7_fill_53178_7 : DJ cJ7_fill_53178 7 (.if_icmp .ge) 20 10 := ⟨13, by decide +kernel, by decide, rfl⟩
theorem qJ7_fill_53178_10 : DI cJ7_fill_53178 10 (.aload_n 0) 1 11 := ⟨by decide +kernel, rfl⟩
theorem qJ7_fill_53178_11 : DI cJ7_fill_53178 11 (.iload_n 2) 1 12 := ⟨by decide +kernel, rfl⟩
theorem qJ7_fill_53178_12 : DI cJ7_fill_53178 12 (.iload_n 1) 1 13 := ⟨by decide +kernel, rfl⟩
theorem qJ7_fill_53178_13 : DI cJ7_fill_53178 13 (.iastore) 1 14 := ⟨by decide +kernel, rfl⟩
theorem qJ7_fill_53178_14 : DI cJ7_fill_53178 14 (.iinc 2 1) 3 17 := ⟨by decide +kernel, rfl⟩
theorem qJ7_fill_53178_17 : DJ cJ7_fill_53178 17 .goto 5 20 := ⟨(-12), by decide +kernel, by decide, rfl⟩
theorem qJ7_fill_53178_20 : DI cJ7_fill_53178 20 (.return_) 1 21 := ⟨by decide +kernel, rfl⟩
theorem qJ3_checkIndex_8e157_0 : DI cJ3_checkIndex_8e157 0 (.iload_n 0) 1 1 := ⟨by decide +kernel, rfl⟩
theorem qJ3_checkIndex_8e157_1 : DJ cJ3_checkIndex_8e157 1 (.ifCond .lt) 9 4 := ⟨8, by decide +kernel, by decide, rfl⟩
theorem qJ3_checkIndex_8e157_4 : DI cJ3_checkIndex_8e157 4 (.iload_n 0) 1 5 := ⟨by decide +kernel, rfl⟩
theorem qJ3_checkIndex_8e157_5 : DI cJ3_checkIndex_8e157 5 (.iload_n 1) 1 6 := ⟨by decide +kernel, rfl⟩
theorem qJ3_checkIndex_8e157_6 : DJ cJ3_checkIndex_8e157 6 (.if_icmp .lt) 16 9 := ⟨10, by decide +kernel, by decide, rfl⟩
theorem qJ3_checkIndex_8e157_9 : DI cJ3_checkIndex_8e157 9 (.aload_n 2) 1 10 := ⟨by decide +kernel, rfl⟩
theorem qJ3_checkIndex_8e157_10 : DI cJ3_checkIndex_8e157 10 (.iload_n 0) 1 11 := ⟨by decide +kernel, rfl⟩
theorem qJ3_checkIndex_8e157_11 : DI cJ3_checkIndex_8e157 11 (.iload_n 1) 1 12 := ⟨by decide +kernel, rfl⟩
theorem qJ3_checkIndex_8e157_12 : DI cJ3_checkIndex_8e157 12 (.invokestatic 95) 3 15 := ⟨by decide +kernel, rfl⟩
theorem qJ3_checkIndex_8e157_15 : DI cJ3_checkIndex_8e157 15 (.athrow) 1 16 := ⟨by decide +kernel, rfl⟩
theorem qJ3_checkIndex_8e157_16 : DI cJ3_checkIndex_8e157 16 (.iload_n 0) 1 17 := ⟨by decide +kernel, rfl⟩
theorem qJ3_checkIndex_8e157_17 : DI cJ3_checkIndex_8e157 17 (.ireturn) 1 18 := ⟨by decide +kernel, rfl⟩
theorem qJ3_checkFromToIndex_8c36e_0 : DI cJ3_checkFromToIndex_8c36e 0 (.iload_n 0) 1 1 := ⟨by decide +kernel, rfl⟩
theorem qJ3_checkFromToIndex_8c36e_1 : DJ cJ3_checkFromToIndex_8c36e 1 (.ifCond .lt) 14 4 := ⟨13, by decide +kernel, by decide, rfl⟩
theorem qJ3_checkFromToIndex_8c36e_4 : DI cJ3_checkFromToIndex_8c36e 4 (.iload_n 0) 1 5 := ⟨by decide +kernel, rfl⟩
theorem qJ3_checkFromToIndex_8c36e_5 : DI cJ3_checkFromToIndex_8c36e 5 (.iload_n 1) 1 6 := ⟨by decide +kernel, rfl⟩
theorem qJ3_checkFromToIndex_8c36e_6 : DJ cJ3_checkFromToIndex_8c36e 6 (.if_icmp .gt) 14 9 := ⟨8, by decide +kernel, by decide, rfl⟩
theorem qJ3_checkFromToIndex_8c36e_9 : DI cJ3_checkFromToIndex_8c36e 9 (.iload_n 1) 1 10 := ⟨by decide +kernel, rfl⟩
theorem qJ3_checkFromToIndex_8c36e_10 : DI cJ3_checkFromToIndex_8c36e 10 (.iload_n 2) 1 11 := ⟨by decide +kernel, rfl⟩
theorem qJ3_checkFromToIndex_8c36e_11 : DJ cJ3_checkFromToIndex_8c36e 11 (.if_icmp .le) 22 14 := ⟨11, by decide +kernel, by decide, rfl⟩
theorem qJ3_checkFromToIndex_8c36e_14 : DI cJ3_checkFromToIndex_8c36e 14 (.aload_n 3) 1 15 := ⟨by decide +kernel, rfl⟩
theorem qJ3_checkFromToIndex_8c36e_15 : DI cJ3_checkFromToIndex_8c36e 15 (.iload_n 0) 1 16 := ⟨by decide +kernel, rfl⟩
theorem qJ3_checkFromToIndex_8c36e_16 : DI cJ3_checkFromToIndex_8c36e 16 (.iload_n 1) 1 17 := ⟨by decide +kernel, rfl⟩
theorem qJ3_checkFromToIndex_8c36e_17 : DI cJ3_checkFromToIndex_8c36e 17 (.iload_n 2) 1 18 := ⟨by decide +kernel, rfl⟩
theorem qJ3_checkFromToIndex_8c36e_18 : DI cJ3_checkFromToIndex_8c36e 18 (.invokestatic 99) 3 21 := ⟨by decide +kernel, rfl⟩
theorem qJ3_checkFromToIndex_8c36e_21 : DI cJ3_checkFromToIndex_8c36e 21 (.athrow) 1 22 := ⟨by decide +kernel, rfl⟩
theorem qJ3_checkFromToIndex_8c36e_22 : DI cJ3_checkFromToIndex_8c36e 22 (.iload_n 0) 1 23 := ⟨by decide +kernel, rfl⟩
theorem qJ3_checkFromToIndex_8c36e_23 : DI cJ3_checkFromToIndex_8c36e 23 (.ireturn) 1 24 := ⟨by decide +kernel, rfl⟩
end
section
theorem e0_0 : fk 0 0 = some (6, 1, 8) := by decide +kernel
theorem e0_1 : fk 0 1 = some (6, 1, 15) := by decide +kernel
theorem e0_2 : fk 0 2 = some (6, 1, 22) := by decide +kernel
theorem e0_3 : fk 0 3 = some (6, 1, 29) := by decide +kernel
theorem e0_4 : fk 0 4 = some (6, 1, 36) := by decide +kernel
theorem e0_5 : fk 0 5 = some (6, 0, 0) := by decide +kernel
theorem e0_6 : fk 0 6 = some (6, 1, 1) := by decide +kernel
theorem e0_7 : fk 0 7 = some (6, 0, 0) := by decide +kernel
theorem e0_8 : fk 0 8 = some (6, 1, 4) := by decide +kernel
theorem e0_9 : fk 0 9 = some (6, 1, 6) := by decide +kernel
theorem e0_10 : fk 0 10 = some (6, 1, 2) := by decide +kernel
theorem e0_11 : fk 0 11 = some (6, 1, 3) := by decide +kernel
theorem r0 : rcv 0 "TwoBeatsAgo" := Or.inl ⟨6, TX6, 12, by decide +kernel, rfl⟩
theorem e4_0 : fk 4 0 = some (4, 1, 5) := by decide +kernel
theorem e4_1 : fk 4 1 = some (4, 0, 0) := by decide +kernel
theorem e4_2 : fk 4 2 = some (4, 0, 0) := by decide +kernel
theorem r4 : rcv 4 "TwoBeatsAgo$HallText" := Or.inl ⟨4, TX4, 3, by decide +kernel, rfl⟩
theorem e6_0 : fk 6 0 = some (0, 0, 0) := by decide +kernel
theorem e6_1 : fk 6 1 = some (0, 1, 7) := by decide +kernel
theorem e6_2 : fk 6 2 = some (0, 0, 0) := by decide +kernel
theorem e6_3 : fk 6 3 = some (0, 0, 0) := by decide +kernel
theorem e6_4 : fk 6 4 = some (0, 0, 0) := by decide +kernel
theorem r6 : rcv 6 "TwoBeatsAgo$Acts" := Or.inl ⟨0, TX0, 5, by decide +kernel, rfl⟩
theorem e83_0 : fk 83 0 = some (7, 0, 0) := by decide +kernel
theorem e83_1 : fk 83 1 = some (7, 0, 0) := by decide +kernel
theorem e83_2 : fk 83 2 = some (7, 1, 84) := by decide +kernel
theorem e83_3 : fk 83 3 = some (7, 1, 85) := by decide +kernel
theorem e83_4 : fk 83 4 = some (7, 1, 86) := by decide +kernel
theorem e83_5 : fk 83 5 = some (7, 1, 87) := by decide +kernel
theorem e83_6 : fk 83 6 = some (7, 1, 88) := by decide +kernel
theorem e83_7 : fk 83 7 = some (7, 0, 0) := by decide +kernel
theorem e83_8 : fk 83 8 = some (7, 0, 0) := by decide +kernel
theorem e83_9 : fk 83 9 = some (7, 0, 0) := by decide +kernel
theorem e83_10 : fk 83 10 = some (7, 0, 0) := by decide +kernel
theorem e83_11 : fk 83 11 = some (7, 0, 0) := by decide +kernel
theorem e83_12 : fk 83 12 = some (7, 1, 89) := by decide +kernel
theorem e83_13 : fk 83 13 = some (7, 1, 90) := by decide +kernel
theorem e83_14 : fk 83 14 = some (7, 1, 91) := by decide +kernel
theorem e83_15 : fk 83 15 = some (7, 1, 92) := by decide +kernel
theorem e83_16 : fk 83 16 = some (7, 1, 93) := by decide +kernel
theorem e83_17 : fk 83 17 = some (7, 1, 94) := by decide +kernel
theorem e83_18 : fk 83 18 = some (7, 1, 95) := by decide +kernel
theorem e83_19 : fk 83 19 = some (7, 1, 96) := by decide +kernel
theorem e83_20 : fk 83 20 = some (7, 0, 0) := by decide +kernel
theorem e83_21 : fk 83 21 = some (7, 0, 0) := by decide +kernel
theorem e83_22 : fk 83 22 = some (7, 0, 0) := by decide +kernel
theorem e83_23 : fk 83 23 = some (7, 1, 97) := by decide +kernel
theorem e83_24 : fk 83 24 = some (7, 1, 98) := by decide +kernel
theorem e83_25 : fk 83 25 = some (7, 1, 99) := by decide +kernel
theorem e83_26 : fk 83 26 = some (7, 1, 100) := by decide +kernel
theorem e83_27 : fk 83 27 = some (7, 0, 0) := by decide +kernel
theorem e83_28 : fk 83 28 = some (7, 1, 101) := by decide +kernel
theorem e83_29 : fk 83 29 = some (7, 1, 102) := by decide +kernel
theorem e83_30 : fk 83 30 = some (7, 1, 103) := by decide +kernel
theorem e83_31 : fk 83 31 = some (7, 0, 0) := by decide +kernel
theorem e83_32 : fk 83 32 = some (7, 1, 104) := by decide +kernel
theorem e83_33 : fk 83 33 = some (7, 1, 105) := by decide +kernel
theorem e83_34 : fk 83 34 = some (7, 1, 106) := by decide +kernel
theorem e83_35 : fk 83 35 = some (7, 0, 0) := by decide +kernel
theorem e83_36 : fk 83 36 = some (7, 0, 0) := by decide +kernel
theorem e83_37 : fk 83 37 = some (7, 1, 107) := by decide +kernel
theorem e83_38 : fk 83 38 = some (7, 1, 108) := by decide +kernel
theorem e83_39 : fk 83 39 = some (7, 1, 109) := by decide +kernel
theorem e83_40 : fk 83 40 = some (7, 0, 0) := by decide +kernel
theorem e83_41 : fk 83 41 = some (7, 0, 0) := by decide +kernel
theorem e83_42 : fk 83 42 = some (7, 0, 0) := by decide +kernel
theorem e83_43 : fk 83 43 = some (7, 0, 0) := by decide +kernel
theorem e83_44 : fk 83 44 = some (7, 0, 0) := by decide +kernel
theorem e83_45 : fk 83 45 = some (7, 0, 0) := by decide +kernel
theorem e83_46 : fk 83 46 = some (7, 0, 0) := by decide +kernel
theorem e83_47 : fk 83 47 = some (7, 1, 110) := by decide +kernel
theorem e83_48 : fk 83 48 = some (7, 1, 111) := by decide +kernel
theorem e83_49 : fk 83 49 = some (7, 1, 112) := by decide +kernel
theorem e83_50 : fk 83 50 = some (7, 1, 113) := by decide +kernel
theorem e83_51 : fk 83 51 = some (7, 1, 114) := by decide +kernel
theorem e83_52 : fk 83 52 = some (7, 1, 115) := by decide +kernel
theorem e83_53 : fk 83 53 = some (7, 1, 116) := by decide +kernel
theorem e83_54 : fk 83 54 = some (7, 1, 117) := by decide +kernel
theorem e83_55 : fk 83 55 = some (7, 1, 118) := by decide +kernel
theorem e83_56 : fk 83 56 = some (7, 1, 119) := by decide +kernel
theorem e83_57 : fk 83 57 = some (7, 1, 120) := by decide +kernel
theorem e83_58 : fk 83 58 = some (7, 0, 0) := by decide +kernel
theorem e83_59 : fk 83 59 = some (7, 1, 121) := by decide +kernel
theorem e83_60 : fk 83 60 = some (7, 1, 122) := by decide +kernel
theorem e83_61 : fk 83 61 = some (7, 1, 123) := by decide +kernel
theorem e83_62 : fk 83 62 = some (7, 1, 124) := by decide +kernel
theorem e83_63 : fk 83 63 = some (7, 1, 125) := by decide +kernel
theorem r83 : rcv 83 "TwoBeatsAgoModel" := Or.inl ⟨7, TX7, 64, by decide +kernel, rfl⟩
theorem a1 : ak 1 = some (4, 6) := by decide +kernel
theorem a2 : ak 2 = some (5, 6) := by decide +kernel
theorem a3 : ak 3 = some (0, 99) := by decide +kernel
theorem a5 : ak 5 = some (3, 100) := by decide +kernel
theorem a7 : ak 7 = some (0, 20) := by decide +kernel
theorem a84 : ak 84 = some (0, 6) := by decide +kernel
theorem a85 : ak 85 = some (0, 6) := by decide +kernel
theorem a86 : ak 86 = some (0, 6) := by decide +kernel
theorem a87 : ak 87 = some (0, 24) := by decide +kernel
theorem a88 : ak 88 = some (0, 48) := by decide +kernel
theorem a89 : ak 89 = some (0, 100) := by decide +kernel
theorem a90 : ak 90 = some (0, 6) := by decide +kernel
theorem a91 : ak 91 = some (0, 60) := by decide +kernel
theorem a92 : ak 92 = some (0, 60) := by decide +kernel
theorem a93 : ak 93 = some (0, 60) := by decide +kernel
theorem a94 : ak 94 = some (0, 60) := by decide +kernel
theorem a95 : ak 95 = some (0, 600) := by decide +kernel
theorem a96 : ak 96 = some (0, 101) := by decide +kernel
theorem a97 : ak 97 = some (0, 17) := by decide +kernel
theorem a98 : ak 98 = some (2, 100) := by decide +kernel
theorem a99 : ak 99 = some (2, 99) := by decide +kernel
theorem a100 : ak 100 = some (0, 6) := by decide +kernel
theorem a101 : ak 101 = some (0, 48) := by decide +kernel
theorem a102 : ak 102 = some (0, 6) := by decide +kernel
theorem a103 : ak 103 = some (0, 99) := by decide +kernel
theorem a104 : ak 104 = some (0, 5) := by decide +kernel
theorem a105 : ak 105 = some (0, 5) := by decide +kernel
theorem a106 : ak 106 = some (0, 5) := by decide +kernel
theorem a107 : ak 107 = some (0, 10) := by decide +kernel
theorem a108 : ak 108 = some (0, 8) := by decide +kernel
theorem a109 : ak 109 = some (0, 8) := by decide +kernel
theorem a110 : ak 110 = some (0, 6) := by decide +kernel
theorem a111 : ak 111 = some (0, 6) := by decide +kernel
theorem a112 : ak 112 = some (0, 6) := by decide +kernel
theorem a113 : ak 113 = some (0, 24) := by decide +kernel
theorem a114 : ak 114 = some (0, 48) := by decide +kernel
theorem a115 : ak 115 = some (0, 5) := by decide +kernel
theorem a116 : ak 116 = some (0, 5) := by decide +kernel
theorem a117 : ak 117 = some (0, 5) := by decide +kernel
theorem a118 : ak 118 = some (0, 10) := by decide +kernel
theorem a119 : ak 119 = some (0, 8) := by decide +kernel
theorem a120 : ak 120 = some (0, 8) := by decide +kernel
theorem a121 : ak 121 = some (0, 20) := by decide +kernel
theorem a122 : ak 122 = some (0, 6) := by decide +kernel
theorem a123 : ak 123 = some (0, 6) := by decide +kernel
theorem a124 : ak 124 = some (1, 360) := by decide +kernel
theorem a125 : ak 125 = some (1, 60) := by decide +kernel
def isF (k : Nat) : Prop := k = 8 ∨ k = 15 ∨ k = 22
theorem F_0 {k : Nat} (h : isF k) : fk k 0 = some (2, 0, 0) := by rcases h with rfl | rfl | rfl <;> decide +kernel
theorem F_1 {k : Nat} (h : isF k) : fk k 1 = some (2, 0, 0) := by rcases h with rfl | rfl | rfl <;> decide +kernel
theorem F_2 {k : Nat} (h : isF k) : fk k 2 = some (2, 2, 0) := by rcases h with rfl | rfl | rfl <;> decide +kernel
theorem F_3 {k : Nat} (h : isF k) : fk k 3 = some (2, 1, k + 1) := by rcases h with rfl | rfl | rfl <;> decide +kernel
theorem Fa_1 {k : Nat} (h : isF k) : ak (k + 1) = some (0, 6) := by rcases h with rfl | rfl | rfl <;> decide +kernel
theorem F_4 {k : Nat} (h : isF k) : fk k 4 = some (2, 1, k + 2) := by rcases h with rfl | rfl | rfl <;> decide +kernel
theorem Fa_2 {k : Nat} (h : isF k) : ak (k + 2) = some (0, 6) := by rcases h with rfl | rfl | rfl <;> decide +kernel
theorem F_5 {k : Nat} (h : isF k) : fk k 5 = some (2, 1, k + 3) := by rcases h with rfl | rfl | rfl <;> decide +kernel
theorem Fa_3 {k : Nat} (h : isF k) : ak (k + 3) = some (0, 6) := by rcases h with rfl | rfl | rfl <;> decide +kernel
theorem F_6 {k : Nat} (h : isF k) : fk k 6 = some (2, 1, k + 4) := by rcases h with rfl | rfl | rfl <;> decide +kernel
theorem Fa_4 {k : Nat} (h : isF k) : ak (k + 4) = some (0, 48) := by rcases h with rfl | rfl | rfl <;> decide +kernel
theorem F_7 {k : Nat} (h : isF k) : fk k 7 = some (2, 1, k + 5) := by rcases h with rfl | rfl | rfl <;> decide +kernel
theorem Fa_5 {k : Nat} (h : isF k) : ak (k + 5) = some (0, 24) := by rcases h with rfl | rfl | rfl <;> decide +kernel
theorem F_8 {k : Nat} (h : isF k) : fk k 8 = some (2, 1, k + 6) := by rcases h with rfl | rfl | rfl <;> decide +kernel
theorem Fa_6 {k : Nat} (h : isF k) : ak (k + 6) = some (0, 6) := by rcases h with rfl | rfl | rfl <;> decide +kernel
theorem F_r {k : Nat} (h : isF k) : rcv k "TwoBeatsAgo$Floor" := Or.inl ⟨2, TX2, 9, by rcases h with rfl | rfl | rfl <;> decide +kernel, rfl⟩
def isB (k : Nat) : Prop := k = 29 ∨ k = 36
theorem B_0 {k : Nat} (h : isB k) : fk k 0 = some (1, 0, 0) := by rcases h with rfl | rfl <;> decide +kernel
theorem B_1 {k : Nat} (h : isB k) : fk k 1 = some (1, 1, k + 1) := by rcases h with rfl | rfl <;> decide +kernel
theorem Ba_1 {k : Nat} (h : isB k) : ak (k + 1) = some (0, 5) := by rcases h with rfl | rfl <;> decide +kernel
theorem B_2 {k : Nat} (h : isB k) : fk k 2 = some (1, 1, k + 2) := by rcases h with rfl | rfl <;> decide +kernel
theorem Ba_2 {k : Nat} (h : isB k) : ak (k + 2) = some (0, 5) := by rcases h with rfl | rfl <;> decide +kernel
theorem B_3 {k : Nat} (h : isB k) : fk k 3 = some (1, 1, k + 3) := by rcases h with rfl | rfl <;> decide +kernel
theorem Ba_3 {k : Nat} (h : isB k) : ak (k + 3) = some (0, 5) := by rcases h with rfl | rfl <;> decide +kernel
theorem B_4 {k : Nat} (h : isB k) : fk k 4 = some (1, 0, 0) := by rcases h with rfl | rfl <;> decide +kernel
theorem B_5 {k : Nat} (h : isB k) : fk k 5 = some (1, 1, k + 4) := by rcases h with rfl | rfl <;> decide +kernel
theorem Ba_4 {k : Nat} (h : isB k) : ak (k + 4) = some (0, 10) := by rcases h with rfl | rfl <;> decide +kernel
theorem B_6 {k : Nat} (h : isB k) : fk k 6 = some (1, 0, 0) := by rcases h with rfl | rfl <;> decide +kernel
theorem B_7 {k : Nat} (h : isB k) : fk k 7 = some (1, 1, k + 5) := by rcases h with rfl | rfl <;> decide +kernel
theorem Ba_5 {k : Nat} (h : isB k) : ak (k + 5) = some (0, 8) := by rcases h with rfl | rfl <;> decide +kernel
theorem B_8 {k : Nat} (h : isB k) : fk k 8 = some (1, 1, k + 6) := by rcases h with rfl | rfl <;> decide +kernel
theorem Ba_6 {k : Nat} (h : isB k) : ak (k + 6) = some (0, 8) := by rcases h with rfl | rfl <;> decide +kernel
theorem B_r {k : Nat} (h : isB k) : rcv k "TwoBeatsAgo$ByHand" := Or.inl ⟨1, TX1, 9, by rcases h with rfl | rfl <;> decide +kernel, rfl⟩
def isH (k : Nat) : Prop := k = 43 ∨ k = 47 ∨ k = 51 ∨ k = 55 ∨ k = 59 ∨ k = 63 ∨ k = 67
theorem H_0 {k : Nat} (h : isH k) : fk k 0 = some (3, 0, 0) := by rcases h with rfl | rfl | rfl | rfl | rfl | rfl | rfl <;> decide +kernel
theorem H_1 {k : Nat} (h : isH k) : fk k 1 = some (3, 0, 0) := by rcases h with rfl | rfl | rfl | rfl | rfl | rfl | rfl <;> decide +kernel
theorem H_2 {k : Nat} (h : isH k) : fk k 2 = some (3, 0, 0) := by rcases h with rfl | rfl | rfl | rfl | rfl | rfl | rfl <;> decide +kernel
theorem H_3 {k : Nat} (h : isH k) : fk k 3 = some (3, 0, 0) := by rcases h with rfl | rfl | rfl | rfl | rfl | rfl | rfl <;> decide +kernel
theorem H_4 {k : Nat} (h : isH k) : fk k 4 = some (3, 1, k + 1) := by rcases h with rfl | rfl | rfl | rfl | rfl | rfl | rfl <;> decide +kernel
theorem Ha_1 {k : Nat} (h : isH k) : ak (k + 1) = some (0, 10) := by rcases h with rfl | rfl | rfl | rfl | rfl | rfl | rfl <;> decide +kernel
theorem H_5 {k : Nat} (h : isH k) : fk k 5 = some (3, 1, k + 2) := by rcases h with rfl | rfl | rfl | rfl | rfl | rfl | rfl <;> decide +kernel
theorem Ha_2 {k : Nat} (h : isH k) : ak (k + 2) = some (0, 10) := by rcases h with rfl | rfl | rfl | rfl | rfl | rfl | rfl <;> decide +kernel
theorem H_6 {k : Nat} (h : isH k) : fk k 6 = some (3, 1, k + 3) := by rcases h with rfl | rfl | rfl | rfl | rfl | rfl | rfl <;> decide +kernel
theorem Ha_3 {k : Nat} (h : isH k) : ak (k + 3) = some (0, 100) := by rcases h with rfl | rfl | rfl | rfl | rfl | rfl | rfl <;> decide +kernel
theorem H_r {k : Nat} (h : isH k) : rcv k "TwoBeatsAgo$Hall" := Or.inl ⟨3, TX3, 7, by rcases h with rfl | rfl | rfl | rfl | rfl | rfl | rfl <;> decide +kernel, rfl⟩
def isT (k : Nat) : Prop := k = 71 ∨ k = 73 ∨ k = 75 ∨ k = 77 ∨ k = 79 ∨ k = 81
theorem T_0 {k : Nat} (h : isT k) : fk k 0 = some (5, 0, 0) := by rcases h with rfl | rfl | rfl | rfl | rfl | rfl <;> decide +kernel
theorem T_1 {k : Nat} (h : isT k) : fk k 1 = some (5, 0, 0) := by rcases h with rfl | rfl | rfl | rfl | rfl | rfl <;> decide +kernel
theorem T_2 {k : Nat} (h : isT k) : fk k 2 = some (5, 1, k + 1) := by rcases h with rfl | rfl | rfl | rfl | rfl | rfl <;> decide +kernel
theorem Ta_1 {k : Nat} (h : isT k) : ak (k + 1) = some (1, 60) := by rcases h with rfl | rfl | rfl | rfl | rfl | rfl <;> decide +kernel
theorem T_r {k : Nat} (h : isT k) : rcv k "TwoBeatsAgo$Tape" := Or.inl ⟨5, TX5, 3, by rcases h with rfl | rfl | rfl | rfl | rfl | rfl <;> decide +kernel, rfl⟩
theorem isH_at {i : Int} (h : 0 ≤ i ∧ i < 6) : isH (47 + 4 * i.toNat) := by
  unfold isH
  omega
theorem isT_at {i : Int} (h : 0 ≤ i ∧ i < 6) : isT (71 + 2 * i.toNat) := by
  unfold isT
  omega
theorem F8 : isF 8 := Or.inl rfl
theorem F15 : isF 15 := Or.inr (Or.inl rfl)
theorem F22 : isF 22 := Or.inr (Or.inr rfl)
theorem B29 : isB 29 := Or.inl rfl
theorem B36 : isB 36 := Or.inr rfl
theorem rS {i : Nat} (h : i < 6) : rcv (200 + i) "java/lang/String" := Or.inr ⟨i, h, rfl, rfl⟩
section LS
variable {g : GC} {X : CX} {own : String} {cc : ByteArray} {pc nx tgt : Nat} {ls t : List (Option AV)} {st : List AV} {V : MM}
theorem S_il0 {x : Int} (d : DI cc pc (.iload_n 0) 1 nx) (K : SW g X own cc nx (some (vi x) :: t) (vi x :: st) V) : SW g X own cc pc (some (vi x) :: t) st V := S_iload_n (i := 0) d rfl rfl K
theorem S_is0 {y : Option AV} {x : Int} (d : DI cc pc (.istore_n 0) 1 nx) (K : SW g X own cc nx (some (vi x) :: t) st V) : SW g X own cc pc (y :: t) (vi x :: st) V := S_istore_n (i := 0) d rfl (by simp) (fun h => absurd h (by decide)) K
theorem S_inc0 {x m : Int} (d : DI cc pc (.iinc 0 m) 3 nx) (K : SW g X own cc nx (some (vi (x + m)) :: t) st V) : SW g X own cc pc (some (vi x) :: t) st V := S_iinc (i := 0) d rfl (fun h => absurd h (by decide)) K
theorem S_al0 {x : Nat} (d : DI cc pc (.aload_n 0) 1 nx) (K : SW g X own cc nx (some (vr x) :: t) (vr x :: st) V) : SW g X own cc pc (some (vr x) :: t) st V := S_aload_n (i := 0) d rfl rfl K
theorem S_as0 {y : Option AV} {x : Nat} (d : DI cc pc (.astore_n 0) 1 nx) (K : SW g X own cc nx (some (vr x) :: t) st V) : SW g X own cc pc (y :: t) (vr x :: st) V := S_astore_n (i := 0) d rfl (by simp) (fun h => absurd h (by decide)) K
theorem S_ll0 {x : Int} (d : DI cc pc (.lload_n 0) 1 nx) (K : SW g X own cc nx (some (vl x) :: t) (vl x :: st) V) : SW g X own cc pc (some (vl x) :: t) st V := S_lload_n (i := 0) d rfl rfl K
theorem S_ls0 {y z : Option AV} {x : Int} (d : DI cc pc (.lstore_n 0) 1 nx) (K : SW g X own cc nx (some (vl x) :: none :: t) st V) : SW g X own cc pc (y :: z :: t) (vl x :: st) V := S_lstore_n (i := 0) d rfl (by simp) (fun h => absurd h (by decide)) K
theorem S_il1 {b0 : Option AV} {x : Int} (d : DI cc pc (.iload_n 1) 1 nx) (K : SW g X own cc nx (b0 :: some (vi x) :: t) (vi x :: st) V) : SW g X own cc pc (b0 :: some (vi x) :: t) st V := S_iload_n (i := 1) d rfl rfl K
theorem S_is1 {b0 : Option AV} {y : Option AV} {x : Int} (d : DI cc pc (.istore_n 1) 1 nx) (hn : nl (some b0) := by trivial) (K : SW g X own cc nx (b0 :: some (vi x) :: t) st V) : SW g X own cc pc (b0 :: y :: t) (vi x :: st) V := S_istore_n (i := 1) d rfl (by simp) (fun _ => hn) K
theorem S_inc1 {b0 : Option AV} {x m : Int} (d : DI cc pc (.iinc 1 m) 3 nx) (hn : nl (some b0) := by trivial) (K : SW g X own cc nx (b0 :: some (vi (x + m)) :: t) st V) : SW g X own cc pc (b0 :: some (vi x) :: t) st V := S_iinc (i := 1) d rfl (fun _ => hn) K
theorem S_al1 {b0 : Option AV} {x : Nat} (d : DI cc pc (.aload_n 1) 1 nx) (K : SW g X own cc nx (b0 :: some (vr x) :: t) (vr x :: st) V) : SW g X own cc pc (b0 :: some (vr x) :: t) st V := S_aload_n (i := 1) d rfl rfl K
theorem S_as1 {b0 : Option AV} {y : Option AV} {x : Nat} (d : DI cc pc (.astore_n 1) 1 nx) (hn : nl (some b0) := by trivial) (K : SW g X own cc nx (b0 :: some (vr x) :: t) st V) : SW g X own cc pc (b0 :: y :: t) (vr x :: st) V := S_astore_n (i := 1) d rfl (by simp) (fun _ => hn) K
theorem S_ll1 {b0 : Option AV} {x : Int} (d : DI cc pc (.lload_n 1) 1 nx) (K : SW g X own cc nx (b0 :: some (vl x) :: t) (vl x :: st) V) : SW g X own cc pc (b0 :: some (vl x) :: t) st V := S_lload_n (i := 1) d rfl rfl K
theorem S_ls1 {b0 : Option AV} {y z : Option AV} {x : Int} (d : DI cc pc (.lstore_n 1) 1 nx) (hn : nl (some b0) := by trivial) (K : SW g X own cc nx (b0 :: some (vl x) :: none :: t) st V) : SW g X own cc pc (b0 :: y :: z :: t) (vl x :: st) V := S_lstore_n (i := 1) d rfl (by simp) (fun _ => hn) K
theorem S_il2 {b0 b1 : Option AV} {x : Int} (d : DI cc pc (.iload_n 2) 1 nx) (K : SW g X own cc nx (b0 :: b1 :: some (vi x) :: t) (vi x :: st) V) : SW g X own cc pc (b0 :: b1 :: some (vi x) :: t) st V := S_iload_n (i := 2) d rfl rfl K
theorem S_is2 {b0 b1 : Option AV} {y : Option AV} {x : Int} (d : DI cc pc (.istore_n 2) 1 nx) (hn : nl (some b1) := by trivial) (K : SW g X own cc nx (b0 :: b1 :: some (vi x) :: t) st V) : SW g X own cc pc (b0 :: b1 :: y :: t) (vi x :: st) V := S_istore_n (i := 2) d rfl (by simp) (fun _ => hn) K
theorem S_inc2 {b0 b1 : Option AV} {x m : Int} (d : DI cc pc (.iinc 2 m) 3 nx) (hn : nl (some b1) := by trivial) (K : SW g X own cc nx (b0 :: b1 :: some (vi (x + m)) :: t) st V) : SW g X own cc pc (b0 :: b1 :: some (vi x) :: t) st V := S_iinc (i := 2) d rfl (fun _ => hn) K
theorem S_al2 {b0 b1 : Option AV} {x : Nat} (d : DI cc pc (.aload_n 2) 1 nx) (K : SW g X own cc nx (b0 :: b1 :: some (vr x) :: t) (vr x :: st) V) : SW g X own cc pc (b0 :: b1 :: some (vr x) :: t) st V := S_aload_n (i := 2) d rfl rfl K
theorem S_as2 {b0 b1 : Option AV} {y : Option AV} {x : Nat} (d : DI cc pc (.astore_n 2) 1 nx) (hn : nl (some b1) := by trivial) (K : SW g X own cc nx (b0 :: b1 :: some (vr x) :: t) st V) : SW g X own cc pc (b0 :: b1 :: y :: t) (vr x :: st) V := S_astore_n (i := 2) d rfl (by simp) (fun _ => hn) K
theorem S_ll2 {b0 b1 : Option AV} {x : Int} (d : DI cc pc (.lload_n 2) 1 nx) (K : SW g X own cc nx (b0 :: b1 :: some (vl x) :: t) (vl x :: st) V) : SW g X own cc pc (b0 :: b1 :: some (vl x) :: t) st V := S_lload_n (i := 2) d rfl rfl K
theorem S_ls2 {b0 b1 : Option AV} {y z : Option AV} {x : Int} (d : DI cc pc (.lstore_n 2) 1 nx) (hn : nl (some b1) := by trivial) (K : SW g X own cc nx (b0 :: b1 :: some (vl x) :: none :: t) st V) : SW g X own cc pc (b0 :: b1 :: y :: z :: t) (vl x :: st) V := S_lstore_n (i := 2) d rfl (by simp) (fun _ => hn) K
theorem S_il3 {b0 b1 b2 : Option AV} {x : Int} (d : DI cc pc (.iload_n 3) 1 nx) (K : SW g X own cc nx (b0 :: b1 :: b2 :: some (vi x) :: t) (vi x :: st) V) : SW g X own cc pc (b0 :: b1 :: b2 :: some (vi x) :: t) st V := S_iload_n (i := 3) d rfl rfl K
theorem S_is3 {b0 b1 b2 : Option AV} {y : Option AV} {x : Int} (d : DI cc pc (.istore_n 3) 1 nx) (hn : nl (some b2) := by trivial) (K : SW g X own cc nx (b0 :: b1 :: b2 :: some (vi x) :: t) st V) : SW g X own cc pc (b0 :: b1 :: b2 :: y :: t) (vi x :: st) V := S_istore_n (i := 3) d rfl (by simp) (fun _ => hn) K
theorem S_inc3 {b0 b1 b2 : Option AV} {x m : Int} (d : DI cc pc (.iinc 3 m) 3 nx) (hn : nl (some b2) := by trivial) (K : SW g X own cc nx (b0 :: b1 :: b2 :: some (vi (x + m)) :: t) st V) : SW g X own cc pc (b0 :: b1 :: b2 :: some (vi x) :: t) st V := S_iinc (i := 3) d rfl (fun _ => hn) K
theorem S_al3 {b0 b1 b2 : Option AV} {x : Nat} (d : DI cc pc (.aload_n 3) 1 nx) (K : SW g X own cc nx (b0 :: b1 :: b2 :: some (vr x) :: t) (vr x :: st) V) : SW g X own cc pc (b0 :: b1 :: b2 :: some (vr x) :: t) st V := S_aload_n (i := 3) d rfl rfl K
theorem S_as3 {b0 b1 b2 : Option AV} {y : Option AV} {x : Nat} (d : DI cc pc (.astore_n 3) 1 nx) (hn : nl (some b2) := by trivial) (K : SW g X own cc nx (b0 :: b1 :: b2 :: some (vr x) :: t) st V) : SW g X own cc pc (b0 :: b1 :: b2 :: y :: t) (vr x :: st) V := S_astore_n (i := 3) d rfl (by simp) (fun _ => hn) K
theorem S_ll3 {b0 b1 b2 : Option AV} {x : Int} (d : DI cc pc (.lload_n 3) 1 nx) (K : SW g X own cc nx (b0 :: b1 :: b2 :: some (vl x) :: t) (vl x :: st) V) : SW g X own cc pc (b0 :: b1 :: b2 :: some (vl x) :: t) st V := S_lload_n (i := 3) d rfl rfl K
theorem S_ls3 {b0 b1 b2 : Option AV} {y z : Option AV} {x : Int} (d : DI cc pc (.lstore_n 3) 1 nx) (hn : nl (some b2) := by trivial) (K : SW g X own cc nx (b0 :: b1 :: b2 :: some (vl x) :: none :: t) st V) : SW g X own cc pc (b0 :: b1 :: b2 :: y :: z :: t) (vl x :: st) V := S_lstore_n (i := 3) d rfl (by simp) (fun _ => hn) K
theorem S_il4 {b0 b1 b2 b3 : Option AV} {x : Int} (d : DI cc pc (.iload 4) 2 nx) (K : SW g X own cc nx (b0 :: b1 :: b2 :: b3 :: some (vi x) :: t) (vi x :: st) V) : SW g X own cc pc (b0 :: b1 :: b2 :: b3 :: some (vi x) :: t) st V := S_iload (i := 4) d rfl K
theorem S_is4 {b0 b1 b2 b3 : Option AV} {y : Option AV} {x : Int} (d : DI cc pc (.istore 4) 2 nx) (hn : nl (some b3) := by trivial) (K : SW g X own cc nx (b0 :: b1 :: b2 :: b3 :: some (vi x) :: t) st V) : SW g X own cc pc (b0 :: b1 :: b2 :: b3 :: y :: t) (vi x :: st) V := S_istore (i := 4) d (by simp) (fun _ => hn) K
theorem S_inc4 {b0 b1 b2 b3 : Option AV} {x m : Int} (d : DI cc pc (.iinc 4 m) 3 nx) (hn : nl (some b3) := by trivial) (K : SW g X own cc nx (b0 :: b1 :: b2 :: b3 :: some (vi (x + m)) :: t) st V) : SW g X own cc pc (b0 :: b1 :: b2 :: b3 :: some (vi x) :: t) st V := S_iinc (i := 4) d rfl (fun _ => hn) K
theorem S_al4 {b0 b1 b2 b3 : Option AV} {x : Nat} (d : DI cc pc (.aload 4) 2 nx) (K : SW g X own cc nx (b0 :: b1 :: b2 :: b3 :: some (vr x) :: t) (vr x :: st) V) : SW g X own cc pc (b0 :: b1 :: b2 :: b3 :: some (vr x) :: t) st V := S_aload (i := 4) d rfl K
theorem S_as4 {b0 b1 b2 b3 : Option AV} {y : Option AV} {x : Nat} (d : DI cc pc (.astore 4) 2 nx) (hn : nl (some b3) := by trivial) (K : SW g X own cc nx (b0 :: b1 :: b2 :: b3 :: some (vr x) :: t) st V) : SW g X own cc pc (b0 :: b1 :: b2 :: b3 :: y :: t) (vr x :: st) V := S_astore (i := 4) d (by simp) (fun _ => hn) K
theorem S_ll4 {b0 b1 b2 b3 : Option AV} {x : Int} (d : DI cc pc (.lload 4) 2 nx) (K : SW g X own cc nx (b0 :: b1 :: b2 :: b3 :: some (vl x) :: t) (vl x :: st) V) : SW g X own cc pc (b0 :: b1 :: b2 :: b3 :: some (vl x) :: t) st V := S_lload (i := 4) d rfl K
theorem S_ls4 {b0 b1 b2 b3 : Option AV} {y z : Option AV} {x : Int} (d : DI cc pc (.lstore 4) 2 nx) (hn : nl (some b3) := by trivial) (K : SW g X own cc nx (b0 :: b1 :: b2 :: b3 :: some (vl x) :: none :: t) st V) : SW g X own cc pc (b0 :: b1 :: b2 :: b3 :: y :: z :: t) (vl x :: st) V := S_lstore (i := 4) d (by simp) (fun _ => hn) K
theorem S_il5 {b0 b1 b2 b3 b4 : Option AV} {x : Int} (d : DI cc pc (.iload 5) 2 nx) (K : SW g X own cc nx (b0 :: b1 :: b2 :: b3 :: b4 :: some (vi x) :: t) (vi x :: st) V) : SW g X own cc pc (b0 :: b1 :: b2 :: b3 :: b4 :: some (vi x) :: t) st V := S_iload (i := 5) d rfl K
theorem S_is5 {b0 b1 b2 b3 b4 : Option AV} {y : Option AV} {x : Int} (d : DI cc pc (.istore 5) 2 nx) (hn : nl (some b4) := by trivial) (K : SW g X own cc nx (b0 :: b1 :: b2 :: b3 :: b4 :: some (vi x) :: t) st V) : SW g X own cc pc (b0 :: b1 :: b2 :: b3 :: b4 :: y :: t) (vi x :: st) V := S_istore (i := 5) d (by simp) (fun _ => hn) K
theorem S_inc5 {b0 b1 b2 b3 b4 : Option AV} {x m : Int} (d : DI cc pc (.iinc 5 m) 3 nx) (hn : nl (some b4) := by trivial) (K : SW g X own cc nx (b0 :: b1 :: b2 :: b3 :: b4 :: some (vi (x + m)) :: t) st V) : SW g X own cc pc (b0 :: b1 :: b2 :: b3 :: b4 :: some (vi x) :: t) st V := S_iinc (i := 5) d rfl (fun _ => hn) K
theorem S_al5 {b0 b1 b2 b3 b4 : Option AV} {x : Nat} (d : DI cc pc (.aload 5) 2 nx) (K : SW g X own cc nx (b0 :: b1 :: b2 :: b3 :: b4 :: some (vr x) :: t) (vr x :: st) V) : SW g X own cc pc (b0 :: b1 :: b2 :: b3 :: b4 :: some (vr x) :: t) st V := S_aload (i := 5) d rfl K
theorem S_as5 {b0 b1 b2 b3 b4 : Option AV} {y : Option AV} {x : Nat} (d : DI cc pc (.astore 5) 2 nx) (hn : nl (some b4) := by trivial) (K : SW g X own cc nx (b0 :: b1 :: b2 :: b3 :: b4 :: some (vr x) :: t) st V) : SW g X own cc pc (b0 :: b1 :: b2 :: b3 :: b4 :: y :: t) (vr x :: st) V := S_astore (i := 5) d (by simp) (fun _ => hn) K
theorem S_ll5 {b0 b1 b2 b3 b4 : Option AV} {x : Int} (d : DI cc pc (.lload 5) 2 nx) (K : SW g X own cc nx (b0 :: b1 :: b2 :: b3 :: b4 :: some (vl x) :: t) (vl x :: st) V) : SW g X own cc pc (b0 :: b1 :: b2 :: b3 :: b4 :: some (vl x) :: t) st V := S_lload (i := 5) d rfl K
theorem S_ls5 {b0 b1 b2 b3 b4 : Option AV} {y z : Option AV} {x : Int} (d : DI cc pc (.lstore 5) 2 nx) (hn : nl (some b4) := by trivial) (K : SW g X own cc nx (b0 :: b1 :: b2 :: b3 :: b4 :: some (vl x) :: none :: t) st V) : SW g X own cc pc (b0 :: b1 :: b2 :: b3 :: b4 :: y :: z :: t) (vl x :: st) V := S_lstore (i := 5) d (by simp) (fun _ => hn) K
theorem S_il6 {b0 b1 b2 b3 b4 b5 : Option AV} {x : Int} (d : DI cc pc (.iload 6) 2 nx) (K : SW g X own cc nx (b0 :: b1 :: b2 :: b3 :: b4 :: b5 :: some (vi x) :: t) (vi x :: st) V) : SW g X own cc pc (b0 :: b1 :: b2 :: b3 :: b4 :: b5 :: some (vi x) :: t) st V := S_iload (i := 6) d rfl K
theorem S_is6 {b0 b1 b2 b3 b4 b5 : Option AV} {y : Option AV} {x : Int} (d : DI cc pc (.istore 6) 2 nx) (hn : nl (some b5) := by trivial) (K : SW g X own cc nx (b0 :: b1 :: b2 :: b3 :: b4 :: b5 :: some (vi x) :: t) st V) : SW g X own cc pc (b0 :: b1 :: b2 :: b3 :: b4 :: b5 :: y :: t) (vi x :: st) V := S_istore (i := 6) d (by simp) (fun _ => hn) K
theorem S_inc6 {b0 b1 b2 b3 b4 b5 : Option AV} {x m : Int} (d : DI cc pc (.iinc 6 m) 3 nx) (hn : nl (some b5) := by trivial) (K : SW g X own cc nx (b0 :: b1 :: b2 :: b3 :: b4 :: b5 :: some (vi (x + m)) :: t) st V) : SW g X own cc pc (b0 :: b1 :: b2 :: b3 :: b4 :: b5 :: some (vi x) :: t) st V := S_iinc (i := 6) d rfl (fun _ => hn) K
theorem S_al6 {b0 b1 b2 b3 b4 b5 : Option AV} {x : Nat} (d : DI cc pc (.aload 6) 2 nx) (K : SW g X own cc nx (b0 :: b1 :: b2 :: b3 :: b4 :: b5 :: some (vr x) :: t) (vr x :: st) V) : SW g X own cc pc (b0 :: b1 :: b2 :: b3 :: b4 :: b5 :: some (vr x) :: t) st V := S_aload (i := 6) d rfl K
theorem S_as6 {b0 b1 b2 b3 b4 b5 : Option AV} {y : Option AV} {x : Nat} (d : DI cc pc (.astore 6) 2 nx) (hn : nl (some b5) := by trivial) (K : SW g X own cc nx (b0 :: b1 :: b2 :: b3 :: b4 :: b5 :: some (vr x) :: t) st V) : SW g X own cc pc (b0 :: b1 :: b2 :: b3 :: b4 :: b5 :: y :: t) (vr x :: st) V := S_astore (i := 6) d (by simp) (fun _ => hn) K
theorem S_ll6 {b0 b1 b2 b3 b4 b5 : Option AV} {x : Int} (d : DI cc pc (.lload 6) 2 nx) (K : SW g X own cc nx (b0 :: b1 :: b2 :: b3 :: b4 :: b5 :: some (vl x) :: t) (vl x :: st) V) : SW g X own cc pc (b0 :: b1 :: b2 :: b3 :: b4 :: b5 :: some (vl x) :: t) st V := S_lload (i := 6) d rfl K
theorem S_ls6 {b0 b1 b2 b3 b4 b5 : Option AV} {y z : Option AV} {x : Int} (d : DI cc pc (.lstore 6) 2 nx) (hn : nl (some b5) := by trivial) (K : SW g X own cc nx (b0 :: b1 :: b2 :: b3 :: b4 :: b5 :: some (vl x) :: none :: t) st V) : SW g X own cc pc (b0 :: b1 :: b2 :: b3 :: b4 :: b5 :: y :: z :: t) (vl x :: st) V := S_lstore (i := 6) d (by simp) (fun _ => hn) K
theorem S_il7 {b0 b1 b2 b3 b4 b5 b6 : Option AV} {x : Int} (d : DI cc pc (.iload 7) 2 nx) (K : SW g X own cc nx (b0 :: b1 :: b2 :: b3 :: b4 :: b5 :: b6 :: some (vi x) :: t) (vi x :: st) V) : SW g X own cc pc (b0 :: b1 :: b2 :: b3 :: b4 :: b5 :: b6 :: some (vi x) :: t) st V := S_iload (i := 7) d rfl K
theorem S_is7 {b0 b1 b2 b3 b4 b5 b6 : Option AV} {y : Option AV} {x : Int} (d : DI cc pc (.istore 7) 2 nx) (hn : nl (some b6) := by trivial) (K : SW g X own cc nx (b0 :: b1 :: b2 :: b3 :: b4 :: b5 :: b6 :: some (vi x) :: t) st V) : SW g X own cc pc (b0 :: b1 :: b2 :: b3 :: b4 :: b5 :: b6 :: y :: t) (vi x :: st) V := S_istore (i := 7) d (by simp) (fun _ => hn) K
theorem S_inc7 {b0 b1 b2 b3 b4 b5 b6 : Option AV} {x m : Int} (d : DI cc pc (.iinc 7 m) 3 nx) (hn : nl (some b6) := by trivial) (K : SW g X own cc nx (b0 :: b1 :: b2 :: b3 :: b4 :: b5 :: b6 :: some (vi (x + m)) :: t) st V) : SW g X own cc pc (b0 :: b1 :: b2 :: b3 :: b4 :: b5 :: b6 :: some (vi x) :: t) st V := S_iinc (i := 7) d rfl (fun _ => hn) K
theorem S_al7 {b0 b1 b2 b3 b4 b5 b6 : Option AV} {x : Nat} (d : DI cc pc (.aload 7) 2 nx) (K : SW g X own cc nx (b0 :: b1 :: b2 :: b3 :: b4 :: b5 :: b6 :: some (vr x) :: t) (vr x :: st) V) : SW g X own cc pc (b0 :: b1 :: b2 :: b3 :: b4 :: b5 :: b6 :: some (vr x) :: t) st V := S_aload (i := 7) d rfl K
theorem S_as7 {b0 b1 b2 b3 b4 b5 b6 : Option AV} {y : Option AV} {x : Nat} (d : DI cc pc (.astore 7) 2 nx) (hn : nl (some b6) := by trivial) (K : SW g X own cc nx (b0 :: b1 :: b2 :: b3 :: b4 :: b5 :: b6 :: some (vr x) :: t) st V) : SW g X own cc pc (b0 :: b1 :: b2 :: b3 :: b4 :: b5 :: b6 :: y :: t) (vr x :: st) V := S_astore (i := 7) d (by simp) (fun _ => hn) K
theorem S_ll7 {b0 b1 b2 b3 b4 b5 b6 : Option AV} {x : Int} (d : DI cc pc (.lload 7) 2 nx) (K : SW g X own cc nx (b0 :: b1 :: b2 :: b3 :: b4 :: b5 :: b6 :: some (vl x) :: t) (vl x :: st) V) : SW g X own cc pc (b0 :: b1 :: b2 :: b3 :: b4 :: b5 :: b6 :: some (vl x) :: t) st V := S_lload (i := 7) d rfl K
theorem S_ls7 {b0 b1 b2 b3 b4 b5 b6 : Option AV} {y z : Option AV} {x : Int} (d : DI cc pc (.lstore 7) 2 nx) (hn : nl (some b6) := by trivial) (K : SW g X own cc nx (b0 :: b1 :: b2 :: b3 :: b4 :: b5 :: b6 :: some (vl x) :: none :: t) st V) : SW g X own cc pc (b0 :: b1 :: b2 :: b3 :: b4 :: b5 :: b6 :: y :: z :: t) (vl x :: st) V := S_lstore (i := 7) d (by simp) (fun _ => hn) K
theorem S_il8 {b0 b1 b2 b3 b4 b5 b6 b7 : Option AV} {x : Int} (d : DI cc pc (.iload 8) 2 nx) (K : SW g X own cc nx (b0 :: b1 :: b2 :: b3 :: b4 :: b5 :: b6 :: b7 :: some (vi x) :: t) (vi x :: st) V) : SW g X own cc pc (b0 :: b1 :: b2 :: b3 :: b4 :: b5 :: b6 :: b7 :: some (vi x) :: t) st V := S_iload (i := 8) d rfl K
theorem S_is8 {b0 b1 b2 b3 b4 b5 b6 b7 : Option AV} {y : Option AV} {x : Int} (d : DI cc pc (.istore 8) 2 nx) (hn : nl (some b7) := by trivial) (K : SW g X own cc nx (b0 :: b1 :: b2 :: b3 :: b4 :: b5 :: b6 :: b7 :: some (vi x) :: t) st V) : SW g X own cc pc (b0 :: b1 :: b2 :: b3 :: b4 :: b5 :: b6 :: b7 :: y :: t) (vi x :: st) V := S_istore (i := 8) d (by simp) (fun _ => hn) K
theorem S_inc8 {b0 b1 b2 b3 b4 b5 b6 b7 : Option AV} {x m : Int} (d : DI cc pc (.iinc 8 m) 3 nx) (hn : nl (some b7) := by trivial) (K : SW g X own cc nx (b0 :: b1 :: b2 :: b3 :: b4 :: b5 :: b6 :: b7 :: some (vi (x + m)) :: t) st V) : SW g X own cc pc (b0 :: b1 :: b2 :: b3 :: b4 :: b5 :: b6 :: b7 :: some (vi x) :: t) st V := S_iinc (i := 8) d rfl (fun _ => hn) K
theorem S_al8 {b0 b1 b2 b3 b4 b5 b6 b7 : Option AV} {x : Nat} (d : DI cc pc (.aload 8) 2 nx) (K : SW g X own cc nx (b0 :: b1 :: b2 :: b3 :: b4 :: b5 :: b6 :: b7 :: some (vr x) :: t) (vr x :: st) V) : SW g X own cc pc (b0 :: b1 :: b2 :: b3 :: b4 :: b5 :: b6 :: b7 :: some (vr x) :: t) st V := S_aload (i := 8) d rfl K
theorem S_as8 {b0 b1 b2 b3 b4 b5 b6 b7 : Option AV} {y : Option AV} {x : Nat} (d : DI cc pc (.astore 8) 2 nx) (hn : nl (some b7) := by trivial) (K : SW g X own cc nx (b0 :: b1 :: b2 :: b3 :: b4 :: b5 :: b6 :: b7 :: some (vr x) :: t) st V) : SW g X own cc pc (b0 :: b1 :: b2 :: b3 :: b4 :: b5 :: b6 :: b7 :: y :: t) (vr x :: st) V := S_astore (i := 8) d (by simp) (fun _ => hn) K
theorem S_ll8 {b0 b1 b2 b3 b4 b5 b6 b7 : Option AV} {x : Int} (d : DI cc pc (.lload 8) 2 nx) (K : SW g X own cc nx (b0 :: b1 :: b2 :: b3 :: b4 :: b5 :: b6 :: b7 :: some (vl x) :: t) (vl x :: st) V) : SW g X own cc pc (b0 :: b1 :: b2 :: b3 :: b4 :: b5 :: b6 :: b7 :: some (vl x) :: t) st V := S_lload (i := 8) d rfl K
theorem S_ls8 {b0 b1 b2 b3 b4 b5 b6 b7 : Option AV} {y z : Option AV} {x : Int} (d : DI cc pc (.lstore 8) 2 nx) (hn : nl (some b7) := by trivial) (K : SW g X own cc nx (b0 :: b1 :: b2 :: b3 :: b4 :: b5 :: b6 :: b7 :: some (vl x) :: none :: t) st V) : SW g X own cc pc (b0 :: b1 :: b2 :: b3 :: b4 :: b5 :: b6 :: b7 :: y :: z :: t) (vl x :: st) V := S_lstore (i := 8) d (by simp) (fun _ => hn) K
theorem S_il9 {b0 b1 b2 b3 b4 b5 b6 b7 b8 : Option AV} {x : Int} (d : DI cc pc (.iload 9) 2 nx) (K : SW g X own cc nx (b0 :: b1 :: b2 :: b3 :: b4 :: b5 :: b6 :: b7 :: b8 :: some (vi x) :: t) (vi x :: st) V) : SW g X own cc pc (b0 :: b1 :: b2 :: b3 :: b4 :: b5 :: b6 :: b7 :: b8 :: some (vi x) :: t) st V := S_iload (i := 9) d rfl K
theorem S_is9 {b0 b1 b2 b3 b4 b5 b6 b7 b8 : Option AV} {y : Option AV} {x : Int} (d : DI cc pc (.istore 9) 2 nx) (hn : nl (some b8) := by trivial) (K : SW g X own cc nx (b0 :: b1 :: b2 :: b3 :: b4 :: b5 :: b6 :: b7 :: b8 :: some (vi x) :: t) st V) : SW g X own cc pc (b0 :: b1 :: b2 :: b3 :: b4 :: b5 :: b6 :: b7 :: b8 :: y :: t) (vi x :: st) V := S_istore (i := 9) d (by simp) (fun _ => hn) K
theorem S_inc9 {b0 b1 b2 b3 b4 b5 b6 b7 b8 : Option AV} {x m : Int} (d : DI cc pc (.iinc 9 m) 3 nx) (hn : nl (some b8) := by trivial) (K : SW g X own cc nx (b0 :: b1 :: b2 :: b3 :: b4 :: b5 :: b6 :: b7 :: b8 :: some (vi (x + m)) :: t) st V) : SW g X own cc pc (b0 :: b1 :: b2 :: b3 :: b4 :: b5 :: b6 :: b7 :: b8 :: some (vi x) :: t) st V := S_iinc (i := 9) d rfl (fun _ => hn) K
theorem S_al9 {b0 b1 b2 b3 b4 b5 b6 b7 b8 : Option AV} {x : Nat} (d : DI cc pc (.aload 9) 2 nx) (K : SW g X own cc nx (b0 :: b1 :: b2 :: b3 :: b4 :: b5 :: b6 :: b7 :: b8 :: some (vr x) :: t) (vr x :: st) V) : SW g X own cc pc (b0 :: b1 :: b2 :: b3 :: b4 :: b5 :: b6 :: b7 :: b8 :: some (vr x) :: t) st V := S_aload (i := 9) d rfl K
theorem S_as9 {b0 b1 b2 b3 b4 b5 b6 b7 b8 : Option AV} {y : Option AV} {x : Nat} (d : DI cc pc (.astore 9) 2 nx) (hn : nl (some b8) := by trivial) (K : SW g X own cc nx (b0 :: b1 :: b2 :: b3 :: b4 :: b5 :: b6 :: b7 :: b8 :: some (vr x) :: t) st V) : SW g X own cc pc (b0 :: b1 :: b2 :: b3 :: b4 :: b5 :: b6 :: b7 :: b8 :: y :: t) (vr x :: st) V := S_astore (i := 9) d (by simp) (fun _ => hn) K
theorem S_ll9 {b0 b1 b2 b3 b4 b5 b6 b7 b8 : Option AV} {x : Int} (d : DI cc pc (.lload 9) 2 nx) (K : SW g X own cc nx (b0 :: b1 :: b2 :: b3 :: b4 :: b5 :: b6 :: b7 :: b8 :: some (vl x) :: t) (vl x :: st) V) : SW g X own cc pc (b0 :: b1 :: b2 :: b3 :: b4 :: b5 :: b6 :: b7 :: b8 :: some (vl x) :: t) st V := S_lload (i := 9) d rfl K
theorem S_ls9 {b0 b1 b2 b3 b4 b5 b6 b7 b8 : Option AV} {y z : Option AV} {x : Int} (d : DI cc pc (.lstore 9) 2 nx) (hn : nl (some b8) := by trivial) (K : SW g X own cc nx (b0 :: b1 :: b2 :: b3 :: b4 :: b5 :: b6 :: b7 :: b8 :: some (vl x) :: none :: t) st V) : SW g X own cc pc (b0 :: b1 :: b2 :: b3 :: b4 :: b5 :: b6 :: b7 :: b8 :: y :: z :: t) (vl x :: st) V := S_lstore (i := 9) d (by simp) (fun _ => hn) K
theorem S_il10 {b0 b1 b2 b3 b4 b5 b6 b7 b8 b9 : Option AV} {x : Int} (d : DI cc pc (.iload 10) 2 nx) (K : SW g X own cc nx (b0 :: b1 :: b2 :: b3 :: b4 :: b5 :: b6 :: b7 :: b8 :: b9 :: some (vi x) :: t) (vi x :: st) V) : SW g X own cc pc (b0 :: b1 :: b2 :: b3 :: b4 :: b5 :: b6 :: b7 :: b8 :: b9 :: some (vi x) :: t) st V := S_iload (i := 10) d rfl K
theorem S_is10 {b0 b1 b2 b3 b4 b5 b6 b7 b8 b9 : Option AV} {y : Option AV} {x : Int} (d : DI cc pc (.istore 10) 2 nx) (hn : nl (some b9) := by trivial) (K : SW g X own cc nx (b0 :: b1 :: b2 :: b3 :: b4 :: b5 :: b6 :: b7 :: b8 :: b9 :: some (vi x) :: t) st V) : SW g X own cc pc (b0 :: b1 :: b2 :: b3 :: b4 :: b5 :: b6 :: b7 :: b8 :: b9 :: y :: t) (vi x :: st) V := S_istore (i := 10) d (by simp) (fun _ => hn) K
theorem S_inc10 {b0 b1 b2 b3 b4 b5 b6 b7 b8 b9 : Option AV} {x m : Int} (d : DI cc pc (.iinc 10 m) 3 nx) (hn : nl (some b9) := by trivial) (K : SW g X own cc nx (b0 :: b1 :: b2 :: b3 :: b4 :: b5 :: b6 :: b7 :: b8 :: b9 :: some (vi (x + m)) :: t) st V) : SW g X own cc pc (b0 :: b1 :: b2 :: b3 :: b4 :: b5 :: b6 :: b7 :: b8 :: b9 :: some (vi x) :: t) st V := S_iinc (i := 10) d rfl (fun _ => hn) K
theorem S_al10 {b0 b1 b2 b3 b4 b5 b6 b7 b8 b9 : Option AV} {x : Nat} (d : DI cc pc (.aload 10) 2 nx) (K : SW g X own cc nx (b0 :: b1 :: b2 :: b3 :: b4 :: b5 :: b6 :: b7 :: b8 :: b9 :: some (vr x) :: t) (vr x :: st) V) : SW g X own cc pc (b0 :: b1 :: b2 :: b3 :: b4 :: b5 :: b6 :: b7 :: b8 :: b9 :: some (vr x) :: t) st V := S_aload (i := 10) d rfl K
theorem S_as10 {b0 b1 b2 b3 b4 b5 b6 b7 b8 b9 : Option AV} {y : Option AV} {x : Nat} (d : DI cc pc (.astore 10) 2 nx) (hn : nl (some b9) := by trivial) (K : SW g X own cc nx (b0 :: b1 :: b2 :: b3 :: b4 :: b5 :: b6 :: b7 :: b8 :: b9 :: some (vr x) :: t) st V) : SW g X own cc pc (b0 :: b1 :: b2 :: b3 :: b4 :: b5 :: b6 :: b7 :: b8 :: b9 :: y :: t) (vr x :: st) V := S_astore (i := 10) d (by simp) (fun _ => hn) K
theorem S_ll10 {b0 b1 b2 b3 b4 b5 b6 b7 b8 b9 : Option AV} {x : Int} (d : DI cc pc (.lload 10) 2 nx) (K : SW g X own cc nx (b0 :: b1 :: b2 :: b3 :: b4 :: b5 :: b6 :: b7 :: b8 :: b9 :: some (vl x) :: t) (vl x :: st) V) : SW g X own cc pc (b0 :: b1 :: b2 :: b3 :: b4 :: b5 :: b6 :: b7 :: b8 :: b9 :: some (vl x) :: t) st V := S_lload (i := 10) d rfl K
theorem S_ls10 {b0 b1 b2 b3 b4 b5 b6 b7 b8 b9 : Option AV} {y z : Option AV} {x : Int} (d : DI cc pc (.lstore 10) 2 nx) (hn : nl (some b9) := by trivial) (K : SW g X own cc nx (b0 :: b1 :: b2 :: b3 :: b4 :: b5 :: b6 :: b7 :: b8 :: b9 :: some (vl x) :: none :: t) st V) : SW g X own cc pc (b0 :: b1 :: b2 :: b3 :: b4 :: b5 :: b6 :: b7 :: b8 :: b9 :: y :: z :: t) (vl x :: st) V := S_lstore (i := 10) d (by simp) (fun _ => hn) K
theorem S_il11 {b0 b1 b2 b3 b4 b5 b6 b7 b8 b9 b10 : Option AV} {x : Int} (d : DI cc pc (.iload 11) 2 nx) (K : SW g X own cc nx (b0 :: b1 :: b2 :: b3 :: b4 :: b5 :: b6 :: b7 :: b8 :: b9 :: b10 :: some (vi x) :: t) (vi x :: st) V) : SW g X own cc pc (b0 :: b1 :: b2 :: b3 :: b4 :: b5 :: b6 :: b7 :: b8 :: b9 :: b10 :: some (vi x) :: t) st V := S_iload (i := 11) d rfl K
theorem S_is11 {b0 b1 b2 b3 b4 b5 b6 b7 b8 b9 b10 : Option AV} {y : Option AV} {x : Int} (d : DI cc pc (.istore 11) 2 nx) (hn : nl (some b10) := by trivial) (K : SW g X own cc nx (b0 :: b1 :: b2 :: b3 :: b4 :: b5 :: b6 :: b7 :: b8 :: b9 :: b10 :: some (vi x) :: t) st V) : SW g X own cc pc (b0 :: b1 :: b2 :: b3 :: b4 :: b5 :: b6 :: b7 :: b8 :: b9 :: b10 :: y :: t) (vi x :: st) V := S_istore (i := 11) d (by simp) (fun _ => hn) K
theorem S_inc11 {b0 b1 b2 b3 b4 b5 b6 b7 b8 b9 b10 : Option AV} {x m : Int} (d : DI cc pc (.iinc 11 m) 3 nx) (hn : nl (some b10) := by trivial) (K : SW g X own cc nx (b0 :: b1 :: b2 :: b3 :: b4 :: b5 :: b6 :: b7 :: b8 :: b9 :: b10 :: some (vi (x + m)) :: t) st V) : SW g X own cc pc (b0 :: b1 :: b2 :: b3 :: b4 :: b5 :: b6 :: b7 :: b8 :: b9 :: b10 :: some (vi x) :: t) st V := S_iinc (i := 11) d rfl (fun _ => hn) K
theorem S_al11 {b0 b1 b2 b3 b4 b5 b6 b7 b8 b9 b10 : Option AV} {x : Nat} (d : DI cc pc (.aload 11) 2 nx) (K : SW g X own cc nx (b0 :: b1 :: b2 :: b3 :: b4 :: b5 :: b6 :: b7 :: b8 :: b9 :: b10 :: some (vr x) :: t) (vr x :: st) V) : SW g X own cc pc (b0 :: b1 :: b2 :: b3 :: b4 :: b5 :: b6 :: b7 :: b8 :: b9 :: b10 :: some (vr x) :: t) st V := S_aload (i := 11) d rfl K
theorem S_as11 {b0 b1 b2 b3 b4 b5 b6 b7 b8 b9 b10 : Option AV} {y : Option AV} {x : Nat} (d : DI cc pc (.astore 11) 2 nx) (hn : nl (some b10) := by trivial) (K : SW g X own cc nx (b0 :: b1 :: b2 :: b3 :: b4 :: b5 :: b6 :: b7 :: b8 :: b9 :: b10 :: some (vr x) :: t) st V) : SW g X own cc pc (b0 :: b1 :: b2 :: b3 :: b4 :: b5 :: b6 :: b7 :: b8 :: b9 :: b10 :: y :: t) (vr x :: st) V := S_astore (i := 11) d (by simp) (fun _ => hn) K
theorem S_ll11 {b0 b1 b2 b3 b4 b5 b6 b7 b8 b9 b10 : Option AV} {x : Int} (d : DI cc pc (.lload 11) 2 nx) (K : SW g X own cc nx (b0 :: b1 :: b2 :: b3 :: b4 :: b5 :: b6 :: b7 :: b8 :: b9 :: b10 :: some (vl x) :: t) (vl x :: st) V) : SW g X own cc pc (b0 :: b1 :: b2 :: b3 :: b4 :: b5 :: b6 :: b7 :: b8 :: b9 :: b10 :: some (vl x) :: t) st V := S_lload (i := 11) d rfl K
theorem S_ls11 {b0 b1 b2 b3 b4 b5 b6 b7 b8 b9 b10 : Option AV} {y z : Option AV} {x : Int} (d : DI cc pc (.lstore 11) 2 nx) (hn : nl (some b10) := by trivial) (K : SW g X own cc nx (b0 :: b1 :: b2 :: b3 :: b4 :: b5 :: b6 :: b7 :: b8 :: b9 :: b10 :: some (vl x) :: none :: t) st V) : SW g X own cc pc (b0 :: b1 :: b2 :: b3 :: b4 :: b5 :: b6 :: b7 :: b8 :: b9 :: b10 :: y :: z :: t) (vl x :: st) V := S_lstore (i := 11) d (by simp) (fun _ => hn) K
theorem S_il12 {b0 b1 b2 b3 b4 b5 b6 b7 b8 b9 b10 b11 : Option AV} {x : Int} (d : DI cc pc (.iload 12) 2 nx) (K : SW g X own cc nx (b0 :: b1 :: b2 :: b3 :: b4 :: b5 :: b6 :: b7 :: b8 :: b9 :: b10 :: b11 :: some (vi x) :: t) (vi x :: st) V) : SW g X own cc pc (b0 :: b1 :: b2 :: b3 :: b4 :: b5 :: b6 :: b7 :: b8 :: b9 :: b10 :: b11 :: some (vi x) :: t) st V := S_iload (i := 12) d rfl K
theorem S_is12 {b0 b1 b2 b3 b4 b5 b6 b7 b8 b9 b10 b11 : Option AV} {y : Option AV} {x : Int} (d : DI cc pc (.istore 12) 2 nx) (hn : nl (some b11) := by trivial) (K : SW g X own cc nx (b0 :: b1 :: b2 :: b3 :: b4 :: b5 :: b6 :: b7 :: b8 :: b9 :: b10 :: b11 :: some (vi x) :: t) st V) : SW g X own cc pc (b0 :: b1 :: b2 :: b3 :: b4 :: b5 :: b6 :: b7 :: b8 :: b9 :: b10 :: b11 :: y :: t) (vi x :: st) V := S_istore (i := 12) d (by simp) (fun _ => hn) K
theorem S_inc12 {b0 b1 b2 b3 b4 b5 b6 b7 b8 b9 b10 b11 : Option AV} {x m : Int} (d : DI cc pc (.iinc 12 m) 3 nx) (hn : nl (some b11) := by trivial) (K : SW g X own cc nx (b0 :: b1 :: b2 :: b3 :: b4 :: b5 :: b6 :: b7 :: b8 :: b9 :: b10 :: b11 :: some (vi (x + m)) :: t) st V) : SW g X own cc pc (b0 :: b1 :: b2 :: b3 :: b4 :: b5 :: b6 :: b7 :: b8 :: b9 :: b10 :: b11 :: some (vi x) :: t) st V := S_iinc (i := 12) d rfl (fun _ => hn) K
theorem S_al12 {b0 b1 b2 b3 b4 b5 b6 b7 b8 b9 b10 b11 : Option AV} {x : Nat} (d : DI cc pc (.aload 12) 2 nx) (K : SW g X own cc nx (b0 :: b1 :: b2 :: b3 :: b4 :: b5 :: b6 :: b7 :: b8 :: b9 :: b10 :: b11 :: some (vr x) :: t) (vr x :: st) V) : SW g X own cc pc (b0 :: b1 :: b2 :: b3 :: b4 :: b5 :: b6 :: b7 :: b8 :: b9 :: b10 :: b11 :: some (vr x) :: t) st V := S_aload (i := 12) d rfl K
theorem S_as12 {b0 b1 b2 b3 b4 b5 b6 b7 b8 b9 b10 b11 : Option AV} {y : Option AV} {x : Nat} (d : DI cc pc (.astore 12) 2 nx) (hn : nl (some b11) := by trivial) (K : SW g X own cc nx (b0 :: b1 :: b2 :: b3 :: b4 :: b5 :: b6 :: b7 :: b8 :: b9 :: b10 :: b11 :: some (vr x) :: t) st V) : SW g X own cc pc (b0 :: b1 :: b2 :: b3 :: b4 :: b5 :: b6 :: b7 :: b8 :: b9 :: b10 :: b11 :: y :: t) (vr x :: st) V := S_astore (i := 12) d (by simp) (fun _ => hn) K
theorem S_ll12 {b0 b1 b2 b3 b4 b5 b6 b7 b8 b9 b10 b11 : Option AV} {x : Int} (d : DI cc pc (.lload 12) 2 nx) (K : SW g X own cc nx (b0 :: b1 :: b2 :: b3 :: b4 :: b5 :: b6 :: b7 :: b8 :: b9 :: b10 :: b11 :: some (vl x) :: t) (vl x :: st) V) : SW g X own cc pc (b0 :: b1 :: b2 :: b3 :: b4 :: b5 :: b6 :: b7 :: b8 :: b9 :: b10 :: b11 :: some (vl x) :: t) st V := S_lload (i := 12) d rfl K
theorem S_ls12 {b0 b1 b2 b3 b4 b5 b6 b7 b8 b9 b10 b11 : Option AV} {y z : Option AV} {x : Int} (d : DI cc pc (.lstore 12) 2 nx) (hn : nl (some b11) := by trivial) (K : SW g X own cc nx (b0 :: b1 :: b2 :: b3 :: b4 :: b5 :: b6 :: b7 :: b8 :: b9 :: b10 :: b11 :: some (vl x) :: none :: t) st V) : SW g X own cc pc (b0 :: b1 :: b2 :: b3 :: b4 :: b5 :: b6 :: b7 :: b8 :: b9 :: b10 :: b11 :: y :: z :: t) (vl x :: st) V := S_lstore (i := 12) d (by simp) (fun _ => hn) K
theorem S_il13 {b0 b1 b2 b3 b4 b5 b6 b7 b8 b9 b10 b11 b12 : Option AV} {x : Int} (d : DI cc pc (.iload 13) 2 nx) (K : SW g X own cc nx (b0 :: b1 :: b2 :: b3 :: b4 :: b5 :: b6 :: b7 :: b8 :: b9 :: b10 :: b11 :: b12 :: some (vi x) :: t) (vi x :: st) V) : SW g X own cc pc (b0 :: b1 :: b2 :: b3 :: b4 :: b5 :: b6 :: b7 :: b8 :: b9 :: b10 :: b11 :: b12 :: some (vi x) :: t) st V := S_iload (i := 13) d rfl K
theorem S_is13 {b0 b1 b2 b3 b4 b5 b6 b7 b8 b9 b10 b11 b12 : Option AV} {y : Option AV} {x : Int} (d : DI cc pc (.istore 13) 2 nx) (hn : nl (some b12) := by trivial) (K : SW g X own cc nx (b0 :: b1 :: b2 :: b3 :: b4 :: b5 :: b6 :: b7 :: b8 :: b9 :: b10 :: b11 :: b12 :: some (vi x) :: t) st V) : SW g X own cc pc (b0 :: b1 :: b2 :: b3 :: b4 :: b5 :: b6 :: b7 :: b8 :: b9 :: b10 :: b11 :: b12 :: y :: t) (vi x :: st) V := S_istore (i := 13) d (by simp) (fun _ => hn) K
theorem S_inc13 {b0 b1 b2 b3 b4 b5 b6 b7 b8 b9 b10 b11 b12 : Option AV} {x m : Int} (d : DI cc pc (.iinc 13 m) 3 nx) (hn : nl (some b12) := by trivial) (K : SW g X own cc nx (b0 :: b1 :: b2 :: b3 :: b4 :: b5 :: b6 :: b7 :: b8 :: b9 :: b10 :: b11 :: b12 :: some (vi (x + m)) :: t) st V) : SW g X own cc pc (b0 :: b1 :: b2 :: b3 :: b4 :: b5 :: b6 :: b7 :: b8 :: b9 :: b10 :: b11 :: b12 :: some (vi x) :: t) st V := S_iinc (i := 13) d rfl (fun _ => hn) K
theorem S_al13 {b0 b1 b2 b3 b4 b5 b6 b7 b8 b9 b10 b11 b12 : Option AV} {x : Nat} (d : DI cc pc (.aload 13) 2 nx) (K : SW g X own cc nx (b0 :: b1 :: b2 :: b3 :: b4 :: b5 :: b6 :: b7 :: b8 :: b9 :: b10 :: b11 :: b12 :: some (vr x) :: t) (vr x :: st) V) : SW g X own cc pc (b0 :: b1 :: b2 :: b3 :: b4 :: b5 :: b6 :: b7 :: b8 :: b9 :: b10 :: b11 :: b12 :: some (vr x) :: t) st V := S_aload (i := 13) d rfl K
theorem S_as13 {b0 b1 b2 b3 b4 b5 b6 b7 b8 b9 b10 b11 b12 : Option AV} {y : Option AV} {x : Nat} (d : DI cc pc (.astore 13) 2 nx) (hn : nl (some b12) := by trivial) (K : SW g X own cc nx (b0 :: b1 :: b2 :: b3 :: b4 :: b5 :: b6 :: b7 :: b8 :: b9 :: b10 :: b11 :: b12 :: some (vr x) :: t) st V) : SW g X own cc pc (b0 :: b1 :: b2 :: b3 :: b4 :: b5 :: b6 :: b7 :: b8 :: b9 :: b10 :: b11 :: b12 :: y :: t) (vr x :: st) V := S_astore (i := 13) d (by simp) (fun _ => hn) K
theorem S_ll13 {b0 b1 b2 b3 b4 b5 b6 b7 b8 b9 b10 b11 b12 : Option AV} {x : Int} (d : DI cc pc (.lload 13) 2 nx) (K : SW g X own cc nx (b0 :: b1 :: b2 :: b3 :: b4 :: b5 :: b6 :: b7 :: b8 :: b9 :: b10 :: b11 :: b12 :: some (vl x) :: t) (vl x :: st) V) : SW g X own cc pc (b0 :: b1 :: b2 :: b3 :: b4 :: b5 :: b6 :: b7 :: b8 :: b9 :: b10 :: b11 :: b12 :: some (vl x) :: t) st V := S_lload (i := 13) d rfl K
theorem S_ls13 {b0 b1 b2 b3 b4 b5 b6 b7 b8 b9 b10 b11 b12 : Option AV} {y z : Option AV} {x : Int} (d : DI cc pc (.lstore 13) 2 nx) (hn : nl (some b12) := by trivial) (K : SW g X own cc nx (b0 :: b1 :: b2 :: b3 :: b4 :: b5 :: b6 :: b7 :: b8 :: b9 :: b10 :: b11 :: b12 :: some (vl x) :: none :: t) st V) : SW g X own cc pc (b0 :: b1 :: b2 :: b3 :: b4 :: b5 :: b6 :: b7 :: b8 :: b9 :: b10 :: b11 :: b12 :: y :: z :: t) (vl x :: st) V := S_lstore (i := 13) d (by simp) (fun _ => hn) K
/-- answers: an int, a long, a place, none -/
def RI (P : Int → MM → Prop) : Option AV → MM → Prop := fun r V => ∃ z, r = some (vi z) ∧ P z V
def RLo (P : Int → MM → Prop) : Option AV → MM → Prop := fun r V => ∃ z, r = some (vl z) ∧ P z V
def RR (P : Nat → MM → Prop) : Option AV → MM → Prop := fun r V => ∃ k, r = some (vr k) ∧ P k V
def RV (P : MM → Prop) : Option AV → MM → Prop := fun r V => r = none ∧ P V
theorem RI.mk {P : Int → MM → Prop} {z : Int} {V : MM} (h : P z V) : RI P (some (vi z)) V := ⟨z, rfl, h⟩
theorem RLo.mk {P : Int → MM → Prop} {z : Int} {V : MM} (h : P z V) : RLo P (some (vl z)) V := ⟨z, rfl, h⟩
theorem RR.mk {P : Nat → MM → Prop} {z : Nat} {V : MM} (h : P z V) : RR P (some (vr z)) V := ⟨z, rfl, h⟩
theorem RV.mk {P : MM → Prop} {V : MM} (h : P V) : RV P none V := ⟨rfl, h⟩
/-- answers that are known: a number, whether, nothing, the memory as it was; or nothing and a new memory -/
def RE (V : MM) (e : Int) : Option AV → MM → Prop := fun r V' => r = some (vi e) ∧ V' = V
def REL (V : MM) (e : Int) : Option AV → MM → Prop := fun r V' => r = some (vl e) ∧ V' = V
def RER (V : MM) (k : Nat) : Option AV → MM → Prop := fun r V' => r = some (vr k) ∧ V' = V
def RB (V : MM) (φ : Prop) : Option AV → MM → Prop := fun r V' => V' = V ∧ (r = some (vi 1) ∧ φ ∨ r = some (vi 0) ∧ ¬ φ)
def RW (V : MM) : Option AV → MM → Prop := fun r V' => r = none ∧ V' = V
theorem RE.mk {V : MM} {x e : Int} (h : x = e) : RE V e (some (vi x)) V := ⟨by rw [h], rfl⟩
theorem REL.mk {V : MM} {x e : Int} (h : x = e) : REL V e (some (vl x)) V := ⟨by rw [h], rfl⟩
theorem RER.mk {V : MM} {x e : Nat} (h : x = e) : RER V e (some (vr x)) V := ⟨by rw [h], rfl⟩
theorem RB.mk {V : MM} {x : Int} {φ : Prop} (h : x = 1 ∧ φ ∨ x = 0 ∧ ¬ φ) : RB V φ (some (vi x)) V := by
  rcases h with ⟨rfl, h⟩ | ⟨rfl, h⟩
  · exact ⟨rfl, Or.inl ⟨rfl, h⟩⟩
  · exact ⟨rfl, Or.inr ⟨rfl, h⟩⟩
theorem RW.mk {V W : MM} (h : V = W) : RW W none V := ⟨rfl, h⟩
theorem S_V0I {idx d d' b : Nat} {M : MN} {Pr : Int → MM → Prop} (hD : Dp X d) (dd : DI cc pc (.invokevirtual idx) 3 nx) (hl0 : ML own idx M) (hm : MV M 0) (hr : rcv b M.1.cls) (hc : Ct g M d' (vr b :: []) V (RI Pr)) (hd : d' + 1 ≤ d := by omega) (hw : (st.map wcat).sum ≤ 8 := by exact Nat.le_of_ble_eq_true rfl) (kk : ∀ (z : Int) (V1 : MM), Pr z V1 → SW g X own cc nx ls (vi z :: st) V1) : SW g X own cc pc ls (vr b :: st) V := S_callV (as := []) hD dd hl0 hm hr hc hd rfl rfl hw (fun r V1 h => by obtain ⟨z, rfl, h⟩ := h; exact kk z V1 h)
theorem S_V0E {idx d d' b : Nat} {M : MN} {ex : Int} (hD : Dp X d) (dd : DI cc pc (.invokevirtual idx) 3 nx) (hl0 : ML own idx M) (hm : MV M 0) (hr : rcv b M.1.cls) (hc : Ct g M d' (vr b :: []) V (RE V ex)) (hd : d' + 1 ≤ d := by omega) (hw : (st.map wcat).sum ≤ 8 := by exact Nat.le_of_ble_eq_true rfl) (K : SW g X own cc nx ls (vi ex :: st) V) : SW g X own cc pc ls (vr b :: st) V := S_callV (as := []) hD dd hl0 hm hr hc hd rfl rfl hw (fun r V1 h => by obtain ⟨rfl, rfl⟩ := h; exact K)
theorem S_V0EL {idx d d' b : Nat} {M : MN} {ex : Int} (hD : Dp X d) (dd : DI cc pc (.invokevirtual idx) 3 nx) (hl0 : ML own idx M) (hm : MV M 0) (hr : rcv b M.1.cls) (hc : Ct g M d' (vr b :: []) V (REL V ex)) (hd : d' + 1 ≤ d := by omega) (hw : (st.map wcat).sum ≤ 8 := by exact Nat.le_of_ble_eq_true rfl) (K : SW g X own cc nx ls (vl ex :: st) V) : SW g X own cc pc ls (vr b :: st) V := S_callV (as := []) hD dd hl0 hm hr hc hd rfl rfl hw (fun r V1 h => by obtain ⟨rfl, rfl⟩ := h; exact K)
theorem S_V0ER {idx d d' b : Nat} {M : MN} {ex : Nat} (hD : Dp X d) (dd : DI cc pc (.invokevirtual idx) 3 nx) (hl0 : ML own idx M) (hm : MV M 0) (hr : rcv b M.1.cls) (hc : Ct g M d' (vr b :: []) V (RER V ex)) (hd : d' + 1 ≤ d := by omega) (hw : (st.map wcat).sum ≤ 8 := by exact Nat.le_of_ble_eq_true rfl) (K : SW g X own cc nx ls (vr ex :: st) V) : SW g X own cc pc ls (vr b :: st) V := S_callV (as := []) hD dd hl0 hm hr hc hd rfl rfl hw (fun r V1 h => by obtain ⟨rfl, rfl⟩ := h; exact K)
theorem S_V0B {idx d d' b : Nat} {M : MN} {φ : Prop} (hD : Dp X d) (dd : DI cc pc (.invokevirtual idx) 3 nx) (hl0 : ML own idx M) (hm : MV M 0) (hr : rcv b M.1.cls) (hc : Ct g M d' (vr b :: []) V (RB V φ)) (hd : d' + 1 ≤ d := by omega) (hw : (st.map wcat).sum ≤ 8 := by exact Nat.le_of_ble_eq_true rfl) (kt : φ → SW g X own cc nx ls (vi 1 :: st) V) (kf : ¬ φ → SW g X own cc nx ls (vi 0 :: st) V) : SW g X own cc pc ls (vr b :: st) V := S_callV (as := []) hD dd hl0 hm hr hc hd rfl rfl hw (fun r V1 h => by obtain ⟨rfl, ⟨rfl, h⟩ | ⟨rfl, h⟩⟩ := h; exact kt h; exact kf h)
theorem S_V0W {idx d d' b : Nat} {M : MN} {V2 : MM} (hD : Dp X d) (dd : DI cc pc (.invokevirtual idx) 3 nx) (hl0 : ML own idx M) (hm : MV M 0) (hr : rcv b M.1.cls) (hc : Ct g M d' (vr b :: []) V (RW V2)) (hd : d' + 1 ≤ d := by omega) (hw : (st.map wcat).sum ≤ 8 := by exact Nat.le_of_ble_eq_true rfl) (K : SW g X own cc nx ls st V2) : SW g X own cc pc ls (vr b :: st) V := S_callV (as := []) hD dd hl0 hm hr hc hd rfl rfl hw (fun r V1 h => by obtain ⟨rfl, rfl⟩ := h; exact K)
theorem S_V0L {idx d d' b : Nat} {M : MN} {Pr : Int → MM → Prop} (hD : Dp X d) (dd : DI cc pc (.invokevirtual idx) 3 nx) (hl0 : ML own idx M) (hm : MV M 0) (hr : rcv b M.1.cls) (hc : Ct g M d' (vr b :: []) V (RLo Pr)) (hd : d' + 1 ≤ d := by omega) (hw : (st.map wcat).sum ≤ 8 := by exact Nat.le_of_ble_eq_true rfl) (kk : ∀ (z : Int) (V1 : MM), Pr z V1 → SW g X own cc nx ls (vl z :: st) V1) : SW g X own cc pc ls (vr b :: st) V := S_callV (as := []) hD dd hl0 hm hr hc hd rfl rfl hw (fun r V1 h => by obtain ⟨z, rfl, h⟩ := h; exact kk z V1 h)
theorem S_V0R {idx d d' b : Nat} {M : MN} {Pr : Nat → MM → Prop} (hD : Dp X d) (dd : DI cc pc (.invokevirtual idx) 3 nx) (hl0 : ML own idx M) (hm : MV M 0) (hr : rcv b M.1.cls) (hc : Ct g M d' (vr b :: []) V (RR Pr)) (hd : d' + 1 ≤ d := by omega) (hw : (st.map wcat).sum ≤ 8 := by exact Nat.le_of_ble_eq_true rfl) (kk : ∀ (z : Nat) (V1 : MM), Pr z V1 → SW g X own cc nx ls (vr z :: st) V1) : SW g X own cc pc ls (vr b :: st) V := S_callV (as := []) hD dd hl0 hm hr hc hd rfl rfl hw (fun r V1 h => by obtain ⟨z, rfl, h⟩ := h; exact kk z V1 h)
theorem S_V0V {idx d d' b : Nat} {M : MN} {Pr : MM → Prop} (hD : Dp X d) (dd : DI cc pc (.invokevirtual idx) 3 nx) (hl0 : ML own idx M) (hm : MV M 0) (hr : rcv b M.1.cls) (hc : Ct g M d' (vr b :: []) V (RV Pr)) (hd : d' + 1 ≤ d := by omega) (hw : (st.map wcat).sum ≤ 8 := by exact Nat.le_of_ble_eq_true rfl) (kk : ∀ (V1 : MM), Pr V1 → SW g X own cc nx ls st V1) : SW g X own cc pc ls (vr b :: st) V := S_callV (as := []) hD dd hl0 hm hr hc hd rfl rfl hw (fun r V1 h => by obtain ⟨rfl, h⟩ := h; exact kk V1 h)
theorem S_V1I {idx d d' b : Nat} {M : MN} {a0 : AV} {Pr : Int → MM → Prop} (hD : Dp X d) (dd : DI cc pc (.invokevirtual idx) 3 nx) (hl0 : ML own idx M) (hm : MV M 1) (hr : rcv b M.1.cls) (hc : Ct g M d' (vr b :: [a0]) V (RI Pr)) (hd : d' + 1 ≤ d := by omega) (hw : (st.map wcat).sum ≤ 8 := by exact Nat.le_of_ble_eq_true rfl) (kk : ∀ (z : Int) (V1 : MM), Pr z V1 → SW g X own cc nx ls (vi z :: st) V1) : SW g X own cc pc ls (a0 :: vr b :: st) V := S_callV (as := [a0]) hD dd hl0 hm hr hc hd rfl rfl hw (fun r V1 h => by obtain ⟨z, rfl, h⟩ := h; exact kk z V1 h)
theorem S_V1E {idx d d' b : Nat} {M : MN} {a0 : AV} {ex : Int} (hD : Dp X d) (dd : DI cc pc (.invokevirtual idx) 3 nx) (hl0 : ML own idx M) (hm : MV M 1) (hr : rcv b M.1.cls) (hc : Ct g M d' (vr b :: [a0]) V (RE V ex)) (hd : d' + 1 ≤ d := by omega) (hw : (st.map wcat).sum ≤ 8 := by exact Nat.le_of_ble_eq_true rfl) (K : SW g X own cc nx ls (vi ex :: st) V) : SW g X own cc pc ls (a0 :: vr b :: st) V := S_callV (as := [a0]) hD dd hl0 hm hr hc hd rfl rfl hw (fun r V1 h => by obtain ⟨rfl, rfl⟩ := h; exact K)
theorem S_V1EL {idx d d' b : Nat} {M : MN} {a0 : AV} {ex : Int} (hD : Dp X d) (dd : DI cc pc (.invokevirtual idx) 3 nx) (hl0 : ML own idx M) (hm : MV M 1) (hr : rcv b M.1.cls) (hc : Ct g M d' (vr b :: [a0]) V (REL V ex)) (hd : d' + 1 ≤ d := by omega) (hw : (st.map wcat).sum ≤ 8 := by exact Nat.le_of_ble_eq_true rfl) (K : SW g X own cc nx ls (vl ex :: st) V) : SW g X own cc pc ls (a0 :: vr b :: st) V := S_callV (as := [a0]) hD dd hl0 hm hr hc hd rfl rfl hw (fun r V1 h => by obtain ⟨rfl, rfl⟩ := h; exact K)
theorem S_V1ER {idx d d' b : Nat} {M : MN} {a0 : AV} {ex : Nat} (hD : Dp X d) (dd : DI cc pc (.invokevirtual idx) 3 nx) (hl0 : ML own idx M) (hm : MV M 1) (hr : rcv b M.1.cls) (hc : Ct g M d' (vr b :: [a0]) V (RER V ex)) (hd : d' + 1 ≤ d := by omega) (hw : (st.map wcat).sum ≤ 8 := by exact Nat.le_of_ble_eq_true rfl) (K : SW g X own cc nx ls (vr ex :: st) V) : SW g X own cc pc ls (a0 :: vr b :: st) V := S_callV (as := [a0]) hD dd hl0 hm hr hc hd rfl rfl hw (fun r V1 h => by obtain ⟨rfl, rfl⟩ := h; exact K)
theorem S_V1B {idx d d' b : Nat} {M : MN} {a0 : AV} {φ : Prop} (hD : Dp X d) (dd : DI cc pc (.invokevirtual idx) 3 nx) (hl0 : ML own idx M) (hm : MV M 1) (hr : rcv b M.1.cls) (hc : Ct g M d' (vr b :: [a0]) V (RB V φ)) (hd : d' + 1 ≤ d := by omega) (hw : (st.map wcat).sum ≤ 8 := by exact Nat.le_of_ble_eq_true rfl) (kt : φ → SW g X own cc nx ls (vi 1 :: st) V) (kf : ¬ φ → SW g X own cc nx ls (vi 0 :: st) V) : SW g X own cc pc ls (a0 :: vr b :: st) V := S_callV (as := [a0]) hD dd hl0 hm hr hc hd rfl rfl hw (fun r V1 h => by obtain ⟨rfl, ⟨rfl, h⟩ | ⟨rfl, h⟩⟩ := h; exact kt h; exact kf h)
theorem S_V1W {idx d d' b : Nat} {M : MN} {a0 : AV} {V2 : MM} (hD : Dp X d) (dd : DI cc pc (.invokevirtual idx) 3 nx) (hl0 : ML own idx M) (hm : MV M 1) (hr : rcv b M.1.cls) (hc : Ct g M d' (vr b :: [a0]) V (RW V2)) (hd : d' + 1 ≤ d := by omega) (hw : (st.map wcat).sum ≤ 8 := by exact Nat.le_of_ble_eq_true rfl) (K : SW g X own cc nx ls st V2) : SW g X own cc pc ls (a0 :: vr b :: st) V := S_callV (as := [a0]) hD dd hl0 hm hr hc hd rfl rfl hw (fun r V1 h => by obtain ⟨rfl, rfl⟩ := h; exact K)
theorem S_V1L {idx d d' b : Nat} {M : MN} {a0 : AV} {Pr : Int → MM → Prop} (hD : Dp X d) (dd : DI cc pc (.invokevirtual idx) 3 nx) (hl0 : ML own idx M) (hm : MV M 1) (hr : rcv b M.1.cls) (hc : Ct g M d' (vr b :: [a0]) V (RLo Pr)) (hd : d' + 1 ≤ d := by omega) (hw : (st.map wcat).sum ≤ 8 := by exact Nat.le_of_ble_eq_true rfl) (kk : ∀ (z : Int) (V1 : MM), Pr z V1 → SW g X own cc nx ls (vl z :: st) V1) : SW g X own cc pc ls (a0 :: vr b :: st) V := S_callV (as := [a0]) hD dd hl0 hm hr hc hd rfl rfl hw (fun r V1 h => by obtain ⟨z, rfl, h⟩ := h; exact kk z V1 h)
theorem S_V1R {idx d d' b : Nat} {M : MN} {a0 : AV} {Pr : Nat → MM → Prop} (hD : Dp X d) (dd : DI cc pc (.invokevirtual idx) 3 nx) (hl0 : ML own idx M) (hm : MV M 1) (hr : rcv b M.1.cls) (hc : Ct g M d' (vr b :: [a0]) V (RR Pr)) (hd : d' + 1 ≤ d := by omega) (hw : (st.map wcat).sum ≤ 8 := by exact Nat.le_of_ble_eq_true rfl) (kk : ∀ (z : Nat) (V1 : MM), Pr z V1 → SW g X own cc nx ls (vr z :: st) V1) : SW g X own cc pc ls (a0 :: vr b :: st) V := S_callV (as := [a0]) hD dd hl0 hm hr hc hd rfl rfl hw (fun r V1 h => by obtain ⟨z, rfl, h⟩ := h; exact kk z V1 h)
theorem S_V1V {idx d d' b : Nat} {M : MN} {a0 : AV} {Pr : MM → Prop} (hD : Dp X d) (dd : DI cc pc (.invokevirtual idx) 3 nx) (hl0 : ML own idx M) (hm : MV M 1) (hr : rcv b M.1.cls) (hc : Ct g M d' (vr b :: [a0]) V (RV Pr)) (hd : d' + 1 ≤ d := by omega) (hw : (st.map wcat).sum ≤ 8 := by exact Nat.le_of_ble_eq_true rfl) (kk : ∀ (V1 : MM), Pr V1 → SW g X own cc nx ls st V1) : SW g X own cc pc ls (a0 :: vr b :: st) V := S_callV (as := [a0]) hD dd hl0 hm hr hc hd rfl rfl hw (fun r V1 h => by obtain ⟨rfl, h⟩ := h; exact kk V1 h)
theorem S_V2I {idx d d' b : Nat} {M : MN} {a0 a1 : AV} {Pr : Int → MM → Prop} (hD : Dp X d) (dd : DI cc pc (.invokevirtual idx) 3 nx) (hl0 : ML own idx M) (hm : MV M 2) (hr : rcv b M.1.cls) (hc : Ct g M d' (vr b :: [a0, a1]) V (RI Pr)) (hd : d' + 1 ≤ d := by omega) (hw : (st.map wcat).sum ≤ 8 := by exact Nat.le_of_ble_eq_true rfl) (kk : ∀ (z : Int) (V1 : MM), Pr z V1 → SW g X own cc nx ls (vi z :: st) V1) : SW g X own cc pc ls (a1 :: a0 :: vr b :: st) V := S_callV (as := [a0, a1]) hD dd hl0 hm hr hc hd rfl rfl hw (fun r V1 h => by obtain ⟨z, rfl, h⟩ := h; exact kk z V1 h)
theorem S_V2E {idx d d' b : Nat} {M : MN} {a0 a1 : AV} {ex : Int} (hD : Dp X d) (dd : DI cc pc (.invokevirtual idx) 3 nx) (hl0 : ML own idx M) (hm : MV M 2) (hr : rcv b M.1.cls) (hc : Ct g M d' (vr b :: [a0, a1]) V (RE V ex)) (hd : d' + 1 ≤ d := by omega) (hw : (st.map wcat).sum ≤ 8 := by exact Nat.le_of_ble_eq_true rfl) (K : SW g X own cc nx ls (vi ex :: st) V) : SW g X own cc pc ls (a1 :: a0 :: vr b :: st) V := S_callV (as := [a0, a1]) hD dd hl0 hm hr hc hd rfl rfl hw (fun r V1 h => by obtain ⟨rfl, rfl⟩ := h; exact K)
theorem S_V2EL {idx d d' b : Nat} {M : MN} {a0 a1 : AV} {ex : Int} (hD : Dp X d) (dd : DI cc pc (.invokevirtual idx) 3 nx) (hl0 : ML own idx M) (hm : MV M 2) (hr : rcv b M.1.cls) (hc : Ct g M d' (vr b :: [a0, a1]) V (REL V ex)) (hd : d' + 1 ≤ d := by omega) (hw : (st.map wcat).sum ≤ 8 := by exact Nat.le_of_ble_eq_true rfl) (K : SW g X own cc nx ls (vl ex :: st) V) : SW g X own cc pc ls (a1 :: a0 :: vr b :: st) V := S_callV (as := [a0, a1]) hD dd hl0 hm hr hc hd rfl rfl hw (fun r V1 h => by obtain ⟨rfl, rfl⟩ := h; exact K)
theorem S_V2ER {idx d d' b : Nat} {M : MN} {a0 a1 : AV} {ex : Nat} (hD : Dp X d) (dd : DI cc pc (.invokevirtual idx) 3 nx) (hl0 : ML own idx M) (hm : MV M 2) (hr : rcv b M.1.cls) (hc : Ct g M d' (vr b :: [a0, a1]) V (RER V ex)) (hd : d' + 1 ≤ d := by omega) (hw : (st.map wcat).sum ≤ 8 := by exact Nat.le_of_ble_eq_true rfl) (K : SW g X own cc nx ls (vr ex :: st) V) : SW g X own cc pc ls (a1 :: a0 :: vr b :: st) V := S_callV (as := [a0, a1]) hD dd hl0 hm hr hc hd rfl rfl hw (fun r V1 h => by obtain ⟨rfl, rfl⟩ := h; exact K)
theorem S_V2B {idx d d' b : Nat} {M : MN} {a0 a1 : AV} {φ : Prop} (hD : Dp X d) (dd : DI cc pc (.invokevirtual idx) 3 nx) (hl0 : ML own idx M) (hm : MV M 2) (hr : rcv b M.1.cls) (hc : Ct g M d' (vr b :: [a0, a1]) V (RB V φ)) (hd : d' + 1 ≤ d := by omega) (hw : (st.map wcat).sum ≤ 8 := by exact Nat.le_of_ble_eq_true rfl) (kt : φ → SW g X own cc nx ls (vi 1 :: st) V) (kf : ¬ φ → SW g X own cc nx ls (vi 0 :: st) V) : SW g X own cc pc ls (a1 :: a0 :: vr b :: st) V := S_callV (as := [a0, a1]) hD dd hl0 hm hr hc hd rfl rfl hw (fun r V1 h => by obtain ⟨rfl, ⟨rfl, h⟩ | ⟨rfl, h⟩⟩ := h; exact kt h; exact kf h)
theorem S_V2W {idx d d' b : Nat} {M : MN} {a0 a1 : AV} {V2 : MM} (hD : Dp X d) (dd : DI cc pc (.invokevirtual idx) 3 nx) (hl0 : ML own idx M) (hm : MV M 2) (hr : rcv b M.1.cls) (hc : Ct g M d' (vr b :: [a0, a1]) V (RW V2)) (hd : d' + 1 ≤ d := by omega) (hw : (st.map wcat).sum ≤ 8 := by exact Nat.le_of_ble_eq_true rfl) (K : SW g X own cc nx ls st V2) : SW g X own cc pc ls (a1 :: a0 :: vr b :: st) V := S_callV (as := [a0, a1]) hD dd hl0 hm hr hc hd rfl rfl hw (fun r V1 h => by obtain ⟨rfl, rfl⟩ := h; exact K)
theorem S_V2L {idx d d' b : Nat} {M : MN} {a0 a1 : AV} {Pr : Int → MM → Prop} (hD : Dp X d) (dd : DI cc pc (.invokevirtual idx) 3 nx) (hl0 : ML own idx M) (hm : MV M 2) (hr : rcv b M.1.cls) (hc : Ct g M d' (vr b :: [a0, a1]) V (RLo Pr)) (hd : d' + 1 ≤ d := by omega) (hw : (st.map wcat).sum ≤ 8 := by exact Nat.le_of_ble_eq_true rfl) (kk : ∀ (z : Int) (V1 : MM), Pr z V1 → SW g X own cc nx ls (vl z :: st) V1) : SW g X own cc pc ls (a1 :: a0 :: vr b :: st) V := S_callV (as := [a0, a1]) hD dd hl0 hm hr hc hd rfl rfl hw (fun r V1 h => by obtain ⟨z, rfl, h⟩ := h; exact kk z V1 h)
theorem S_V2R {idx d d' b : Nat} {M : MN} {a0 a1 : AV} {Pr : Nat → MM → Prop} (hD : Dp X d) (dd : DI cc pc (.invokevirtual idx) 3 nx) (hl0 : ML own idx M) (hm : MV M 2) (hr : rcv b M.1.cls) (hc : Ct g M d' (vr b :: [a0, a1]) V (RR Pr)) (hd : d' + 1 ≤ d := by omega) (hw : (st.map wcat).sum ≤ 8 := by exact Nat.le_of_ble_eq_true rfl) (kk : ∀ (z : Nat) (V1 : MM), Pr z V1 → SW g X own cc nx ls (vr z :: st) V1) : SW g X own cc pc ls (a1 :: a0 :: vr b :: st) V := S_callV (as := [a0, a1]) hD dd hl0 hm hr hc hd rfl rfl hw (fun r V1 h => by obtain ⟨z, rfl, h⟩ := h; exact kk z V1 h)
theorem S_V2V {idx d d' b : Nat} {M : MN} {a0 a1 : AV} {Pr : MM → Prop} (hD : Dp X d) (dd : DI cc pc (.invokevirtual idx) 3 nx) (hl0 : ML own idx M) (hm : MV M 2) (hr : rcv b M.1.cls) (hc : Ct g M d' (vr b :: [a0, a1]) V (RV Pr)) (hd : d' + 1 ≤ d := by omega) (hw : (st.map wcat).sum ≤ 8 := by exact Nat.le_of_ble_eq_true rfl) (kk : ∀ (V1 : MM), Pr V1 → SW g X own cc nx ls st V1) : SW g X own cc pc ls (a1 :: a0 :: vr b :: st) V := S_callV (as := [a0, a1]) hD dd hl0 hm hr hc hd rfl rfl hw (fun r V1 h => by obtain ⟨rfl, h⟩ := h; exact kk V1 h)
theorem S_V3I {idx d d' b : Nat} {M : MN} {a0 a1 a2 : AV} {Pr : Int → MM → Prop} (hD : Dp X d) (dd : DI cc pc (.invokevirtual idx) 3 nx) (hl0 : ML own idx M) (hm : MV M 3) (hr : rcv b M.1.cls) (hc : Ct g M d' (vr b :: [a0, a1, a2]) V (RI Pr)) (hd : d' + 1 ≤ d := by omega) (hw : (st.map wcat).sum ≤ 8 := by exact Nat.le_of_ble_eq_true rfl) (kk : ∀ (z : Int) (V1 : MM), Pr z V1 → SW g X own cc nx ls (vi z :: st) V1) : SW g X own cc pc ls (a2 :: a1 :: a0 :: vr b :: st) V := S_callV (as := [a0, a1, a2]) hD dd hl0 hm hr hc hd rfl rfl hw (fun r V1 h => by obtain ⟨z, rfl, h⟩ := h; exact kk z V1 h)
theorem S_V3E {idx d d' b : Nat} {M : MN} {a0 a1 a2 : AV} {ex : Int} (hD : Dp X d) (dd : DI cc pc (.invokevirtual idx) 3 nx) (hl0 : ML own idx M) (hm : MV M 3) (hr : rcv b M.1.cls) (hc : Ct g M d' (vr b :: [a0, a1, a2]) V (RE V ex)) (hd : d' + 1 ≤ d := by omega) (hw : (st.map wcat).sum ≤ 8 := by exact Nat.le_of_ble_eq_true rfl) (K : SW g X own cc nx ls (vi ex :: st) V) : SW g X own cc pc ls (a2 :: a1 :: a0 :: vr b :: st) V := S_callV (as := [a0, a1, a2]) hD dd hl0 hm hr hc hd rfl rfl hw (fun r V1 h => by obtain ⟨rfl, rfl⟩ := h; exact K)
theorem S_V3EL {idx d d' b : Nat} {M : MN} {a0 a1 a2 : AV} {ex : Int} (hD : Dp X d) (dd : DI cc pc (.invokevirtual idx) 3 nx) (hl0 : ML own idx M) (hm : MV M 3) (hr : rcv b M.1.cls) (hc : Ct g M d' (vr b :: [a0, a1, a2]) V (REL V ex)) (hd : d' + 1 ≤ d := by omega) (hw : (st.map wcat).sum ≤ 8 := by exact Nat.le_of_ble_eq_true rfl) (K : SW g X own cc nx ls (vl ex :: st) V) : SW g X own cc pc ls (a2 :: a1 :: a0 :: vr b :: st) V := S_callV (as := [a0, a1, a2]) hD dd hl0 hm hr hc hd rfl rfl hw (fun r V1 h => by obtain ⟨rfl, rfl⟩ := h; exact K)
theorem S_V3ER {idx d d' b : Nat} {M : MN} {a0 a1 a2 : AV} {ex : Nat} (hD : Dp X d) (dd : DI cc pc (.invokevirtual idx) 3 nx) (hl0 : ML own idx M) (hm : MV M 3) (hr : rcv b M.1.cls) (hc : Ct g M d' (vr b :: [a0, a1, a2]) V (RER V ex)) (hd : d' + 1 ≤ d := by omega) (hw : (st.map wcat).sum ≤ 8 := by exact Nat.le_of_ble_eq_true rfl) (K : SW g X own cc nx ls (vr ex :: st) V) : SW g X own cc pc ls (a2 :: a1 :: a0 :: vr b :: st) V := S_callV (as := [a0, a1, a2]) hD dd hl0 hm hr hc hd rfl rfl hw (fun r V1 h => by obtain ⟨rfl, rfl⟩ := h; exact K)
theorem S_V3B {idx d d' b : Nat} {M : MN} {a0 a1 a2 : AV} {φ : Prop} (hD : Dp X d) (dd : DI cc pc (.invokevirtual idx) 3 nx) (hl0 : ML own idx M) (hm : MV M 3) (hr : rcv b M.1.cls) (hc : Ct g M d' (vr b :: [a0, a1, a2]) V (RB V φ)) (hd : d' + 1 ≤ d := by omega) (hw : (st.map wcat).sum ≤ 8 := by exact Nat.le_of_ble_eq_true rfl) (kt : φ → SW g X own cc nx ls (vi 1 :: st) V) (kf : ¬ φ → SW g X own cc nx ls (vi 0 :: st) V) : SW g X own cc pc ls (a2 :: a1 :: a0 :: vr b :: st) V := S_callV (as := [a0, a1, a2]) hD dd hl0 hm hr hc hd rfl rfl hw (fun r V1 h => by obtain ⟨rfl, ⟨rfl, h⟩ | ⟨rfl, h⟩⟩ := h; exact kt h; exact kf h)
theorem S_V3W {idx d d' b : Nat} {M : MN} {a0 a1 a2 : AV} {V2 : MM} (hD : Dp X d) (dd : DI cc pc (.invokevirtual idx) 3 nx) (hl0 : ML own idx M) (hm : MV M 3) (hr : rcv b M.1.cls) (hc : Ct g M d' (vr b :: [a0, a1, a2]) V (RW V2)) (hd : d' + 1 ≤ d := by omega) (hw : (st.map wcat).sum ≤ 8 := by exact Nat.le_of_ble_eq_true rfl) (K : SW g X own cc nx ls st V2) : SW g X own cc pc ls (a2 :: a1 :: a0 :: vr b :: st) V := S_callV (as := [a0, a1, a2]) hD dd hl0 hm hr hc hd rfl rfl hw (fun r V1 h => by obtain ⟨rfl, rfl⟩ := h; exact K)
theorem S_V3L {idx d d' b : Nat} {M : MN} {a0 a1 a2 : AV} {Pr : Int → MM → Prop} (hD : Dp X d) (dd : DI cc pc (.invokevirtual idx) 3 nx) (hl0 : ML own idx M) (hm : MV M 3) (hr : rcv b M.1.cls) (hc : Ct g M d' (vr b :: [a0, a1, a2]) V (RLo Pr)) (hd : d' + 1 ≤ d := by omega) (hw : (st.map wcat).sum ≤ 8 := by exact Nat.le_of_ble_eq_true rfl) (kk : ∀ (z : Int) (V1 : MM), Pr z V1 → SW g X own cc nx ls (vl z :: st) V1) : SW g X own cc pc ls (a2 :: a1 :: a0 :: vr b :: st) V := S_callV (as := [a0, a1, a2]) hD dd hl0 hm hr hc hd rfl rfl hw (fun r V1 h => by obtain ⟨z, rfl, h⟩ := h; exact kk z V1 h)
theorem S_V3R {idx d d' b : Nat} {M : MN} {a0 a1 a2 : AV} {Pr : Nat → MM → Prop} (hD : Dp X d) (dd : DI cc pc (.invokevirtual idx) 3 nx) (hl0 : ML own idx M) (hm : MV M 3) (hr : rcv b M.1.cls) (hc : Ct g M d' (vr b :: [a0, a1, a2]) V (RR Pr)) (hd : d' + 1 ≤ d := by omega) (hw : (st.map wcat).sum ≤ 8 := by exact Nat.le_of_ble_eq_true rfl) (kk : ∀ (z : Nat) (V1 : MM), Pr z V1 → SW g X own cc nx ls (vr z :: st) V1) : SW g X own cc pc ls (a2 :: a1 :: a0 :: vr b :: st) V := S_callV (as := [a0, a1, a2]) hD dd hl0 hm hr hc hd rfl rfl hw (fun r V1 h => by obtain ⟨z, rfl, h⟩ := h; exact kk z V1 h)
theorem S_V3V {idx d d' b : Nat} {M : MN} {a0 a1 a2 : AV} {Pr : MM → Prop} (hD : Dp X d) (dd : DI cc pc (.invokevirtual idx) 3 nx) (hl0 : ML own idx M) (hm : MV M 3) (hr : rcv b M.1.cls) (hc : Ct g M d' (vr b :: [a0, a1, a2]) V (RV Pr)) (hd : d' + 1 ≤ d := by omega) (hw : (st.map wcat).sum ≤ 8 := by exact Nat.le_of_ble_eq_true rfl) (kk : ∀ (V1 : MM), Pr V1 → SW g X own cc nx ls st V1) : SW g X own cc pc ls (a2 :: a1 :: a0 :: vr b :: st) V := S_callV (as := [a0, a1, a2]) hD dd hl0 hm hr hc hd rfl rfl hw (fun r V1 h => by obtain ⟨rfl, h⟩ := h; exact kk V1 h)
theorem S_V4I {idx d d' b : Nat} {M : MN} {a0 a1 a2 a3 : AV} {Pr : Int → MM → Prop} (hD : Dp X d) (dd : DI cc pc (.invokevirtual idx) 3 nx) (hl0 : ML own idx M) (hm : MV M 4) (hr : rcv b M.1.cls) (hc : Ct g M d' (vr b :: [a0, a1, a2, a3]) V (RI Pr)) (hd : d' + 1 ≤ d := by omega) (hw : (st.map wcat).sum ≤ 8 := by exact Nat.le_of_ble_eq_true rfl) (kk : ∀ (z : Int) (V1 : MM), Pr z V1 → SW g X own cc nx ls (vi z :: st) V1) : SW g X own cc pc ls (a3 :: a2 :: a1 :: a0 :: vr b :: st) V := S_callV (as := [a0, a1, a2, a3]) hD dd hl0 hm hr hc hd rfl rfl hw (fun r V1 h => by obtain ⟨z, rfl, h⟩ := h; exact kk z V1 h)
theorem S_V4E {idx d d' b : Nat} {M : MN} {a0 a1 a2 a3 : AV} {ex : Int} (hD : Dp X d) (dd : DI cc pc (.invokevirtual idx) 3 nx) (hl0 : ML own idx M) (hm : MV M 4) (hr : rcv b M.1.cls) (hc : Ct g M d' (vr b :: [a0, a1, a2, a3]) V (RE V ex)) (hd : d' + 1 ≤ d := by omega) (hw : (st.map wcat).sum ≤ 8 := by exact Nat.le_of_ble_eq_true rfl) (K : SW g X own cc nx ls (vi ex :: st) V) : SW g X own cc pc ls (a3 :: a2 :: a1 :: a0 :: vr b :: st) V := S_callV (as := [a0, a1, a2, a3]) hD dd hl0 hm hr hc hd rfl rfl hw (fun r V1 h => by obtain ⟨rfl, rfl⟩ := h; exact K)
theorem S_V4EL {idx d d' b : Nat} {M : MN} {a0 a1 a2 a3 : AV} {ex : Int} (hD : Dp X d) (dd : DI cc pc (.invokevirtual idx) 3 nx) (hl0 : ML own idx M) (hm : MV M 4) (hr : rcv b M.1.cls) (hc : Ct g M d' (vr b :: [a0, a1, a2, a3]) V (REL V ex)) (hd : d' + 1 ≤ d := by omega) (hw : (st.map wcat).sum ≤ 8 := by exact Nat.le_of_ble_eq_true rfl) (K : SW g X own cc nx ls (vl ex :: st) V) : SW g X own cc pc ls (a3 :: a2 :: a1 :: a0 :: vr b :: st) V := S_callV (as := [a0, a1, a2, a3]) hD dd hl0 hm hr hc hd rfl rfl hw (fun r V1 h => by obtain ⟨rfl, rfl⟩ := h; exact K)
theorem S_V4ER {idx d d' b : Nat} {M : MN} {a0 a1 a2 a3 : AV} {ex : Nat} (hD : Dp X d) (dd : DI cc pc (.invokevirtual idx) 3 nx) (hl0 : ML own idx M) (hm : MV M 4) (hr : rcv b M.1.cls) (hc : Ct g M d' (vr b :: [a0, a1, a2, a3]) V (RER V ex)) (hd : d' + 1 ≤ d := by omega) (hw : (st.map wcat).sum ≤ 8 := by exact Nat.le_of_ble_eq_true rfl) (K : SW g X own cc nx ls (vr ex :: st) V) : SW g X own cc pc ls (a3 :: a2 :: a1 :: a0 :: vr b :: st) V := S_callV (as := [a0, a1, a2, a3]) hD dd hl0 hm hr hc hd rfl rfl hw (fun r V1 h => by obtain ⟨rfl, rfl⟩ := h; exact K)
theorem S_V4B {idx d d' b : Nat} {M : MN} {a0 a1 a2 a3 : AV} {φ : Prop} (hD : Dp X d) (dd : DI cc pc (.invokevirtual idx) 3 nx) (hl0 : ML own idx M) (hm : MV M 4) (hr : rcv b M.1.cls) (hc : Ct g M d' (vr b :: [a0, a1, a2, a3]) V (RB V φ)) (hd : d' + 1 ≤ d := by omega) (hw : (st.map wcat).sum ≤ 8 := by exact Nat.le_of_ble_eq_true rfl) (kt : φ → SW g X own cc nx ls (vi 1 :: st) V) (kf : ¬ φ → SW g X own cc nx ls (vi 0 :: st) V) : SW g X own cc pc ls (a3 :: a2 :: a1 :: a0 :: vr b :: st) V := S_callV (as := [a0, a1, a2, a3]) hD dd hl0 hm hr hc hd rfl rfl hw (fun r V1 h => by obtain ⟨rfl, ⟨rfl, h⟩ | ⟨rfl, h⟩⟩ := h; exact kt h; exact kf h)
theorem S_V4W {idx d d' b : Nat} {M : MN} {a0 a1 a2 a3 : AV} {V2 : MM} (hD : Dp X d) (dd : DI cc pc (.invokevirtual idx) 3 nx) (hl0 : ML own idx M) (hm : MV M 4) (hr : rcv b M.1.cls) (hc : Ct g M d' (vr b :: [a0, a1, a2, a3]) V (RW V2)) (hd : d' + 1 ≤ d := by omega) (hw : (st.map wcat).sum ≤ 8 := by exact Nat.le_of_ble_eq_true rfl) (K : SW g X own cc nx ls st V2) : SW g X own cc pc ls (a3 :: a2 :: a1 :: a0 :: vr b :: st) V := S_callV (as := [a0, a1, a2, a3]) hD dd hl0 hm hr hc hd rfl rfl hw (fun r V1 h => by obtain ⟨rfl, rfl⟩ := h; exact K)
theorem S_V4L {idx d d' b : Nat} {M : MN} {a0 a1 a2 a3 : AV} {Pr : Int → MM → Prop} (hD : Dp X d) (dd : DI cc pc (.invokevirtual idx) 3 nx) (hl0 : ML own idx M) (hm : MV M 4) (hr : rcv b M.1.cls) (hc : Ct g M d' (vr b :: [a0, a1, a2, a3]) V (RLo Pr)) (hd : d' + 1 ≤ d := by omega) (hw : (st.map wcat).sum ≤ 8 := by exact Nat.le_of_ble_eq_true rfl) (kk : ∀ (z : Int) (V1 : MM), Pr z V1 → SW g X own cc nx ls (vl z :: st) V1) : SW g X own cc pc ls (a3 :: a2 :: a1 :: a0 :: vr b :: st) V := S_callV (as := [a0, a1, a2, a3]) hD dd hl0 hm hr hc hd rfl rfl hw (fun r V1 h => by obtain ⟨z, rfl, h⟩ := h; exact kk z V1 h)
theorem S_V4R {idx d d' b : Nat} {M : MN} {a0 a1 a2 a3 : AV} {Pr : Nat → MM → Prop} (hD : Dp X d) (dd : DI cc pc (.invokevirtual idx) 3 nx) (hl0 : ML own idx M) (hm : MV M 4) (hr : rcv b M.1.cls) (hc : Ct g M d' (vr b :: [a0, a1, a2, a3]) V (RR Pr)) (hd : d' + 1 ≤ d := by omega) (hw : (st.map wcat).sum ≤ 8 := by exact Nat.le_of_ble_eq_true rfl) (kk : ∀ (z : Nat) (V1 : MM), Pr z V1 → SW g X own cc nx ls (vr z :: st) V1) : SW g X own cc pc ls (a3 :: a2 :: a1 :: a0 :: vr b :: st) V := S_callV (as := [a0, a1, a2, a3]) hD dd hl0 hm hr hc hd rfl rfl hw (fun r V1 h => by obtain ⟨z, rfl, h⟩ := h; exact kk z V1 h)
theorem S_V4V {idx d d' b : Nat} {M : MN} {a0 a1 a2 a3 : AV} {Pr : MM → Prop} (hD : Dp X d) (dd : DI cc pc (.invokevirtual idx) 3 nx) (hl0 : ML own idx M) (hm : MV M 4) (hr : rcv b M.1.cls) (hc : Ct g M d' (vr b :: [a0, a1, a2, a3]) V (RV Pr)) (hd : d' + 1 ≤ d := by omega) (hw : (st.map wcat).sum ≤ 8 := by exact Nat.le_of_ble_eq_true rfl) (kk : ∀ (V1 : MM), Pr V1 → SW g X own cc nx ls st V1) : SW g X own cc pc ls (a3 :: a2 :: a1 :: a0 :: vr b :: st) V := S_callV (as := [a0, a1, a2, a3]) hD dd hl0 hm hr hc hd rfl rfl hw (fun r V1 h => by obtain ⟨rfl, h⟩ := h; exact kk V1 h)
theorem S_V5I {idx d d' b : Nat} {M : MN} {a0 a1 a2 a3 a4 : AV} {Pr : Int → MM → Prop} (hD : Dp X d) (dd : DI cc pc (.invokevirtual idx) 3 nx) (hl0 : ML own idx M) (hm : MV M 5) (hr : rcv b M.1.cls) (hc : Ct g M d' (vr b :: [a0, a1, a2, a3, a4]) V (RI Pr)) (hd : d' + 1 ≤ d := by omega) (hw : (st.map wcat).sum ≤ 8 := by exact Nat.le_of_ble_eq_true rfl) (kk : ∀ (z : Int) (V1 : MM), Pr z V1 → SW g X own cc nx ls (vi z :: st) V1) : SW g X own cc pc ls (a4 :: a3 :: a2 :: a1 :: a0 :: vr b :: st) V := S_callV (as := [a0, a1, a2, a3, a4]) hD dd hl0 hm hr hc hd rfl rfl hw (fun r V1 h => by obtain ⟨z, rfl, h⟩ := h; exact kk z V1 h)
theorem S_V5E {idx d d' b : Nat} {M : MN} {a0 a1 a2 a3 a4 : AV} {ex : Int} (hD : Dp X d) (dd : DI cc pc (.invokevirtual idx) 3 nx) (hl0 : ML own idx M) (hm : MV M 5) (hr : rcv b M.1.cls) (hc : Ct g M d' (vr b :: [a0, a1, a2, a3, a4]) V (RE V ex)) (hd : d' + 1 ≤ d := by omega) (hw : (st.map wcat).sum ≤ 8 := by exact Nat.le_of_ble_eq_true rfl) (K : SW g X own cc nx ls (vi ex :: st) V) : SW g X own cc pc ls (a4 :: a3 :: a2 :: a1 :: a0 :: vr b :: st) V := S_callV (as := [a0, a1, a2, a3, a4]) hD dd hl0 hm hr hc hd rfl rfl hw (fun r V1 h => by obtain ⟨rfl, rfl⟩ := h; exact K)
theorem S_V5EL {idx d d' b : Nat} {M : MN} {a0 a1 a2 a3 a4 : AV} {ex : Int} (hD : Dp X d) (dd : DI cc pc (.invokevirtual idx) 3 nx) (hl0 : ML own idx M) (hm : MV M 5) (hr : rcv b M.1.cls) (hc : Ct g M d' (vr b :: [a0, a1, a2, a3, a4]) V (REL V ex)) (hd : d' + 1 ≤ d := by omega) (hw : (st.map wcat).sum ≤ 8 := by exact Nat.le_of_ble_eq_true rfl) (K : SW g X own cc nx ls (vl ex :: st) V) : SW g X own cc pc ls (a4 :: a3 :: a2 :: a1 :: a0 :: vr b :: st) V := S_callV (as := [a0, a1, a2, a3, a4]) hD dd hl0 hm hr hc hd rfl rfl hw (fun r V1 h => by obtain ⟨rfl, rfl⟩ := h; exact K)
theorem S_V5ER {idx d d' b : Nat} {M : MN} {a0 a1 a2 a3 a4 : AV} {ex : Nat} (hD : Dp X d) (dd : DI cc pc (.invokevirtual idx) 3 nx) (hl0 : ML own idx M) (hm : MV M 5) (hr : rcv b M.1.cls) (hc : Ct g M d' (vr b :: [a0, a1, a2, a3, a4]) V (RER V ex)) (hd : d' + 1 ≤ d := by omega) (hw : (st.map wcat).sum ≤ 8 := by exact Nat.le_of_ble_eq_true rfl) (K : SW g X own cc nx ls (vr ex :: st) V) : SW g X own cc pc ls (a4 :: a3 :: a2 :: a1 :: a0 :: vr b :: st) V := S_callV (as := [a0, a1, a2, a3, a4]) hD dd hl0 hm hr hc hd rfl rfl hw (fun r V1 h => by obtain ⟨rfl, rfl⟩ := h; exact K)
theorem S_V5B {idx d d' b : Nat} {M : MN} {a0 a1 a2 a3 a4 : AV} {φ : Prop} (hD : Dp X d) (dd : DI cc pc (.invokevirtual idx) 3 nx) (hl0 : ML own idx M) (hm : MV M 5) (hr : rcv b M.1.cls) (hc : Ct g M d' (vr b :: [a0, a1, a2, a3, a4]) V (RB V φ)) (hd : d' + 1 ≤ d := by omega) (hw : (st.map wcat).sum ≤ 8 := by exact Nat.le_of_ble_eq_true rfl) (kt : φ → SW g X own cc nx ls (vi 1 :: st) V) (kf : ¬ φ → SW g X own cc nx ls (vi 0 :: st) V) : SW g X own cc pc ls (a4 :: a3 :: a2 :: a1 :: a0 :: vr b :: st) V := S_callV (as := [a0, a1, a2, a3, a4]) hD dd hl0 hm hr hc hd rfl rfl hw (fun r V1 h => by obtain ⟨rfl, ⟨rfl, h⟩ | ⟨rfl, h⟩⟩ := h; exact kt h; exact kf h)
theorem S_V5W {idx d d' b : Nat} {M : MN} {a0 a1 a2 a3 a4 : AV} {V2 : MM} (hD : Dp X d) (dd : DI cc pc (.invokevirtual idx) 3 nx) (hl0 : ML own idx M) (hm : MV M 5) (hr : rcv b M.1.cls) (hc : Ct g M d' (vr b :: [a0, a1, a2, a3, a4]) V (RW V2)) (hd : d' + 1 ≤ d := by omega) (hw : (st.map wcat).sum ≤ 8 := by exact Nat.le_of_ble_eq_true rfl) (K : SW g X own cc nx ls st V2) : SW g X own cc pc ls (a4 :: a3 :: a2 :: a1 :: a0 :: vr b :: st) V := S_callV (as := [a0, a1, a2, a3, a4]) hD dd hl0 hm hr hc hd rfl rfl hw (fun r V1 h => by obtain ⟨rfl, rfl⟩ := h; exact K)
theorem S_V5L {idx d d' b : Nat} {M : MN} {a0 a1 a2 a3 a4 : AV} {Pr : Int → MM → Prop} (hD : Dp X d) (dd : DI cc pc (.invokevirtual idx) 3 nx) (hl0 : ML own idx M) (hm : MV M 5) (hr : rcv b M.1.cls) (hc : Ct g M d' (vr b :: [a0, a1, a2, a3, a4]) V (RLo Pr)) (hd : d' + 1 ≤ d := by omega) (hw : (st.map wcat).sum ≤ 8 := by exact Nat.le_of_ble_eq_true rfl) (kk : ∀ (z : Int) (V1 : MM), Pr z V1 → SW g X own cc nx ls (vl z :: st) V1) : SW g X own cc pc ls (a4 :: a3 :: a2 :: a1 :: a0 :: vr b :: st) V := S_callV (as := [a0, a1, a2, a3, a4]) hD dd hl0 hm hr hc hd rfl rfl hw (fun r V1 h => by obtain ⟨z, rfl, h⟩ := h; exact kk z V1 h)
theorem S_V5R {idx d d' b : Nat} {M : MN} {a0 a1 a2 a3 a4 : AV} {Pr : Nat → MM → Prop} (hD : Dp X d) (dd : DI cc pc (.invokevirtual idx) 3 nx) (hl0 : ML own idx M) (hm : MV M 5) (hr : rcv b M.1.cls) (hc : Ct g M d' (vr b :: [a0, a1, a2, a3, a4]) V (RR Pr)) (hd : d' + 1 ≤ d := by omega) (hw : (st.map wcat).sum ≤ 8 := by exact Nat.le_of_ble_eq_true rfl) (kk : ∀ (z : Nat) (V1 : MM), Pr z V1 → SW g X own cc nx ls (vr z :: st) V1) : SW g X own cc pc ls (a4 :: a3 :: a2 :: a1 :: a0 :: vr b :: st) V := S_callV (as := [a0, a1, a2, a3, a4]) hD dd hl0 hm hr hc hd rfl rfl hw (fun r V1 h => by obtain ⟨z, rfl, h⟩ := h; exact kk z V1 h)
theorem S_V5V {idx d d' b : Nat} {M : MN} {a0 a1 a2 a3 a4 : AV} {Pr : MM → Prop} (hD : Dp X d) (dd : DI cc pc (.invokevirtual idx) 3 nx) (hl0 : ML own idx M) (hm : MV M 5) (hr : rcv b M.1.cls) (hc : Ct g M d' (vr b :: [a0, a1, a2, a3, a4]) V (RV Pr)) (hd : d' + 1 ≤ d := by omega) (hw : (st.map wcat).sum ≤ 8 := by exact Nat.le_of_ble_eq_true rfl) (kk : ∀ (V1 : MM), Pr V1 → SW g X own cc nx ls st V1) : SW g X own cc pc ls (a4 :: a3 :: a2 :: a1 :: a0 :: vr b :: st) V := S_callV (as := [a0, a1, a2, a3, a4]) hD dd hl0 hm hr hc hd rfl rfl hw (fun r V1 h => by obtain ⟨rfl, h⟩ := h; exact kk V1 h)
theorem S_V6I {idx d d' b : Nat} {M : MN} {a0 a1 a2 a3 a4 a5 : AV} {Pr : Int → MM → Prop} (hD : Dp X d) (dd : DI cc pc (.invokevirtual idx) 3 nx) (hl0 : ML own idx M) (hm : MV M 6) (hr : rcv b M.1.cls) (hc : Ct g M d' (vr b :: [a0, a1, a2, a3, a4, a5]) V (RI Pr)) (hd : d' + 1 ≤ d := by omega) (hw : (st.map wcat).sum ≤ 8 := by exact Nat.le_of_ble_eq_true rfl) (kk : ∀ (z : Int) (V1 : MM), Pr z V1 → SW g X own cc nx ls (vi z :: st) V1) : SW g X own cc pc ls (a5 :: a4 :: a3 :: a2 :: a1 :: a0 :: vr b :: st) V := S_callV (as := [a0, a1, a2, a3, a4, a5]) hD dd hl0 hm hr hc hd rfl rfl hw (fun r V1 h => by obtain ⟨z, rfl, h⟩ := h; exact kk z V1 h)
theorem S_V6E {idx d d' b : Nat} {M : MN} {a0 a1 a2 a3 a4 a5 : AV} {ex : Int} (hD : Dp X d) (dd : DI cc pc (.invokevirtual idx) 3 nx) (hl0 : ML own idx M) (hm : MV M 6) (hr : rcv b M.1.cls) (hc : Ct g M d' (vr b :: [a0, a1, a2, a3, a4, a5]) V (RE V ex)) (hd : d' + 1 ≤ d := by omega) (hw : (st.map wcat).sum ≤ 8 := by exact Nat.le_of_ble_eq_true rfl) (K : SW g X own cc nx ls (vi ex :: st) V) : SW g X own cc pc ls (a5 :: a4 :: a3 :: a2 :: a1 :: a0 :: vr b :: st) V := S_callV (as := [a0, a1, a2, a3, a4, a5]) hD dd hl0 hm hr hc hd rfl rfl hw (fun r V1 h => by obtain ⟨rfl, rfl⟩ := h; exact K)
theorem S_V6EL {idx d d' b : Nat} {M : MN} {a0 a1 a2 a3 a4 a5 : AV} {ex : Int} (hD : Dp X d) (dd : DI cc pc (.invokevirtual idx) 3 nx) (hl0 : ML own idx M) (hm : MV M 6) (hr : rcv b M.1.cls) (hc : Ct g M d' (vr b :: [a0, a1, a2, a3, a4, a5]) V (REL V ex)) (hd : d' + 1 ≤ d := by omega) (hw : (st.map wcat).sum ≤ 8 := by exact Nat.le_of_ble_eq_true rfl) (K : SW g X own cc nx ls (vl ex :: st) V) : SW g X own cc pc ls (a5 :: a4 :: a3 :: a2 :: a1 :: a0 :: vr b :: st) V := S_callV (as := [a0, a1, a2, a3, a4, a5]) hD dd hl0 hm hr hc hd rfl rfl hw (fun r V1 h => by obtain ⟨rfl, rfl⟩ := h; exact K)
theorem S_V6ER {idx d d' b : Nat} {M : MN} {a0 a1 a2 a3 a4 a5 : AV} {ex : Nat} (hD : Dp X d) (dd : DI cc pc (.invokevirtual idx) 3 nx) (hl0 : ML own idx M) (hm : MV M 6) (hr : rcv b M.1.cls) (hc : Ct g M d' (vr b :: [a0, a1, a2, a3, a4, a5]) V (RER V ex)) (hd : d' + 1 ≤ d := by omega) (hw : (st.map wcat).sum ≤ 8 := by exact Nat.le_of_ble_eq_true rfl) (K : SW g X own cc nx ls (vr ex :: st) V) : SW g X own cc pc ls (a5 :: a4 :: a3 :: a2 :: a1 :: a0 :: vr b :: st) V := S_callV (as := [a0, a1, a2, a3, a4, a5]) hD dd hl0 hm hr hc hd rfl rfl hw (fun r V1 h => by obtain ⟨rfl, rfl⟩ := h; exact K)
theorem S_V6B {idx d d' b : Nat} {M : MN} {a0 a1 a2 a3 a4 a5 : AV} {φ : Prop} (hD : Dp X d) (dd : DI cc pc (.invokevirtual idx) 3 nx) (hl0 : ML own idx M) (hm : MV M 6) (hr : rcv b M.1.cls) (hc : Ct g M d' (vr b :: [a0, a1, a2, a3, a4, a5]) V (RB V φ)) (hd : d' + 1 ≤ d := by omega) (hw : (st.map wcat).sum ≤ 8 := by exact Nat.le_of_ble_eq_true rfl) (kt : φ → SW g X own cc nx ls (vi 1 :: st) V) (kf : ¬ φ → SW g X own cc nx ls (vi 0 :: st) V) : SW g X own cc pc ls (a5 :: a4 :: a3 :: a2 :: a1 :: a0 :: vr b :: st) V := S_callV (as := [a0, a1, a2, a3, a4, a5]) hD dd hl0 hm hr hc hd rfl rfl hw (fun r V1 h => by obtain ⟨rfl, ⟨rfl, h⟩ | ⟨rfl, h⟩⟩ := h; exact kt h; exact kf h)
theorem S_V6W {idx d d' b : Nat} {M : MN} {a0 a1 a2 a3 a4 a5 : AV} {V2 : MM} (hD : Dp X d) (dd : DI cc pc (.invokevirtual idx) 3 nx) (hl0 : ML own idx M) (hm : MV M 6) (hr : rcv b M.1.cls) (hc : Ct g M d' (vr b :: [a0, a1, a2, a3, a4, a5]) V (RW V2)) (hd : d' + 1 ≤ d := by omega) (hw : (st.map wcat).sum ≤ 8 := by exact Nat.le_of_ble_eq_true rfl) (K : SW g X own cc nx ls st V2) : SW g X own cc pc ls (a5 :: a4 :: a3 :: a2 :: a1 :: a0 :: vr b :: st) V := S_callV (as := [a0, a1, a2, a3, a4, a5]) hD dd hl0 hm hr hc hd rfl rfl hw (fun r V1 h => by obtain ⟨rfl, rfl⟩ := h; exact K)
theorem S_V6L {idx d d' b : Nat} {M : MN} {a0 a1 a2 a3 a4 a5 : AV} {Pr : Int → MM → Prop} (hD : Dp X d) (dd : DI cc pc (.invokevirtual idx) 3 nx) (hl0 : ML own idx M) (hm : MV M 6) (hr : rcv b M.1.cls) (hc : Ct g M d' (vr b :: [a0, a1, a2, a3, a4, a5]) V (RLo Pr)) (hd : d' + 1 ≤ d := by omega) (hw : (st.map wcat).sum ≤ 8 := by exact Nat.le_of_ble_eq_true rfl) (kk : ∀ (z : Int) (V1 : MM), Pr z V1 → SW g X own cc nx ls (vl z :: st) V1) : SW g X own cc pc ls (a5 :: a4 :: a3 :: a2 :: a1 :: a0 :: vr b :: st) V := S_callV (as := [a0, a1, a2, a3, a4, a5]) hD dd hl0 hm hr hc hd rfl rfl hw (fun r V1 h => by obtain ⟨z, rfl, h⟩ := h; exact kk z V1 h)
theorem S_V6R {idx d d' b : Nat} {M : MN} {a0 a1 a2 a3 a4 a5 : AV} {Pr : Nat → MM → Prop} (hD : Dp X d) (dd : DI cc pc (.invokevirtual idx) 3 nx) (hl0 : ML own idx M) (hm : MV M 6) (hr : rcv b M.1.cls) (hc : Ct g M d' (vr b :: [a0, a1, a2, a3, a4, a5]) V (RR Pr)) (hd : d' + 1 ≤ d := by omega) (hw : (st.map wcat).sum ≤ 8 := by exact Nat.le_of_ble_eq_true rfl) (kk : ∀ (z : Nat) (V1 : MM), Pr z V1 → SW g X own cc nx ls (vr z :: st) V1) : SW g X own cc pc ls (a5 :: a4 :: a3 :: a2 :: a1 :: a0 :: vr b :: st) V := S_callV (as := [a0, a1, a2, a3, a4, a5]) hD dd hl0 hm hr hc hd rfl rfl hw (fun r V1 h => by obtain ⟨z, rfl, h⟩ := h; exact kk z V1 h)
theorem S_V6V {idx d d' b : Nat} {M : MN} {a0 a1 a2 a3 a4 a5 : AV} {Pr : MM → Prop} (hD : Dp X d) (dd : DI cc pc (.invokevirtual idx) 3 nx) (hl0 : ML own idx M) (hm : MV M 6) (hr : rcv b M.1.cls) (hc : Ct g M d' (vr b :: [a0, a1, a2, a3, a4, a5]) V (RV Pr)) (hd : d' + 1 ≤ d := by omega) (hw : (st.map wcat).sum ≤ 8 := by exact Nat.le_of_ble_eq_true rfl) (kk : ∀ (V1 : MM), Pr V1 → SW g X own cc nx ls st V1) : SW g X own cc pc ls (a5 :: a4 :: a3 :: a2 :: a1 :: a0 :: vr b :: st) V := S_callV (as := [a0, a1, a2, a3, a4, a5]) hD dd hl0 hm hr hc hd rfl rfl hw (fun r V1 h => by obtain ⟨rfl, h⟩ := h; exact kk V1 h)
theorem S_S1I {idx d d' : Nat} {M : MN} {a0 : AV} {Pr : Int → MM → Prop} (hD : Dp X d) (dd : DI cc pc (.invokestatic idx) 3 nx) (hl0 : ML own idx M) (hm : MS M 1) (hc : Ct g M d' [a0] V (RI Pr)) (hd : d' + 1 ≤ d := by omega) (hw : (st.map wcat).sum ≤ 8 := by exact Nat.le_of_ble_eq_true rfl) (kk : ∀ (z : Int) (V1 : MM), Pr z V1 → SW g X own cc nx ls (vi z :: st) V1) : SW g X own cc pc ls (a0 :: st) V := S_callS (as := [a0]) hD dd hl0 hm hc hd rfl rfl hw (fun r V1 h => by obtain ⟨z, rfl, h⟩ := h; exact kk z V1 h)
theorem S_S1E {idx d d' : Nat} {M : MN} {a0 : AV} {ex : Int} (hD : Dp X d) (dd : DI cc pc (.invokestatic idx) 3 nx) (hl0 : ML own idx M) (hm : MS M 1) (hc : Ct g M d' [a0] V (RE V ex)) (hd : d' + 1 ≤ d := by omega) (hw : (st.map wcat).sum ≤ 8 := by exact Nat.le_of_ble_eq_true rfl) (K : SW g X own cc nx ls (vi ex :: st) V) : SW g X own cc pc ls (a0 :: st) V := S_callS (as := [a0]) hD dd hl0 hm hc hd rfl rfl hw (fun r V1 h => by obtain ⟨rfl, rfl⟩ := h; exact K)
theorem S_S1EL {idx d d' : Nat} {M : MN} {a0 : AV} {ex : Int} (hD : Dp X d) (dd : DI cc pc (.invokestatic idx) 3 nx) (hl0 : ML own idx M) (hm : MS M 1) (hc : Ct g M d' [a0] V (REL V ex)) (hd : d' + 1 ≤ d := by omega) (hw : (st.map wcat).sum ≤ 8 := by exact Nat.le_of_ble_eq_true rfl) (K : SW g X own cc nx ls (vl ex :: st) V) : SW g X own cc pc ls (a0 :: st) V := S_callS (as := [a0]) hD dd hl0 hm hc hd rfl rfl hw (fun r V1 h => by obtain ⟨rfl, rfl⟩ := h; exact K)
theorem S_S1ER {idx d d' : Nat} {M : MN} {a0 : AV} {ex : Nat} (hD : Dp X d) (dd : DI cc pc (.invokestatic idx) 3 nx) (hl0 : ML own idx M) (hm : MS M 1) (hc : Ct g M d' [a0] V (RER V ex)) (hd : d' + 1 ≤ d := by omega) (hw : (st.map wcat).sum ≤ 8 := by exact Nat.le_of_ble_eq_true rfl) (K : SW g X own cc nx ls (vr ex :: st) V) : SW g X own cc pc ls (a0 :: st) V := S_callS (as := [a0]) hD dd hl0 hm hc hd rfl rfl hw (fun r V1 h => by obtain ⟨rfl, rfl⟩ := h; exact K)
theorem S_S1B {idx d d' : Nat} {M : MN} {a0 : AV} {φ : Prop} (hD : Dp X d) (dd : DI cc pc (.invokestatic idx) 3 nx) (hl0 : ML own idx M) (hm : MS M 1) (hc : Ct g M d' [a0] V (RB V φ)) (hd : d' + 1 ≤ d := by omega) (hw : (st.map wcat).sum ≤ 8 := by exact Nat.le_of_ble_eq_true rfl) (kt : φ → SW g X own cc nx ls (vi 1 :: st) V) (kf : ¬ φ → SW g X own cc nx ls (vi 0 :: st) V) : SW g X own cc pc ls (a0 :: st) V := S_callS (as := [a0]) hD dd hl0 hm hc hd rfl rfl hw (fun r V1 h => by obtain ⟨rfl, ⟨rfl, h⟩ | ⟨rfl, h⟩⟩ := h; exact kt h; exact kf h)
theorem S_S1W {idx d d' : Nat} {M : MN} {a0 : AV} {V2 : MM} (hD : Dp X d) (dd : DI cc pc (.invokestatic idx) 3 nx) (hl0 : ML own idx M) (hm : MS M 1) (hc : Ct g M d' [a0] V (RW V2)) (hd : d' + 1 ≤ d := by omega) (hw : (st.map wcat).sum ≤ 8 := by exact Nat.le_of_ble_eq_true rfl) (K : SW g X own cc nx ls st V2) : SW g X own cc pc ls (a0 :: st) V := S_callS (as := [a0]) hD dd hl0 hm hc hd rfl rfl hw (fun r V1 h => by obtain ⟨rfl, rfl⟩ := h; exact K)
theorem S_S1L {idx d d' : Nat} {M : MN} {a0 : AV} {Pr : Int → MM → Prop} (hD : Dp X d) (dd : DI cc pc (.invokestatic idx) 3 nx) (hl0 : ML own idx M) (hm : MS M 1) (hc : Ct g M d' [a0] V (RLo Pr)) (hd : d' + 1 ≤ d := by omega) (hw : (st.map wcat).sum ≤ 8 := by exact Nat.le_of_ble_eq_true rfl) (kk : ∀ (z : Int) (V1 : MM), Pr z V1 → SW g X own cc nx ls (vl z :: st) V1) : SW g X own cc pc ls (a0 :: st) V := S_callS (as := [a0]) hD dd hl0 hm hc hd rfl rfl hw (fun r V1 h => by obtain ⟨z, rfl, h⟩ := h; exact kk z V1 h)
theorem S_S1R {idx d d' : Nat} {M : MN} {a0 : AV} {Pr : Nat → MM → Prop} (hD : Dp X d) (dd : DI cc pc (.invokestatic idx) 3 nx) (hl0 : ML own idx M) (hm : MS M 1) (hc : Ct g M d' [a0] V (RR Pr)) (hd : d' + 1 ≤ d := by omega) (hw : (st.map wcat).sum ≤ 8 := by exact Nat.le_of_ble_eq_true rfl) (kk : ∀ (z : Nat) (V1 : MM), Pr z V1 → SW g X own cc nx ls (vr z :: st) V1) : SW g X own cc pc ls (a0 :: st) V := S_callS (as := [a0]) hD dd hl0 hm hc hd rfl rfl hw (fun r V1 h => by obtain ⟨z, rfl, h⟩ := h; exact kk z V1 h)
theorem S_S1V {idx d d' : Nat} {M : MN} {a0 : AV} {Pr : MM → Prop} (hD : Dp X d) (dd : DI cc pc (.invokestatic idx) 3 nx) (hl0 : ML own idx M) (hm : MS M 1) (hc : Ct g M d' [a0] V (RV Pr)) (hd : d' + 1 ≤ d := by omega) (hw : (st.map wcat).sum ≤ 8 := by exact Nat.le_of_ble_eq_true rfl) (kk : ∀ (V1 : MM), Pr V1 → SW g X own cc nx ls st V1) : SW g X own cc pc ls (a0 :: st) V := S_callS (as := [a0]) hD dd hl0 hm hc hd rfl rfl hw (fun r V1 h => by obtain ⟨rfl, h⟩ := h; exact kk V1 h)
theorem S_S2I {idx d d' : Nat} {M : MN} {a0 a1 : AV} {Pr : Int → MM → Prop} (hD : Dp X d) (dd : DI cc pc (.invokestatic idx) 3 nx) (hl0 : ML own idx M) (hm : MS M 2) (hc : Ct g M d' [a0, a1] V (RI Pr)) (hd : d' + 1 ≤ d := by omega) (hw : (st.map wcat).sum ≤ 8 := by exact Nat.le_of_ble_eq_true rfl) (kk : ∀ (z : Int) (V1 : MM), Pr z V1 → SW g X own cc nx ls (vi z :: st) V1) : SW g X own cc pc ls (a1 :: a0 :: st) V := S_callS (as := [a0, a1]) hD dd hl0 hm hc hd rfl rfl hw (fun r V1 h => by obtain ⟨z, rfl, h⟩ := h; exact kk z V1 h)
theorem S_S2E {idx d d' : Nat} {M : MN} {a0 a1 : AV} {ex : Int} (hD : Dp X d) (dd : DI cc pc (.invokestatic idx) 3 nx) (hl0 : ML own idx M) (hm : MS M 2) (hc : Ct g M d' [a0, a1] V (RE V ex)) (hd : d' + 1 ≤ d := by omega) (hw : (st.map wcat).sum ≤ 8 := by exact Nat.le_of_ble_eq_true rfl) (K : SW g X own cc nx ls (vi ex :: st) V) : SW g X own cc pc ls (a1 :: a0 :: st) V := S_callS (as := [a0, a1]) hD dd hl0 hm hc hd rfl rfl hw (fun r V1 h => by obtain ⟨rfl, rfl⟩ := h; exact K)
theorem S_S2EL {idx d d' : Nat} {M : MN} {a0 a1 : AV} {ex : Int} (hD : Dp X d) (dd : DI cc pc (.invokestatic idx) 3 nx) (hl0 : ML own idx M) (hm : MS M 2) (hc : Ct g M d' [a0, a1] V (REL V ex)) (hd : d' + 1 ≤ d := by omega) (hw : (st.map wcat).sum ≤ 8 := by exact Nat.le_of_ble_eq_true rfl) (K : SW g X own cc nx ls (vl ex :: st) V) : SW g X own cc pc ls (a1 :: a0 :: st) V := S_callS (as := [a0, a1]) hD dd hl0 hm hc hd rfl rfl hw (fun r V1 h => by obtain ⟨rfl, rfl⟩ := h; exact K)
theorem S_S2ER {idx d d' : Nat} {M : MN} {a0 a1 : AV} {ex : Nat} (hD : Dp X d) (dd : DI cc pc (.invokestatic idx) 3 nx) (hl0 : ML own idx M) (hm : MS M 2) (hc : Ct g M d' [a0, a1] V (RER V ex)) (hd : d' + 1 ≤ d := by omega) (hw : (st.map wcat).sum ≤ 8 := by exact Nat.le_of_ble_eq_true rfl) (K : SW g X own cc nx ls (vr ex :: st) V) : SW g X own cc pc ls (a1 :: a0 :: st) V := S_callS (as := [a0, a1]) hD dd hl0 hm hc hd rfl rfl hw (fun r V1 h => by obtain ⟨rfl, rfl⟩ := h; exact K)
theorem S_S2B {idx d d' : Nat} {M : MN} {a0 a1 : AV} {φ : Prop} (hD : Dp X d) (dd : DI cc pc (.invokestatic idx) 3 nx) (hl0 : ML own idx M) (hm : MS M 2) (hc : Ct g M d' [a0, a1] V (RB V φ)) (hd : d' + 1 ≤ d := by omega) (hw : (st.map wcat).sum ≤ 8 := by exact Nat.le_of_ble_eq_true rfl) (kt : φ → SW g X own cc nx ls (vi 1 :: st) V) (kf : ¬ φ → SW g X own cc nx ls (vi 0 :: st) V) : SW g X own cc pc ls (a1 :: a0 :: st) V := S_callS (as := [a0, a1]) hD dd hl0 hm hc hd rfl rfl hw (fun r V1 h => by obtain ⟨rfl, ⟨rfl, h⟩ | ⟨rfl, h⟩⟩ := h; exact kt h; exact kf h)
theorem S_S2W {idx d d' : Nat} {M : MN} {a0 a1 : AV} {V2 : MM} (hD : Dp X d) (dd : DI cc pc (.invokestatic idx) 3 nx) (hl0 : ML own idx M) (hm : MS M 2) (hc : Ct g M d' [a0, a1] V (RW V2)) (hd : d' + 1 ≤ d := by omega) (hw : (st.map wcat).sum ≤ 8 := by exact Nat.le_of_ble_eq_true rfl) (K : SW g X own cc nx ls st V2) : SW g X own cc pc ls (a1 :: a0 :: st) V := S_callS (as := [a0, a1]) hD dd hl0 hm hc hd rfl rfl hw (fun r V1 h => by obtain ⟨rfl, rfl⟩ := h; exact K)
theorem S_S2L {idx d d' : Nat} {M : MN} {a0 a1 : AV} {Pr : Int → MM → Prop} (hD : Dp X d) (dd : DI cc pc (.invokestatic idx) 3 nx) (hl0 : ML own idx M) (hm : MS M 2) (hc : Ct g M d' [a0, a1] V (RLo Pr)) (hd : d' + 1 ≤ d := by omega) (hw : (st.map wcat).sum ≤ 8 := by exact Nat.le_of_ble_eq_true rfl) (kk : ∀ (z : Int) (V1 : MM), Pr z V1 → SW g X own cc nx ls (vl z :: st) V1) : SW g X own cc pc ls (a1 :: a0 :: st) V := S_callS (as := [a0, a1]) hD dd hl0 hm hc hd rfl rfl hw (fun r V1 h => by obtain ⟨z, rfl, h⟩ := h; exact kk z V1 h)
theorem S_S2R {idx d d' : Nat} {M : MN} {a0 a1 : AV} {Pr : Nat → MM → Prop} (hD : Dp X d) (dd : DI cc pc (.invokestatic idx) 3 nx) (hl0 : ML own idx M) (hm : MS M 2) (hc : Ct g M d' [a0, a1] V (RR Pr)) (hd : d' + 1 ≤ d := by omega) (hw : (st.map wcat).sum ≤ 8 := by exact Nat.le_of_ble_eq_true rfl) (kk : ∀ (z : Nat) (V1 : MM), Pr z V1 → SW g X own cc nx ls (vr z :: st) V1) : SW g X own cc pc ls (a1 :: a0 :: st) V := S_callS (as := [a0, a1]) hD dd hl0 hm hc hd rfl rfl hw (fun r V1 h => by obtain ⟨z, rfl, h⟩ := h; exact kk z V1 h)
theorem S_S2V {idx d d' : Nat} {M : MN} {a0 a1 : AV} {Pr : MM → Prop} (hD : Dp X d) (dd : DI cc pc (.invokestatic idx) 3 nx) (hl0 : ML own idx M) (hm : MS M 2) (hc : Ct g M d' [a0, a1] V (RV Pr)) (hd : d' + 1 ≤ d := by omega) (hw : (st.map wcat).sum ≤ 8 := by exact Nat.le_of_ble_eq_true rfl) (kk : ∀ (V1 : MM), Pr V1 → SW g X own cc nx ls st V1) : SW g X own cc pc ls (a1 :: a0 :: st) V := S_callS (as := [a0, a1]) hD dd hl0 hm hc hd rfl rfl hw (fun r V1 h => by obtain ⟨rfl, h⟩ := h; exact kk V1 h)
theorem S_S3I {idx d d' : Nat} {M : MN} {a0 a1 a2 : AV} {Pr : Int → MM → Prop} (hD : Dp X d) (dd : DI cc pc (.invokestatic idx) 3 nx) (hl0 : ML own idx M) (hm : MS M 3) (hc : Ct g M d' [a0, a1, a2] V (RI Pr)) (hd : d' + 1 ≤ d := by omega) (hw : (st.map wcat).sum ≤ 8 := by exact Nat.le_of_ble_eq_true rfl) (kk : ∀ (z : Int) (V1 : MM), Pr z V1 → SW g X own cc nx ls (vi z :: st) V1) : SW g X own cc pc ls (a2 :: a1 :: a0 :: st) V := S_callS (as := [a0, a1, a2]) hD dd hl0 hm hc hd rfl rfl hw (fun r V1 h => by obtain ⟨z, rfl, h⟩ := h; exact kk z V1 h)
theorem S_S3E {idx d d' : Nat} {M : MN} {a0 a1 a2 : AV} {ex : Int} (hD : Dp X d) (dd : DI cc pc (.invokestatic idx) 3 nx) (hl0 : ML own idx M) (hm : MS M 3) (hc : Ct g M d' [a0, a1, a2] V (RE V ex)) (hd : d' + 1 ≤ d := by omega) (hw : (st.map wcat).sum ≤ 8 := by exact Nat.le_of_ble_eq_true rfl) (K : SW g X own cc nx ls (vi ex :: st) V) : SW g X own cc pc ls (a2 :: a1 :: a0 :: st) V := S_callS (as := [a0, a1, a2]) hD dd hl0 hm hc hd rfl rfl hw (fun r V1 h => by obtain ⟨rfl, rfl⟩ := h; exact K)
theorem S_S3EL {idx d d' : Nat} {M : MN} {a0 a1 a2 : AV} {ex : Int} (hD : Dp X d) (dd : DI cc pc (.invokestatic idx) 3 nx) (hl0 : ML own idx M) (hm : MS M 3) (hc : Ct g M d' [a0, a1, a2] V (REL V ex)) (hd : d' + 1 ≤ d := by omega) (hw : (st.map wcat).sum ≤ 8 := by exact Nat.le_of_ble_eq_true rfl) (K : SW g X own cc nx ls (vl ex :: st) V) : SW g X own cc pc ls (a2 :: a1 :: a0 :: st) V := S_callS (as := [a0, a1, a2]) hD dd hl0 hm hc hd rfl rfl hw (fun r V1 h => by obtain ⟨rfl, rfl⟩ := h; exact K)
theorem S_S3ER {idx d d' : Nat} {M : MN} {a0 a1 a2 : AV} {ex : Nat} (hD : Dp X d) (dd : DI cc pc (.invokestatic idx) 3 nx) (hl0 : ML own idx M) (hm : MS M 3) (hc : Ct g M d' [a0, a1, a2] V (RER V ex)) (hd : d' + 1 ≤ d := by omega) (hw : (st.map wcat).sum ≤ 8 := by exact Nat.le_of_ble_eq_true rfl) (K : SW g X own cc nx ls (vr ex :: st) V) : SW g X own cc pc ls (a2 :: a1 :: a0 :: st) V := S_callS (as := [a0, a1, a2]) hD dd hl0 hm hc hd rfl rfl hw (fun r V1 h => by obtain ⟨rfl, rfl⟩ := h; exact K)
theorem S_S3B {idx d d' : Nat} {M : MN} {a0 a1 a2 : AV} {φ : Prop} (hD : Dp X d) (dd : DI cc pc (.invokestatic idx) 3 nx) (hl0 : ML own idx M) (hm : MS M 3) (hc : Ct g M d' [a0, a1, a2] V (RB V φ)) (hd : d' + 1 ≤ d := by omega) (hw : (st.map wcat).sum ≤ 8 := by exact Nat.le_of_ble_eq_true rfl) (kt : φ → SW g X own cc nx ls (vi 1 :: st) V) (kf : ¬ φ → SW g X own cc nx ls (vi 0 :: st) V) : SW g X own cc pc ls (a2 :: a1 :: a0 :: st) V := S_callS (as := [a0, a1, a2]) hD dd hl0 hm hc hd rfl rfl hw (fun r V1 h => by obtain ⟨rfl, ⟨rfl, h⟩ | ⟨rfl, h⟩⟩ := h; exact kt h; exact kf h)
theorem S_S3W {idx d d' : Nat} {M : MN} {a0 a1 a2 : AV} {V2 : MM} (hD : Dp X d) (dd : DI cc pc (.invokestatic idx) 3 nx) (hl0 : ML own idx M) (hm : MS M 3) (hc : Ct g M d' [a0, a1, a2] V (RW V2)) (hd : d' + 1 ≤ d := by omega) (hw : (st.map wcat).sum ≤ 8 := by exact Nat.le_of_ble_eq_true rfl) (K : SW g X own cc nx ls st V2) : SW g X own cc pc ls (a2 :: a1 :: a0 :: st) V := S_callS (as := [a0, a1, a2]) hD dd hl0 hm hc hd rfl rfl hw (fun r V1 h => by obtain ⟨rfl, rfl⟩ := h; exact K)
theorem S_S3L {idx d d' : Nat} {M : MN} {a0 a1 a2 : AV} {Pr : Int → MM → Prop} (hD : Dp X d) (dd : DI cc pc (.invokestatic idx) 3 nx) (hl0 : ML own idx M) (hm : MS M 3) (hc : Ct g M d' [a0, a1, a2] V (RLo Pr)) (hd : d' + 1 ≤ d := by omega) (hw : (st.map wcat).sum ≤ 8 := by exact Nat.le_of_ble_eq_true rfl) (kk : ∀ (z : Int) (V1 : MM), Pr z V1 → SW g X own cc nx ls (vl z :: st) V1) : SW g X own cc pc ls (a2 :: a1 :: a0 :: st) V := S_callS (as := [a0, a1, a2]) hD dd hl0 hm hc hd rfl rfl hw (fun r V1 h => by obtain ⟨z, rfl, h⟩ := h; exact kk z V1 h)
theorem S_S3R {idx d d' : Nat} {M : MN} {a0 a1 a2 : AV} {Pr : Nat → MM → Prop} (hD : Dp X d) (dd : DI cc pc (.invokestatic idx) 3 nx) (hl0 : ML own idx M) (hm : MS M 3) (hc : Ct g M d' [a0, a1, a2] V (RR Pr)) (hd : d' + 1 ≤ d := by omega) (hw : (st.map wcat).sum ≤ 8 := by exact Nat.le_of_ble_eq_true rfl) (kk : ∀ (z : Nat) (V1 : MM), Pr z V1 → SW g X own cc nx ls (vr z :: st) V1) : SW g X own cc pc ls (a2 :: a1 :: a0 :: st) V := S_callS (as := [a0, a1, a2]) hD dd hl0 hm hc hd rfl rfl hw (fun r V1 h => by obtain ⟨z, rfl, h⟩ := h; exact kk z V1 h)
theorem S_S3V {idx d d' : Nat} {M : MN} {a0 a1 a2 : AV} {Pr : MM → Prop} (hD : Dp X d) (dd : DI cc pc (.invokestatic idx) 3 nx) (hl0 : ML own idx M) (hm : MS M 3) (hc : Ct g M d' [a0, a1, a2] V (RV Pr)) (hd : d' + 1 ≤ d := by omega) (hw : (st.map wcat).sum ≤ 8 := by exact Nat.le_of_ble_eq_true rfl) (kk : ∀ (V1 : MM), Pr V1 → SW g X own cc nx ls st V1) : SW g X own cc pc ls (a2 :: a1 :: a0 :: st) V := S_callS (as := [a0, a1, a2]) hD dd hl0 hm hc hd rfl rfl hw (fun r V1 h => by obtain ⟨rfl, h⟩ := h; exact kk V1 h)
theorem S_S4I {idx d d' : Nat} {M : MN} {a0 a1 a2 a3 : AV} {Pr : Int → MM → Prop} (hD : Dp X d) (dd : DI cc pc (.invokestatic idx) 3 nx) (hl0 : ML own idx M) (hm : MS M 4) (hc : Ct g M d' [a0, a1, a2, a3] V (RI Pr)) (hd : d' + 1 ≤ d := by omega) (hw : (st.map wcat).sum ≤ 8 := by exact Nat.le_of_ble_eq_true rfl) (kk : ∀ (z : Int) (V1 : MM), Pr z V1 → SW g X own cc nx ls (vi z :: st) V1) : SW g X own cc pc ls (a3 :: a2 :: a1 :: a0 :: st) V := S_callS (as := [a0, a1, a2, a3]) hD dd hl0 hm hc hd rfl rfl hw (fun r V1 h => by obtain ⟨z, rfl, h⟩ := h; exact kk z V1 h)
theorem S_S4E {idx d d' : Nat} {M : MN} {a0 a1 a2 a3 : AV} {ex : Int} (hD : Dp X d) (dd : DI cc pc (.invokestatic idx) 3 nx) (hl0 : ML own idx M) (hm : MS M 4) (hc : Ct g M d' [a0, a1, a2, a3] V (RE V ex)) (hd : d' + 1 ≤ d := by omega) (hw : (st.map wcat).sum ≤ 8 := by exact Nat.le_of_ble_eq_true rfl) (K : SW g X own cc nx ls (vi ex :: st) V) : SW g X own cc pc ls (a3 :: a2 :: a1 :: a0 :: st) V := S_callS (as := [a0, a1, a2, a3]) hD dd hl0 hm hc hd rfl rfl hw (fun r V1 h => by obtain ⟨rfl, rfl⟩ := h; exact K)
theorem S_S4EL {idx d d' : Nat} {M : MN} {a0 a1 a2 a3 : AV} {ex : Int} (hD : Dp X d) (dd : DI cc pc (.invokestatic idx) 3 nx) (hl0 : ML own idx M) (hm : MS M 4) (hc : Ct g M d' [a0, a1, a2, a3] V (REL V ex)) (hd : d' + 1 ≤ d := by omega) (hw : (st.map wcat).sum ≤ 8 := by exact Nat.le_of_ble_eq_true rfl) (K : SW g X own cc nx ls (vl ex :: st) V) : SW g X own cc pc ls (a3 :: a2 :: a1 :: a0 :: st) V := S_callS (as := [a0, a1, a2, a3]) hD dd hl0 hm hc hd rfl rfl hw (fun r V1 h => by obtain ⟨rfl, rfl⟩ := h; exact K)
theorem S_S4ER {idx d d' : Nat} {M : MN} {a0 a1 a2 a3 : AV} {ex : Nat} (hD : Dp X d) (dd : DI cc pc (.invokestatic idx) 3 nx) (hl0 : ML own idx M) (hm : MS M 4) (hc : Ct g M d' [a0, a1, a2, a3] V (RER V ex)) (hd : d' + 1 ≤ d := by omega) (hw : (st.map wcat).sum ≤ 8 := by exact Nat.le_of_ble_eq_true rfl) (K : SW g X own cc nx ls (vr ex :: st) V) : SW g X own cc pc ls (a3 :: a2 :: a1 :: a0 :: st) V := S_callS (as := [a0, a1, a2, a3]) hD dd hl0 hm hc hd rfl rfl hw (fun r V1 h => by obtain ⟨rfl, rfl⟩ := h; exact K)
theorem S_S4B {idx d d' : Nat} {M : MN} {a0 a1 a2 a3 : AV} {φ : Prop} (hD : Dp X d) (dd : DI cc pc (.invokestatic idx) 3 nx) (hl0 : ML own idx M) (hm : MS M 4) (hc : Ct g M d' [a0, a1, a2, a3] V (RB V φ)) (hd : d' + 1 ≤ d := by omega) (hw : (st.map wcat).sum ≤ 8 := by exact Nat.le_of_ble_eq_true rfl) (kt : φ → SW g X own cc nx ls (vi 1 :: st) V) (kf : ¬ φ → SW g X own cc nx ls (vi 0 :: st) V) : SW g X own cc pc ls (a3 :: a2 :: a1 :: a0 :: st) V := S_callS (as := [a0, a1, a2, a3]) hD dd hl0 hm hc hd rfl rfl hw (fun r V1 h => by obtain ⟨rfl, ⟨rfl, h⟩ | ⟨rfl, h⟩⟩ := h; exact kt h; exact kf h)
theorem S_S4W {idx d d' : Nat} {M : MN} {a0 a1 a2 a3 : AV} {V2 : MM} (hD : Dp X d) (dd : DI cc pc (.invokestatic idx) 3 nx) (hl0 : ML own idx M) (hm : MS M 4) (hc : Ct g M d' [a0, a1, a2, a3] V (RW V2)) (hd : d' + 1 ≤ d := by omega) (hw : (st.map wcat).sum ≤ 8 := by exact Nat.le_of_ble_eq_true rfl) (K : SW g X own cc nx ls st V2) : SW g X own cc pc ls (a3 :: a2 :: a1 :: a0 :: st) V := S_callS (as := [a0, a1, a2, a3]) hD dd hl0 hm hc hd rfl rfl hw (fun r V1 h => by obtain ⟨rfl, rfl⟩ := h; exact K)
theorem S_S4L {idx d d' : Nat} {M : MN} {a0 a1 a2 a3 : AV} {Pr : Int → MM → Prop} (hD : Dp X d) (dd : DI cc pc (.invokestatic idx) 3 nx) (hl0 : ML own idx M) (hm : MS M 4) (hc : Ct g M d' [a0, a1, a2, a3] V (RLo Pr)) (hd : d' + 1 ≤ d := by omega) (hw : (st.map wcat).sum ≤ 8 := by exact Nat.le_of_ble_eq_true rfl) (kk : ∀ (z : Int) (V1 : MM), Pr z V1 → SW g X own cc nx ls (vl z :: st) V1) : SW g X own cc pc ls (a3 :: a2 :: a1 :: a0 :: st) V := S_callS (as := [a0, a1, a2, a3]) hD dd hl0 hm hc hd rfl rfl hw (fun r V1 h => by obtain ⟨z, rfl, h⟩ := h; exact kk z V1 h)
theorem S_S4R {idx d d' : Nat} {M : MN} {a0 a1 a2 a3 : AV} {Pr : Nat → MM → Prop} (hD : Dp X d) (dd : DI cc pc (.invokestatic idx) 3 nx) (hl0 : ML own idx M) (hm : MS M 4) (hc : Ct g M d' [a0, a1, a2, a3] V (RR Pr)) (hd : d' + 1 ≤ d := by omega) (hw : (st.map wcat).sum ≤ 8 := by exact Nat.le_of_ble_eq_true rfl) (kk : ∀ (z : Nat) (V1 : MM), Pr z V1 → SW g X own cc nx ls (vr z :: st) V1) : SW g X own cc pc ls (a3 :: a2 :: a1 :: a0 :: st) V := S_callS (as := [a0, a1, a2, a3]) hD dd hl0 hm hc hd rfl rfl hw (fun r V1 h => by obtain ⟨z, rfl, h⟩ := h; exact kk z V1 h)
theorem S_S4V {idx d d' : Nat} {M : MN} {a0 a1 a2 a3 : AV} {Pr : MM → Prop} (hD : Dp X d) (dd : DI cc pc (.invokestatic idx) 3 nx) (hl0 : ML own idx M) (hm : MS M 4) (hc : Ct g M d' [a0, a1, a2, a3] V (RV Pr)) (hd : d' + 1 ≤ d := by omega) (hw : (st.map wcat).sum ≤ 8 := by exact Nat.le_of_ble_eq_true rfl) (kk : ∀ (V1 : MM), Pr V1 → SW g X own cc nx ls st V1) : SW g X own cc pc ls (a3 :: a2 :: a1 :: a0 :: st) V := S_callS (as := [a0, a1, a2, a3]) hD dd hl0 hm hc hd rfl rfl hw (fun r V1 h => by obtain ⟨rfl, h⟩ := h; exact kk V1 h)
theorem S_S5I {idx d d' : Nat} {M : MN} {a0 a1 a2 a3 a4 : AV} {Pr : Int → MM → Prop} (hD : Dp X d) (dd : DI cc pc (.invokestatic idx) 3 nx) (hl0 : ML own idx M) (hm : MS M 5) (hc : Ct g M d' [a0, a1, a2, a3, a4] V (RI Pr)) (hd : d' + 1 ≤ d := by omega) (hw : (st.map wcat).sum ≤ 8 := by exact Nat.le_of_ble_eq_true rfl) (kk : ∀ (z : Int) (V1 : MM), Pr z V1 → SW g X own cc nx ls (vi z :: st) V1) : SW g X own cc pc ls (a4 :: a3 :: a2 :: a1 :: a0 :: st) V := S_callS (as := [a0, a1, a2, a3, a4]) hD dd hl0 hm hc hd rfl rfl hw (fun r V1 h => by obtain ⟨z, rfl, h⟩ := h; exact kk z V1 h)
theorem S_S5E {idx d d' : Nat} {M : MN} {a0 a1 a2 a3 a4 : AV} {ex : Int} (hD : Dp X d) (dd : DI cc pc (.invokestatic idx) 3 nx) (hl0 : ML own idx M) (hm : MS M 5) (hc : Ct g M d' [a0, a1, a2, a3, a4] V (RE V ex)) (hd : d' + 1 ≤ d := by omega) (hw : (st.map wcat).sum ≤ 8 := by exact Nat.le_of_ble_eq_true rfl) (K : SW g X own cc nx ls (vi ex :: st) V) : SW g X own cc pc ls (a4 :: a3 :: a2 :: a1 :: a0 :: st) V := S_callS (as := [a0, a1, a2, a3, a4]) hD dd hl0 hm hc hd rfl rfl hw (fun r V1 h => by obtain ⟨rfl, rfl⟩ := h; exact K)
theorem S_S5EL {idx d d' : Nat} {M : MN} {a0 a1 a2 a3 a4 : AV} {ex : Int} (hD : Dp X d) (dd : DI cc pc (.invokestatic idx) 3 nx) (hl0 : ML own idx M) (hm : MS M 5) (hc : Ct g M d' [a0, a1, a2, a3, a4] V (REL V ex)) (hd : d' + 1 ≤ d := by omega) (hw : (st.map wcat).sum ≤ 8 := by exact Nat.le_of_ble_eq_true rfl) (K : SW g X own cc nx ls (vl ex :: st) V) : SW g X own cc pc ls (a4 :: a3 :: a2 :: a1 :: a0 :: st) V := S_callS (as := [a0, a1, a2, a3, a4]) hD dd hl0 hm hc hd rfl rfl hw (fun r V1 h => by obtain ⟨rfl, rfl⟩ := h; exact K)
theorem S_S5ER {idx d d' : Nat} {M : MN} {a0 a1 a2 a3 a4 : AV} {ex : Nat} (hD : Dp X d) (dd : DI cc pc (.invokestatic idx) 3 nx) (hl0 : ML own idx M) (hm : MS M 5) (hc : Ct g M d' [a0, a1, a2, a3, a4] V (RER V ex)) (hd : d' + 1 ≤ d := by omega) (hw : (st.map wcat).sum ≤ 8 := by exact Nat.le_of_ble_eq_true rfl) (K : SW g X own cc nx ls (vr ex :: st) V) : SW g X own cc pc ls (a4 :: a3 :: a2 :: a1 :: a0 :: st) V := S_callS (as := [a0, a1, a2, a3, a4]) hD dd hl0 hm hc hd rfl rfl hw (fun r V1 h => by obtain ⟨rfl, rfl⟩ := h; exact K)
theorem S_S5B {idx d d' : Nat} {M : MN} {a0 a1 a2 a3 a4 : AV} {φ : Prop} (hD : Dp X d) (dd : DI cc pc (.invokestatic idx) 3 nx) (hl0 : ML own idx M) (hm : MS M 5) (hc : Ct g M d' [a0, a1, a2, a3, a4] V (RB V φ)) (hd : d' + 1 ≤ d := by omega) (hw : (st.map wcat).sum ≤ 8 := by exact Nat.le_of_ble_eq_true rfl) (kt : φ → SW g X own cc nx ls (vi 1 :: st) V) (kf : ¬ φ → SW g X own cc nx ls (vi 0 :: st) V) : SW g X own cc pc ls (a4 :: a3 :: a2 :: a1 :: a0 :: st) V := S_callS (as := [a0, a1, a2, a3, a4]) hD dd hl0 hm hc hd rfl rfl hw (fun r V1 h => by obtain ⟨rfl, ⟨rfl, h⟩ | ⟨rfl, h⟩⟩ := h; exact kt h; exact kf h)
theorem S_S5W {idx d d' : Nat} {M : MN} {a0 a1 a2 a3 a4 : AV} {V2 : MM} (hD : Dp X d) (dd : DI cc pc (.invokestatic idx) 3 nx) (hl0 : ML own idx M) (hm : MS M 5) (hc : Ct g M d' [a0, a1, a2, a3, a4] V (RW V2)) (hd : d' + 1 ≤ d := by omega) (hw : (st.map wcat).sum ≤ 8 := by exact Nat.le_of_ble_eq_true rfl) (K : SW g X own cc nx ls st V2) : SW g X own cc pc ls (a4 :: a3 :: a2 :: a1 :: a0 :: st) V := S_callS (as := [a0, a1, a2, a3, a4]) hD dd hl0 hm hc hd rfl rfl hw (fun r V1 h => by obtain ⟨rfl, rfl⟩ := h; exact K)
theorem S_S5L {idx d d' : Nat} {M : MN} {a0 a1 a2 a3 a4 : AV} {Pr : Int → MM → Prop} (hD : Dp X d) (dd : DI cc pc (.invokestatic idx) 3 nx) (hl0 : ML own idx M) (hm : MS M 5) (hc : Ct g M d' [a0, a1, a2, a3, a4] V (RLo Pr)) (hd : d' + 1 ≤ d := by omega) (hw : (st.map wcat).sum ≤ 8 := by exact Nat.le_of_ble_eq_true rfl) (kk : ∀ (z : Int) (V1 : MM), Pr z V1 → SW g X own cc nx ls (vl z :: st) V1) : SW g X own cc pc ls (a4 :: a3 :: a2 :: a1 :: a0 :: st) V := S_callS (as := [a0, a1, a2, a3, a4]) hD dd hl0 hm hc hd rfl rfl hw (fun r V1 h => by obtain ⟨z, rfl, h⟩ := h; exact kk z V1 h)
theorem S_S5R {idx d d' : Nat} {M : MN} {a0 a1 a2 a3 a4 : AV} {Pr : Nat → MM → Prop} (hD : Dp X d) (dd : DI cc pc (.invokestatic idx) 3 nx) (hl0 : ML own idx M) (hm : MS M 5) (hc : Ct g M d' [a0, a1, a2, a3, a4] V (RR Pr)) (hd : d' + 1 ≤ d := by omega) (hw : (st.map wcat).sum ≤ 8 := by exact Nat.le_of_ble_eq_true rfl) (kk : ∀ (z : Nat) (V1 : MM), Pr z V1 → SW g X own cc nx ls (vr z :: st) V1) : SW g X own cc pc ls (a4 :: a3 :: a2 :: a1 :: a0 :: st) V := S_callS (as := [a0, a1, a2, a3, a4]) hD dd hl0 hm hc hd rfl rfl hw (fun r V1 h => by obtain ⟨z, rfl, h⟩ := h; exact kk z V1 h)
theorem S_S5V {idx d d' : Nat} {M : MN} {a0 a1 a2 a3 a4 : AV} {Pr : MM → Prop} (hD : Dp X d) (dd : DI cc pc (.invokestatic idx) 3 nx) (hl0 : ML own idx M) (hm : MS M 5) (hc : Ct g M d' [a0, a1, a2, a3, a4] V (RV Pr)) (hd : d' + 1 ≤ d := by omega) (hw : (st.map wcat).sum ≤ 8 := by exact Nat.le_of_ble_eq_true rfl) (kk : ∀ (V1 : MM), Pr V1 → SW g X own cc nx ls st V1) : SW g X own cc pc ls (a4 :: a3 :: a2 :: a1 :: a0 :: st) V := S_callS (as := [a0, a1, a2, a3, a4]) hD dd hl0 hm hc hd rfl rfl hw (fun r V1 h => by obtain ⟨rfl, h⟩ := h; exact kk V1 h)
theorem S_S6I {idx d d' : Nat} {M : MN} {a0 a1 a2 a3 a4 a5 : AV} {Pr : Int → MM → Prop} (hD : Dp X d) (dd : DI cc pc (.invokestatic idx) 3 nx) (hl0 : ML own idx M) (hm : MS M 6) (hc : Ct g M d' [a0, a1, a2, a3, a4, a5] V (RI Pr)) (hd : d' + 1 ≤ d := by omega) (hw : (st.map wcat).sum ≤ 8 := by exact Nat.le_of_ble_eq_true rfl) (kk : ∀ (z : Int) (V1 : MM), Pr z V1 → SW g X own cc nx ls (vi z :: st) V1) : SW g X own cc pc ls (a5 :: a4 :: a3 :: a2 :: a1 :: a0 :: st) V := S_callS (as := [a0, a1, a2, a3, a4, a5]) hD dd hl0 hm hc hd rfl rfl hw (fun r V1 h => by obtain ⟨z, rfl, h⟩ := h; exact kk z V1 h)
theorem S_S6E {idx d d' : Nat} {M : MN} {a0 a1 a2 a3 a4 a5 : AV} {ex : Int} (hD : Dp X d) (dd : DI cc pc (.invokestatic idx) 3 nx) (hl0 : ML own idx M) (hm : MS M 6) (hc : Ct g M d' [a0, a1, a2, a3, a4, a5] V (RE V ex)) (hd : d' + 1 ≤ d := by omega) (hw : (st.map wcat).sum ≤ 8 := by exact Nat.le_of_ble_eq_true rfl) (K : SW g X own cc nx ls (vi ex :: st) V) : SW g X own cc pc ls (a5 :: a4 :: a3 :: a2 :: a1 :: a0 :: st) V := S_callS (as := [a0, a1, a2, a3, a4, a5]) hD dd hl0 hm hc hd rfl rfl hw (fun r V1 h => by obtain ⟨rfl, rfl⟩ := h; exact K)
theorem S_S6EL {idx d d' : Nat} {M : MN} {a0 a1 a2 a3 a4 a5 : AV} {ex : Int} (hD : Dp X d) (dd : DI cc pc (.invokestatic idx) 3 nx) (hl0 : ML own idx M) (hm : MS M 6) (hc : Ct g M d' [a0, a1, a2, a3, a4, a5] V (REL V ex)) (hd : d' + 1 ≤ d := by omega) (hw : (st.map wcat).sum ≤ 8 := by exact Nat.le_of_ble_eq_true rfl) (K : SW g X own cc nx ls (vl ex :: st) V) : SW g X own cc pc ls (a5 :: a4 :: a3 :: a2 :: a1 :: a0 :: st) V := S_callS (as := [a0, a1, a2, a3, a4, a5]) hD dd hl0 hm hc hd rfl rfl hw (fun r V1 h => by obtain ⟨rfl, rfl⟩ := h; exact K)
theorem S_S6ER {idx d d' : Nat} {M : MN} {a0 a1 a2 a3 a4 a5 : AV} {ex : Nat} (hD : Dp X d) (dd : DI cc pc (.invokestatic idx) 3 nx) (hl0 : ML own idx M) (hm : MS M 6) (hc : Ct g M d' [a0, a1, a2, a3, a4, a5] V (RER V ex)) (hd : d' + 1 ≤ d := by omega) (hw : (st.map wcat).sum ≤ 8 := by exact Nat.le_of_ble_eq_true rfl) (K : SW g X own cc nx ls (vr ex :: st) V) : SW g X own cc pc ls (a5 :: a4 :: a3 :: a2 :: a1 :: a0 :: st) V := S_callS (as := [a0, a1, a2, a3, a4, a5]) hD dd hl0 hm hc hd rfl rfl hw (fun r V1 h => by obtain ⟨rfl, rfl⟩ := h; exact K)
theorem S_S6B {idx d d' : Nat} {M : MN} {a0 a1 a2 a3 a4 a5 : AV} {φ : Prop} (hD : Dp X d) (dd : DI cc pc (.invokestatic idx) 3 nx) (hl0 : ML own idx M) (hm : MS M 6) (hc : Ct g M d' [a0, a1, a2, a3, a4, a5] V (RB V φ)) (hd : d' + 1 ≤ d := by omega) (hw : (st.map wcat).sum ≤ 8 := by exact Nat.le_of_ble_eq_true rfl) (kt : φ → SW g X own cc nx ls (vi 1 :: st) V) (kf : ¬ φ → SW g X own cc nx ls (vi 0 :: st) V) : SW g X own cc pc ls (a5 :: a4 :: a3 :: a2 :: a1 :: a0 :: st) V := S_callS (as := [a0, a1, a2, a3, a4, a5]) hD dd hl0 hm hc hd rfl rfl hw (fun r V1 h => by obtain ⟨rfl, ⟨rfl, h⟩ | ⟨rfl, h⟩⟩ := h; exact kt h; exact kf h)
theorem S_S6W {idx d d' : Nat} {M : MN} {a0 a1 a2 a3 a4 a5 : AV} {V2 : MM} (hD : Dp X d) (dd : DI cc pc (.invokestatic idx) 3 nx) (hl0 : ML own idx M) (hm : MS M 6) (hc : Ct g M d' [a0, a1, a2, a3, a4, a5] V (RW V2)) (hd : d' + 1 ≤ d := by omega) (hw : (st.map wcat).sum ≤ 8 := by exact Nat.le_of_ble_eq_true rfl) (K : SW g X own cc nx ls st V2) : SW g X own cc pc ls (a5 :: a4 :: a3 :: a2 :: a1 :: a0 :: st) V := S_callS (as := [a0, a1, a2, a3, a4, a5]) hD dd hl0 hm hc hd rfl rfl hw (fun r V1 h => by obtain ⟨rfl, rfl⟩ := h; exact K)
theorem S_S6L {idx d d' : Nat} {M : MN} {a0 a1 a2 a3 a4 a5 : AV} {Pr : Int → MM → Prop} (hD : Dp X d) (dd : DI cc pc (.invokestatic idx) 3 nx) (hl0 : ML own idx M) (hm : MS M 6) (hc : Ct g M d' [a0, a1, a2, a3, a4, a5] V (RLo Pr)) (hd : d' + 1 ≤ d := by omega) (hw : (st.map wcat).sum ≤ 8 := by exact Nat.le_of_ble_eq_true rfl) (kk : ∀ (z : Int) (V1 : MM), Pr z V1 → SW g X own cc nx ls (vl z :: st) V1) : SW g X own cc pc ls (a5 :: a4 :: a3 :: a2 :: a1 :: a0 :: st) V := S_callS (as := [a0, a1, a2, a3, a4, a5]) hD dd hl0 hm hc hd rfl rfl hw (fun r V1 h => by obtain ⟨z, rfl, h⟩ := h; exact kk z V1 h)
theorem S_S6R {idx d d' : Nat} {M : MN} {a0 a1 a2 a3 a4 a5 : AV} {Pr : Nat → MM → Prop} (hD : Dp X d) (dd : DI cc pc (.invokestatic idx) 3 nx) (hl0 : ML own idx M) (hm : MS M 6) (hc : Ct g M d' [a0, a1, a2, a3, a4, a5] V (RR Pr)) (hd : d' + 1 ≤ d := by omega) (hw : (st.map wcat).sum ≤ 8 := by exact Nat.le_of_ble_eq_true rfl) (kk : ∀ (z : Nat) (V1 : MM), Pr z V1 → SW g X own cc nx ls (vr z :: st) V1) : SW g X own cc pc ls (a5 :: a4 :: a3 :: a2 :: a1 :: a0 :: st) V := S_callS (as := [a0, a1, a2, a3, a4, a5]) hD dd hl0 hm hc hd rfl rfl hw (fun r V1 h => by obtain ⟨z, rfl, h⟩ := h; exact kk z V1 h)
theorem S_S6V {idx d d' : Nat} {M : MN} {a0 a1 a2 a3 a4 a5 : AV} {Pr : MM → Prop} (hD : Dp X d) (dd : DI cc pc (.invokestatic idx) 3 nx) (hl0 : ML own idx M) (hm : MS M 6) (hc : Ct g M d' [a0, a1, a2, a3, a4, a5] V (RV Pr)) (hd : d' + 1 ≤ d := by omega) (hw : (st.map wcat).sum ≤ 8 := by exact Nat.le_of_ble_eq_true rfl) (kk : ∀ (V1 : MM), Pr V1 → SW g X own cc nx ls st V1) : SW g X own cc pc ls (a5 :: a4 :: a3 :: a2 :: a1 :: a0 :: st) V := S_callS (as := [a0, a1, a2, a3, a4, a5]) hD dd hl0 hm hc hd rfl rfl hw (fun r V1 h => by obtain ⟨rfl, h⟩ := h; exact kk V1 h)
theorem S_ldc2 {idx : Nat} {v : Int} (d : DI cc pc (.ldc2_w idx) 3 nx) (hk : Cond.constantLong own idx (Int64.ofInt v) ∈ Gs) (K : SW g X own cc nx ls (vl v :: st) V) : SW g X own cc pc ls st V := by
  obtain ⟨⟨p, e, R, s, m⟩, ⟨args, below, meth, c⟩, ⟨nL, cells, slots, Z⟩⟩ := X
  obtain ⟨hd, rfl⟩ := d
  intro hC H locs lsA hP hS hl
  obtain ⟨hx, hb, hml, hown, hts, hW, hR⟩ := id hC
  exact lv_ldc2 hx hb hown (hts _ hk) hd (K hC H locs lsA hP hS hl)
def cpS (f h : Int → Int) (sp dp n : Int) : Int → Int := fun i => if dp ≤ i ∧ i < dp + n then f (sp + (i - dp)) else h i
theorem cpS_i (f h : Int → Int) {sp dp n : Int} (h0 : 0 ≤ sp ∧ 0 ≤ dp ∧ 0 ≤ n) : va_cpy (fun j : Nat => Int32.ofInt (f (j : Int))) (fun j : Nat => Int32.ofInt (h (j : Int))) sp.toNat dp.toNat n.toNat = fun j : Nat => Int32.ofInt (cpS f h sp dp n (j : Int)) := by
  funext j
  unfold va_cpy cpS
  by_cases e : dp.toNat ≤ j ∧ j < dp.toNat + n.toNat
  · rw [if_pos e, if_pos (by omega)]
    have e3 : ((sp.toNat + (j - dp.toNat) : Nat) : Int) = sp + ((j : Int) - dp) := by omega
    simp only [e3]
  · rw [if_neg e, if_neg (by omega)]
theorem cpS_l (f h : Int → Int) {sp dp n : Int} (h0 : 0 ≤ sp ∧ 0 ≤ dp ∧ 0 ≤ n) : va_cpy (fun j : Nat => Int64.ofInt (f (j : Int))) (fun j : Nat => Int64.ofInt (h (j : Int))) sp.toNat dp.toNat n.toNat = fun j : Nat => Int64.ofInt (cpS f h sp dp n (j : Int)) := by
  funext j
  unfold va_cpy cpS
  by_cases e : dp.toNat ≤ j ∧ j < dp.toNat + n.toNat
  · rw [if_pos e, if_pos (by omega)]
    have e3 : ((sp.toNat + (j - dp.toNat) : Nat) : Int) = sp + ((j : Int) - dp) := by omega
    simp only [e3]
  · rw [if_neg e, if_neg (by omega)]
theorem cp_nat : Cond.native arraycopyName ∈ Gs := (Gs_of (tb_3 (i := 60) (by decide +kernel)) rfl)
theorem cp_st : Cond.static arraycopyName ∈ Gs := (Gs_of (tb_3 (i := 59) (by decide +kernel)) rfl)
theorem cp_in : Cond.initialized "java/lang/System" ∈ Gs := (Gs_of (tb_1 (i := 15) (by decide +kernel)) rfl)
theorem cp_X2_41 : Cond.methodLink RX2 41 arraycopyName ∈ Gs := (Gs_of (tb_3 (i := 58) (by decide +kernel)) rfl)
theorem cp_X1_34 : Cond.methodLink RX1 34 arraycopyName ∈ Gs := (Gs_of (tb_3 (i := 236) (by decide +kernel)) rfl)
theorem cp_X6_278 : Cond.methodLink RX6 278 arraycopyName ∈ Gs := (Gs_of (tb_4 (i := 75) (by decide +kernel)) rfl)
theorem S_copyI {idx d k0 k1 n0 n1 : Nat} {sp dp n : Int} (hD : Dp X d) (dd : DI cc pc (.invokestatic idx) 3 nx) (hl0 : Cond.methodLink own idx arraycopyName ∈ Gs) (hk0 : ak k0 = some (0, n0)) (hk1 : ak k1 = some (0, n1)) (hbn : 0 ≤ sp ∧ 0 ≤ dp ∧ 0 ≤ n ∧ sp + n ≤ n0 ∧ dp + n ≤ n1 := by omega) (hd : 1 ≤ d := by omega) (hw : (st.map wcat).sum ≤ 8 := by exact Nat.le_of_ble_eq_true rfl) (K : SW g X own cc nx ls st (upR V k1 (cpS (V k0) (V k1) sp dp n))) : SW g X own cc pc ls (vi n :: vi dp :: vr k1 :: vi sp :: vr k0 :: st) V := by
  obtain ⟨⟨p, e, R, s, m⟩, ⟨args, below, meth, c⟩, ⟨nL, cells, slots, Z⟩⟩ := X
  obtain ⟨hdg, rfl⟩ := dd
  intro hC H locs lsA hP hS hl
  obtain ⟨hx, hb, hml, hown, hts, hW, hR⟩ := id hC
  have s0 := (ak_small hk0).1
  have s1 := (ak_small hk1).1
  have he0 : (wl g V)[k0]? = some (g.2.2.1 k0, .inl (g.2.2.2.2 0, n0, .inl (fun j : Nat => Int32.ofInt (V k0 (j : Int))))) := by rw [wl_at g V (ak_lt hk0), (ent_a hk0).2]; rfl
  have he1 : (wl g V)[k1]? = some (g.2.2.1 k1, .inl (g.2.2.2.2 0, n1, .inl (fun j : Nat => Int32.ofInt (V k1 (j : Int))))) := by rw [wl_at g V (ak_lt hk1), (ent_a hk1).2]; rfl
  have c1 : (Int32.ofInt sp).toNatClampNeg = sp.toNat := io_cl (by simp at s0; omega)
  have c2 : (Int32.ofInt dp).toNatClampNeg = dp.toNat := io_cl (by simp at s1; omega)
  have c3 : (Int32.ofInt n).toNatClampNeg = n.toNat := io_cl (by simp at s1; omega)
  have ng : ∀ z : Int, 0 ≤ z ∧ z ≤ 2147483647 → ¬ Int32.ofInt z < 0 := fun z hz q => by
    have := (io_lt (a := z) (b := 0) (by omega) (by omega)).mp q
    omega
  refine va_copyi (ty := .int) hx hb (hml.trans hl.1.symm) hown (hts _ hl0) (hts _ cp_nat) (hts _ cp_st) (hts _ cp_in) hW.2.1 hP (wl_D hW.1 V) hS k0 k1 0 0 he0 he1 rfl rfl rfl (ng sp (by simp at s0; omega)) (ng dp (by simp at s1; omega)) (ng n (by simp at s1; omega)) (by rw [c1, c3]; omega) (by rw [c2, c3]; omega) (fun _ _ => rfl) (by have := hD.1; omega) ?_ hdg (fun H1 locs1 hP1 _ hS1 => K hC H1 locs1 lsA ?_ hS1 hl)
  · have h2 := hD.2
    rw [wcat_sum]
    have : nativeFrameWords "java/lang/System" "arraycopy" 5 = 7 := by decide +kernel
    omega
  · have hset : (wl g V).set k1 (g.2.2.1 k1, .inl (g.2.2.2.2 0, n1, .inl (va_cpy (fun j : Nat => Int32.ofInt (V k0 (j : Int))) (fun j : Nat => Int32.ofInt (V k1 (j : Int))) (Int32.ofInt sp).toNatClampNeg (Int32.ofInt dp).toNatClampNeg (Int32.ofInt n).toNatClampNeg))) = wl g (upR V k1 (cpS (V k0) (V k1) sp dp n)) := by
      rw [← wl_set g V (ak_lt hk1) (cpS (V k0) (V k1) sp dp n), (ent_a (g := g) (V := V) hk1).1, c1, c2, c3, cpS_i _ _ ⟨hbn.1, hbn.2.1, hbn.2.2.1⟩]
      rfl
    exact hset ▸ hP1
theorem S_copyL {idx d k0 k1 n0 n1 : Nat} {sp dp n : Int} (hD : Dp X d) (dd : DI cc pc (.invokestatic idx) 3 nx) (hl0 : Cond.methodLink own idx arraycopyName ∈ Gs) (hk0 : ak k0 = some (1, n0)) (hk1 : ak k1 = some (1, n1)) (hbn : 0 ≤ sp ∧ 0 ≤ dp ∧ 0 ≤ n ∧ sp + n ≤ n0 ∧ dp + n ≤ n1 := by omega) (hd : 1 ≤ d := by omega) (hw : (st.map wcat).sum ≤ 8 := by exact Nat.le_of_ble_eq_true rfl) (K : SW g X own cc nx ls st (upR V k1 (cpS (V k0) (V k1) sp dp n))) : SW g X own cc pc ls (vi n :: vi dp :: vr k1 :: vi sp :: vr k0 :: st) V := by
  obtain ⟨⟨p, e, R, s, m⟩, ⟨args, below, meth, c⟩, ⟨nL, cells, slots, Z⟩⟩ := X
  obtain ⟨hdg, rfl⟩ := dd
  intro hC H locs lsA hP hS hl
  obtain ⟨hx, hb, hml, hown, hts, hW, hR⟩ := id hC
  have s0 := (ak_small hk0).1
  have s1 := (ak_small hk1).1
  have he0 : (wl g V)[k0]? = some (g.2.2.1 k0, .inl (g.2.2.2.2 1, n0, .inr (.inl (fun j : Nat => Int64.ofInt (V k0 (j : Int)))))) := by rw [wl_at g V (ak_lt hk0), (ent_a hk0).2]; rfl
  have he1 : (wl g V)[k1]? = some (g.2.2.1 k1, .inl (g.2.2.2.2 1, n1, .inr (.inl (fun j : Nat => Int64.ofInt (V k1 (j : Int)))))) := by rw [wl_at g V (ak_lt hk1), (ent_a hk1).2]; rfl
  have c1 : (Int32.ofInt sp).toNatClampNeg = sp.toNat := io_cl (by simp at s0; omega)
  have c2 : (Int32.ofInt dp).toNatClampNeg = dp.toNat := io_cl (by simp at s1; omega)
  have c3 : (Int32.ofInt n).toNatClampNeg = n.toNat := io_cl (by simp at s1; omega)
  have ng : ∀ z : Int, 0 ≤ z ∧ z ≤ 2147483647 → ¬ Int32.ofInt z < 0 := fun z hz q => by
    have := (io_lt (a := z) (b := 0) (by omega) (by omega)).mp q
    omega
  refine va_copyl (ty := .long) hx hb (hml.trans hl.1.symm) hown (hts _ hl0) (hts _ cp_nat) (hts _ cp_st) (hts _ cp_in) hW.2.1 hP (wl_D hW.1 V) hS k0 k1 1 1 he0 he1 rfl rfl rfl (ng sp (by simp at s0; omega)) (ng dp (by simp at s1; omega)) (ng n (by simp at s1; omega)) (by rw [c1, c3]; omega) (by rw [c2, c3]; omega) (fun _ _ => rfl) (by have := hD.1; omega) ?_ hdg (fun H1 locs1 hP1 _ hS1 => K hC H1 locs1 lsA ?_ hS1 hl)
  · have h2 := hD.2
    rw [wcat_sum]
    have : nativeFrameWords "java/lang/System" "arraycopy" 5 = 7 := by decide +kernel
    omega
  · have hset : (wl g V).set k1 (g.2.2.1 k1, .inl (g.2.2.2.2 1, n1, .inr (.inl (va_cpy (fun j : Nat => Int64.ofInt (V k0 (j : Int))) (fun j : Nat => Int64.ofInt (V k1 (j : Int))) (Int32.ofInt sp).toNatClampNeg (Int32.ofInt dp).toNatClampNeg (Int32.ofInt n).toNatClampNeg)))) = wl g (upR V k1 (cpS (V k0) (V k1) sp dp n)) := by
      rw [← wl_set g V (ak_lt hk1) (cpS (V k0) (V k1) sp dp n), (ent_a (g := g) (V := V) hk1).1, c1, c2, c3, cpS_l _ _ ⟨hbn.1, hbn.2.1, hbn.2.2.1⟩]
      rfl
    exact hset ▸ hP1
end LS
theorem kX3_49 : Cond.constantLong RX3 49 (Int64.ofInt (-2)) ∈ Gs := (Gs_of (tb_2 (i := 34) (by decide +kernel)) rfl)
theorem kX6_210 : Cond.constantLong RX6 210 (Int64.ofInt (-9223372036854775808)) ∈ Gs := (Gs_of (tb_3 (i := 177) (by decide +kernel)) rfl)
theorem kX7_342 : Cond.constantLong RX7 342 (Int64.ofInt (-9223372036854775808)) ∈ Gs := (Gs_of (tb_6 (i := 52) (by decide +kernel)) rfl)
theorem kL_162 : Cond.constantLong RL 162 (Int64.ofInt (4294967295)) ∈ Gs := (Gs_of (tb_6 (i := 165) (by decide +kernel)) rfl)
end
section
/-! what the floor does, in whole numbers -/
abbrev FS : Type := Int × Int × (Int → Int) × (Int → Int) × (Int → Int) × (Int → Int) × (Int → Int)
abbrev HS : Type := Int × Int × (FS → Int → Int)
def envS (s : FS) (d l : Int) : Int := if l = 0 then d else if l = 1 then s.2.2.1 d else if l = 2 then s.2.2.2.1 d else if l = 3 then s.2.2.2.2.2.1 (8 * d) else if l = 4 then s.2.2.2.2.1 d else s.2.1 % 10
/-- a comparison: 0 below, 1 same, else above -/
def cmpB (m : Int) (x y : Int) : Bool := if m = 0 then decide (x < y) else if m = 1 then decide (x = y) else decide (y < x)
/-- a test of the class's codes -/
def tstC (c : Int) (s : FS) (d : Int) : Bool := cmpB (c / 100 % 3) (envS s d (c / 100 / 3)) (c % 100)
def b2i (b : Bool) : Int := if b then 1 else 0
def shr1 (h : Int64) : Int64 := (h.toUInt64 >>> ((Int32.ofInt 1).toInt64.toUInt64 &&& Int64.toUInt64 63)).toInt64
def hldC (c : Int) (s : FS) (d : Int) (h : Int64) : Int64 :=
  if c = -1 then h ^^^ Int64.ofInt 1 else if c = -2 then shr1 h &&& (h ||| Int64.ofInt (-2))
  else if c = -3 then shr1 h ||| (h &&& Int64.ofInt 1)
  else (h <<< ((Int32.ofInt 1).toInt64 &&& 63)) ||| Int64.ofInt (b2i (tstC c s d))
def evC (co : Int → Int) (s : FS) (d : Int) : Nat → Int → Int64 → Int64
  | 0, _, h => h
  | n + 1, i, h => evC co s d n (i + 1) (hldC (co i) s d h)
def holC (co : Int → Int) (s : FS) (d fr to : Int) : Bool := decide (evC co s d (to - fr).toNat fr (Int64.ofInt 0) &&& Int64.ofInt 1 = Int64.ofInt 1)
def stC (am en co : Int → Int) (s : FS) (d : Int) : Nat → Int → Int → Int → Int
  | 0, _, _, sum => sum
  | n + 1, i, fr, sum => stC am en co s d n (i + 1) (en i) (if holC co s d fr (en i) then sum + am i else sum)
/-- the class's STEP at the hall that lies at place h -/
def stepC (V : MM) (h : Nat) (s : FS) (d : Int) : Int := stC (V (h + 1)) (V (h + 2)) (V (h + 3)) s d (V h 2).toNat 0 0 0
/-- the class's hall as a memory holds it -/
def HInv (V : MM) (h : Nat) : Prop := isH h ∧ (1 ≤ V h 0 ∧ V h 0 ≤ 99) ∧ (0 ≤ V h 1 ∧ V h 1 ≤ 99) ∧ (0 ≤ V h 2 ∧ V h 2 ≤ 10) ∧ (∀ i, 0 ≤ i ∧ i < V h 2 → (-99 ≤ V (h + 1) i ∧ V (h + 1) i ≤ 99) ∧ (0 ≤ V (h + 2) i ∧ V (h + 2) i ≤ 100)) ∧ (∀ i, 0 ≤ i ∧ i < 100 → -3 ≤ V (h + 3) i ∧ V (h + 3) i ≤ 1799)
/-- the hall at h means hs -/
def HlC (V : MM) (h : Nat) (hs : HS) : Prop := HInv V h ∧ hs = (V h 0, V h 1, stepC V h)
abbrev fsC (V : MM) (f : Nat) : FS := (V f 0, V f 1, V (f + 1), V (f + 2), V (f + 3), V (f + 4), V (f + 5))
theorem fsC_1 (V : MM) (f : Nat) : (fsC V f).1 = V f 0 := rfl
theorem fsC_2 (V : MM) (f : Nat) : (fsC V f).2.1 = V f 1 := rfl
theorem fsC_3 (V : MM) (f : Nat) : (fsC V f).2.2.1 = V (f + 1) := rfl
theorem fsC_4 (V : MM) (f : Nat) : (fsC V f).2.2.2.1 = V (f + 2) := rfl
theorem fsC_5 (V : MM) (f : Nat) : (fsC V f).2.2.2.2.1 = V (f + 3) := rfl
theorem fsC_6 (V : MM) (f : Nat) : (fsC V f).2.2.2.2.2.1 = V (f + 4) := rfl
theorem fsC_7 (V : MM) (f : Nat) : (fsC V f).2.2.2.2.2.2 = V (f + 5) := rfl
/-- a floor that is as it must be, for places below w -/
def FInv (w : Int) (s : FS) : Prop := (0 ≤ s.1 ∧ s.1 ≤ 6) ∧ (0 ≤ s.2.1 ∧ s.2.1 ≤ 20000) ∧ (∀ d, 0 ≤ d ∧ d < 6 → (0 ≤ s.2.2.1 d ∧ s.2.2.1 d ≤ 6) ∧ (0 ≤ s.2.2.2.1 d ∧ s.2.2.2.1 d ≤ 9)) ∧ (∀ d, 0 ≤ d ∧ d < s.1 → 0 ≤ s.2.2.2.2.1 d ∧ s.2.2.2.2.1 d < s.1) ∧ (∀ i, 0 ≤ i ∧ i < 48 → 0 ≤ s.2.2.2.2.2.1 i ∧ s.2.2.2.2.2.1 i < w) ∧ (∀ i, 0 ≤ i ∧ i < 24 → 0 ≤ s.2.2.2.2.2.2 i ∧ s.2.2.2.2.2.2 i ≤ 9)
/-- the floor at f of the memory V is s; its hall means hs -/
def FlC (V : MM) (f : Nat) (hs : HS) (s : FS) : Prop := isF f ∧ s = fsC V f ∧ HlC V (V f 2).toNat hs ∧ 0 ≤ V f 2 ∧ FInv hs.1 s
/-- where one would go that is lazy; that mirrors -/
def lzS (hs : HS) (s : FS) (d : Int) : Int := if s.2.1 % (s.2.2.2.1 d + 2) = 0 then s.2.2.2.2.2.1 (8 * d) else s.2.2.2.2.2.1 (8 * s.2.2.2.2.1 d + 2) + hs.2.2 s d
def miS (hs : HS) (s : FS) (d : Int) : Int := hs.1 - 1 - s.2.2.2.2.2.1 (8 * s.2.2.2.2.1 d + 2) + hs.2.2 s d
def goesS (hs : HS) (s : FS) (d : Int) : Int :=
  if s.2.2.1 d = 1 then (s.2.2.2.2.2.1 (8 * s.2.2.2.2.1 d + 3) + hs.2.2 s d) % hs.1
  else if s.2.2.1 d = 2 then miS hs s d % hs.1
  else if s.2.2.1 d = 3 then lzS hs s d % hs.1
  else if s.2.2.1 d = 4 then (s.2.2.2.2.2.1 (8 * d) + (s.2.2.2.2.2.1 (8 * s.2.2.2.2.1 d + 3) + hs.2.2 s d - s.2.2.2.2.2.1 (8 * d)) % hs.1 / 2) % hs.1
  else if s.2.2.1 d = 5 then (miS hs s d + s.2.1 % 3) % hs.1
  else if s.2.2.1 d = 6 then (lzS hs s d + s.2.2.2.2.2.2 (4 * d + s.2.1 % 4)) % hs.1
  else (s.2.2.2.2.2.1 (8 * s.2.2.2.2.1 d + 2) + hs.2.2 s d) % hs.1
/-- does the band stop behind this beat -/
def stopS (hs : HS) (s : FS) : Bool := decide (0 < hs.2.1) && decide ((s.2.1 + 1) % hs.2.1 = 0)
/-- where each is behind the next beat -/
def wasS (hs : HS) (stop : Bool) (s : FS) : Int → Int := fun i => if 0 ≤ i ∧ i < 8 * s.1 then (if i % 8 = 0 then (if stop || stopS hs s then s.2.2.2.2.2.1 i else goesS hs s (i / 8)) else s.2.2.2.2.2.1 (i - 1)) else s.2.2.2.2.2.1 i
def goS (hs : HS) (stop : Bool) (s : FS) : FS := (s.1, s.2.1 + 1, s.2.2.1, s.2.2.2.1, s.2.2.2.2.1, wasS hs stop s, s.2.2.2.2.2.2)
/-- all is as it was but from f on w places -/
def Sm (V V' : MM) (f w : Nat) : Prop := ∀ k : Nat, k < f ∨ f + w ≤ k → V' k = V k
/-- all of a row from 8d on, b places, are p -/
def layS (wa : Int → Int) (d p b : Int) : Int → Int := fun i => if 8 * d ≤ i ∧ i < 8 * d + b then p else wa i
theorem layS_0 (wa : Int → Int) (d p : Int) : layS wa d p 0 = wa := by
  funext i
  unfold layS
  rw [if_neg (by omega)]
theorem layS_1 (wa : Int → Int) {d p b j : Int} (hb : 0 ≤ b) (hj : j = 8 * d + b) : ur (layS wa d p b) j p = layS wa d p (b + 1) := by
  funext i
  subst hj
  unfold ur layS
  by_cases h1 : i = 8 * d + b
  · rw [if_pos h1, if_pos (by omega)]
  · rw [if_neg h1]
    by_cases h2 : 8 * d ≤ i ∧ i < 8 * d + b
    · rw [if_pos h2, if_pos (by omega)]
    · rw [if_neg h2, if_neg (by omega)]
theorem FlC.facts {V : MM} {f : Nat} {hs : HS} {s : FS} (h : FlC V f hs s) : isF f ∧ s = fsC V f ∧ (0 ≤ V f 0 ∧ V f 0 ≤ 6) ∧ (0 ≤ V f 1 ∧ V f 1 ≤ 20000) ∧ (∀ d, 0 ≤ d ∧ d < 6 → (0 ≤ V (f + 1) d ∧ V (f + 1) d ≤ 6) ∧ (0 ≤ V (f + 2) d ∧ V (f + 2) d ≤ 9)) ∧ (∀ d, 0 ≤ d ∧ d < V f 0 → 0 ≤ V (f + 3) d ∧ V (f + 3) d < V f 0) ∧ (∀ i, 0 ≤ i ∧ i < 48 → 0 ≤ V (f + 4) i ∧ V (f + 4) i < V (V f 2).toNat 0) ∧ (∀ i, 0 ≤ i ∧ i < 24 → 0 ≤ V (f + 5) i ∧ V (f + 5) i ≤ 9) ∧ HInv V (V f 2).toNat ∧ 0 ≤ V f 2 ∧ hs = (V (V f 2).toNat 0, V (V f 2).toNat 1, stepC V (V f 2).toNat) := by
  obtain ⟨h1, rfl, ⟨h3, rfl⟩, h4, h5, h6, h7, h8, h9, h10⟩ := h
  exact ⟨h1, rfl, h5, h6, h7, h8, h9, h10, h3, h4, rfl⟩
theorem env_rg {w : Int} {s : FS} {d : Int} (l : Int) (h : FInv w s) (hw : w ≤ 99) (hd : 0 ≤ d ∧ d < s.1) : 0 ≤ envS s d l ∧ envS s d l ≤ 99 := by
  obtain ⟨h1, h2, h3, h4, h5, h6⟩ := h
  have a1 := h3 d (by omega)
  have a2 := h4 d hd
  have a3 := h5 (8 * d) (by omega)
  have a4 := Int.emod_nonneg s.2.1 (show (10 : Int) ≠ 0 by omega)
  have a5 := Int.emod_lt_of_pos s.2.1 (show (0 : Int) < 10 by omega)
  unfold envS
  repeat' split
  all_goals omega
theorem st_rg (am en co : Int → Int) (s : FS) (d : Int) (N : Int) (h : ∀ i, 0 ≤ i ∧ i < N → -99 ≤ am i ∧ am i ≤ 99) : ∀ (n : Nat) (i fr sum : Int), 0 ≤ i → i + n = N → (-99 * i ≤ sum ∧ sum ≤ 99 * i) → -99 * N ≤ stC am en co s d n i fr sum ∧ stC am en co s d n i fr sum ≤ 99 * N := by
  intro n
  induction n with
  | zero => intro i fr sum h0 h1 h2; unfold stC; simp at h1; subst h1; exact h2
  | succ n ih =>
    intro i fr sum h0 h1 h2
    unfold stC
    have h3 := h i (by omega)
    refine ih (i + 1) (en i) _ (by omega) (by omega) ?_
    split <;> omega
theorem step_rg {V : MM} {h : Nat} (hH : HInv V h) (s : FS) (d : Int) : -990 ≤ stepC V h s d ∧ stepC V h s d ≤ 990 := by
  obtain ⟨-, -, -, hn, ha, -⟩ := hH
  have := st_rg (V (h + 1)) (V (h + 2)) (V (h + 3)) s d (V h 2) (fun i hi => (ha i hi).1) (V h 2).toNat 0 0 0 (by omega) (by omega) (by omega)
  unfold stepC
  omega
theorem stepC_cong {V V' : MM} {h : Nat} (hh : isH h) (h2 : ∀ k : Nat, 43 ≤ k → k < 71 → V' k = V k) : stepC V' h = stepC V h := by
  have hb : 43 ≤ h ∧ h ≤ 67 := by unfold isH at hh; omega
  funext s d
  unfold stepC
  rw [h2 h (by omega) (by omega), h2 (h + 1) (by omega) (by omega), h2 (h + 2) (by omega) (by omega), h2 (h + 3) (by omega) (by omega)]
theorem HInv_cong {V V' : MM} {h : Nat} (hH : HInv V h) (h2 : ∀ k : Nat, 43 ≤ k → k < 71 → V' k = V k) : HInv V' h := by
  have hh := hH.1
  have hb : 43 ≤ h ∧ h ≤ 67 := by unfold isH at hh; omega
  unfold HInv
  rw [h2 h (by omega) (by omega), h2 (h + 1) (by omega) (by omega), h2 (h + 2) (by omega) (by omega), h2 (h + 3) (by omega) (by omega)]
  exact hH
theorem HlC_cong {V V' : MM} {h : Nat} {hs : HS} (hH : HlC V h hs) (h2 : ∀ k : Nat, 43 ≤ k → k < 71 → V' k = V k) : HlC V' h hs := by
  have hh := hH.1.1
  have hb : 43 ≤ h ∧ h ≤ 67 := by unfold isH at hh; omega
  refine ⟨HInv_cong hH.1 h2, ?_⟩
  rw [stepC_cong hh h2, h2 h (by omega) (by omega)]
  exact hH.2
theorem isF_b {f : Nat} (h : isF f) : 8 ≤ f ∧ f + 7 ≤ 29 := by unfold isF at h; omega
theorem FlC.cong {V V' : MM} {f : Nat} {hs : HS} {s : FS} (h : FlC V f hs s) (h1 : ∀ k : Nat, f ≤ k → k < f + 6 → V' k = V k) (h2 : ∀ k : Nat, 43 ≤ k → k < 71 → V' k = V k) : FlC V' f hs s := by
  obtain ⟨hf, rfl, hH, h0, hI⟩ := h
  have e0 := h1 f (by omega) (by omega)
  have e : fsC V' f = fsC V f := by
    show (V' f 0, V' f 1, V' (f + 1), V' (f + 2), V' (f + 3), V' (f + 4), V' (f + 5)) = _
    rw [e0, h1 (f + 1) (by omega) (by omega), h1 (f + 2) (by omega) (by omega), h1 (f + 3) (by omega) (by omega), h1 (f + 4) (by omega) (by omega), h1 (f + 5) (by omega) (by omega)]
  refine ⟨hf, e.symm, ?_, by rw [e0]; exact h0, hI⟩
  rw [e0]
  exact HlC_cong hH h2
theorem goes_rg {hs : HS} (s : FS) (d : Int) (hw : 1 ≤ hs.1) : 0 ≤ goesS hs s d ∧ goesS hs s d < hs.1 := by
  unfold goesS
  repeat' split
  all_goals exact ⟨Int.emod_nonneg _ (by omega), Int.emod_lt_of_pos _ (by omega)⟩
def nxS (hs : HS) (stop : Bool) (s : FS) (d : Int) : Int := if stop || stopS hs s then s.2.2.2.2.2.1 (8 * d) else goesS hs s d
theorem nx_rg {hs : HS} {s : FS} (stop : Bool) (hI : FInv hs.1 s) (hw : 1 ≤ hs.1) {d : Int} (hd : 0 ≤ d ∧ d < s.1) : 0 ≤ nxS hs stop s d ∧ nxS hs stop s d < hs.1 := by
  unfold nxS
  split
  · exact hI.2.2.2.2.1 (8 * d) (by have := hI.1; omega)
  · exact goes_rg s d hw
theorem was_in {hs : HS} {s : FS} (stop : Bool) (i : Int) : wasS hs stop s i = if 0 ≤ i ∧ i < 8 * s.1 then (if i % 8 = 0 then nxS hs stop s (i / 8) else s.2.2.2.2.2.1 (i - 1)) else s.2.2.2.2.2.1 i := by
  unfold wasS nxS
  by_cases h : 0 ≤ i ∧ i < 8 * s.1
  · rw [if_pos h, if_pos h]
    by_cases h2 : i % 8 = 0
    · rw [if_pos h2, if_pos h2]
      have e : 8 * (i / 8) = i := by omega
      rw [e]
    · rw [if_neg h2, if_neg h2]
  · rw [if_neg h, if_neg h]
theorem go_inv {hs : HS} {s : FS} (stop : Bool) (hI : FInv hs.1 s) (hw : 1 ≤ hs.1) (hb : s.2.1 < 20000) : FInv hs.1 (goS hs stop s) := by
  obtain ⟨h1, h2, h3, h4, h5, h6⟩ := id hI
  refine ⟨h1, ?_, h3, h4, fun i hi => ?_, h6⟩
  · show 0 ≤ s.2.1 + 1 ∧ s.2.1 + 1 ≤ 20000
    omega
  · show 0 ≤ wasS hs stop s i ∧ wasS hs stop s i < hs.1
    rw [was_in]
    split
    · split
      · exact nx_rg stop hI hw (by omega)
      · exact h5 (i - 1) (by omega)
    · exact h5 i hi
theorem stop_j {hs : HS} {s : FS} : stopS hs s = true ↔ (0 < hs.2.1 ∧ (s.2.1 + 1) % hs.2.1 = 0) := by simp [stopS]
end
section
theorem xo_sgn {x y : Int} (hx : -2147483648 ≤ x ∧ x ≤ 2147483647) (hy : 0 < y ∧ y ≤ 2147483647) : 0 ≤ (Int32.ofInt x ^^^ Int32.ofInt y).toInt ↔ 0 ≤ x := by
  have e : ∀ z : Int32, 0 ≤ z.toInt ↔ z.toBitVec.msb = false := fun z => by
    rw [BitVec.msb_eq_toInt]
    show 0 ≤ z.toBitVec.toInt ↔ _
    rw [decide_eq_false_iff_not]
    omega
  have h1 := e (Int32.ofInt x)
  have h2 := e (Int32.ofInt y)
  rw [io_toInt hx] at h1
  rw [io_toInt (by omega)] at h2
  rw [e, Int32.toBitVec_xor, BitVec.msb_xor, h2.mp (by omega), Bool.xor_false, h1]
theorem tm_pos {x y : Int} (h : 0 ≤ x) : x.tmod y = x % y := Int.tmod_eq_emod_of_nonneg h
theorem tm_neg {x y : Int} (h : x < 0) (hy : 0 < y) : (x.tmod y = 0 ∧ x % y = 0) ∨ (x.tmod y < 0 ∧ x.tmod y + y = x % y) := by
  have h0 := Int.tmod_nonneg (a := -x) y (by omega)
  have h00 := Int.tmod_lt_of_pos (-x) hy
  rw [Int.neg_tmod] at h0 h00
  have h3 : x % y = (x.tmod y) % y := by
    have e := Int.mul_tdiv_add_tmod x y
    have e2 : x = x.tmod y + y * (x.tdiv y) := by omega
    conv => lhs; rw [e2]
    rw [Int.add_mul_emod_self_left]
  have h1 : x.tmod y ≤ 0 := by omega
  have h2 : -y < x.tmod y := by omega
  have h4 : 0 ≤ x % y := Int.emod_nonneg _ (by omega)
  have h5 : x % y < y := Int.emod_lt_of_pos _ hy
  by_cases h6 : x.tmod y = 0
  · rw [h6] at h3
    exact Or.inl ⟨h6, by simpa using h3⟩
  · refine Or.inr ⟨by omega, ?_⟩
    rw [h3, ← Int.add_emod_right, Int.emod_eq_of_lt (by omega) (by omega)]

theorem tm_bounds {x y : Int} (hx : -2147483648 ≤ x ∧ x ≤ 2147483647) (hy : 0 < y ∧ y ≤ 2147483647) : -2147483648 ≤ x.tmod y ∧ x.tmod y ≤ 2147483647 := by
  have h2 := Int.tmod_lt_of_pos x hy.1
  have h00 := Int.tmod_lt_of_pos (-x) hy.1
  rw [Int.neg_tmod] at h00
  omega

theorem c_floorMod {g : GC} {V : MM} {x y : Int} (rx : -2147483648 ≤ x ∧ x ≤ 2147483647) (hy : 0 < y ∧ y ≤ 2147483647) : Ct g mJ9_floorMod_7cf53 1 [vi x, vi y] V (RE V (x % y)) := by
  refine Ct.of (ls := [some (vi x), some (vi y), none]) (by decide +kernel) rfl (by exact Nat.le_of_ble_eq_true rfl) (fun X hz hD => ?_)
  have hs := xo_sgn rx hy
  refine S_il0 qJ9_floorMod_7cf53_0 ?_
  refine S_il1 qJ9_floorMod_7cf53_1 ?_
  refine S_iremT (d := qJ9_floorMod_7cf53_2) (k := ?_)
  refine S_is2 qJ9_floorMod_7cf53_3 (K := ?_)
  refine S_il0 qJ9_floorMod_7cf53_4 ?_
  refine S_il1 qJ9_floorMod_7cf53_5 ?_
  refine S_ixor qJ9_floorMod_7cf53_6 ?_
  refine S_if_ge (d := qJ9_floorMod_7cf53_7) (ha := io_rg _) (kt := fun c7 => ?_) (kf := fun c7 => ?_)
  · refine S_il2 qJ9_floorMod_7cf53_18 ?_
    refine S_iret hz qJ9_floorMod_7cf53_19 ?_
    refine RE.mk ?_
    first | exact tm_pos (hs.mp c7) | (have h7 : x < 0 := by omega
                                       rcases tm_neg h7 hy.1 with h | h <;> omega)
  · refine S_il2 qJ9_floorMod_7cf53_10 ?_
    refine S_if_eq (d := qJ9_floorMod_7cf53_11) (ha := by have := tm_bounds rx hy; omega) (kt := fun c11 => ?_) (kf := fun c11 => ?_)
    · refine S_il2 qJ9_floorMod_7cf53_18 ?_
      refine S_iret hz qJ9_floorMod_7cf53_19 ?_
      refine RE.mk ?_
      first | exact tm_pos (hs.mp c7) | (have h7 : x < 0 := by omega
                                         rcases tm_neg h7 hy.1 with h | h <;> omega)
    · refine S_il2 qJ9_floorMod_7cf53_14 ?_
      refine S_il1 qJ9_floorMod_7cf53_15 ?_
      refine S_iadd qJ9_floorMod_7cf53_16 ?_
      refine S_iret hz qJ9_floorMod_7cf53_17 ?_
      refine RE.mk ?_
      have h7 : x < 0 := by omega
      rcases tm_neg h7 hy.1 with h | h <;> omega

theorem c_modulo {g : GC} {V : MM} {x y : Int} (rx : -2147483648 ≤ x ∧ x ≤ 2147483647) (hy : 0 < y ∧ y ≤ 2147483647) : Ct g mX6_modulo 2 [vi x, vi y] V (RE V (x % y)) := by
  refine Ct.of (ls := [some (vi x), some (vi y)]) (plainFor_of_name (by decide +kernel)) rfl (by exact Nat.le_of_ble_eq_true rfl) (fun X hz hD => ?_)
  refine S_il1 qX6_modulo_0 ?_
  refine S_iconst qX6_modulo_1 ?_
  refine S_icmp_ge (d := qX6_modulo_2) (kt := fun c2 => ?_) (kf := fun c2 => ?_)
  rotate_left
  · omega
  refine S_il0 qX6_modulo_9 ?_
  refine S_il1 qX6_modulo_10 ?_
  refine S_S2E hD qX6_modulo_11 lX6_284 sJ9_floorMod_7cf53 (c_floorMod (by omega) (by omega)) (K := ?_)
  refine S_iret hz qX6_modulo_14 ?_
  exact RE.mk (by first | rfl | omega)

theorem c_max {g : GC} {V : MM} {x y : Int} (rx : -2147483648 ≤ x ∧ x ≤ 2147483647) (ry : -2147483648 ≤ y ∧ y ≤ 2147483647) : Ct g mJ9_max_7cf53 1 [vi x, vi y] V (RE V ((if x < y then y else x))) := by
  refine Ct.of (ls := [some (vi x), some (vi y)]) (by decide +kernel) rfl (by exact Nat.le_of_ble_eq_true rfl) (fun X hz hD => ?_)
  refine S_il0 qJ9_max_7cf53_0 ?_
  refine S_il1 qJ9_max_7cf53_1 ?_
  refine S_icmp_lt (d := qJ9_max_7cf53_2) (kt := fun c2 => ?_) (kf := fun c2 => ?_)
  · refine S_il1 qJ9_max_7cf53_9 ?_
    refine S_iret hz qJ9_max_7cf53_10 ?_
    exact RE.mk (by split <;> omega)
  · refine S_il0 qJ9_max_7cf53_5 ?_
    refine S_goto qJ9_max_7cf53_6 ?_
    refine S_iret hz qJ9_max_7cf53_10 ?_
    exact RE.mk (by split <;> omega)

theorem c_min {g : GC} {V : MM} {x y : Int} (rx : -2147483648 ≤ x ∧ x ≤ 2147483647) (ry : -2147483648 ≤ y ∧ y ≤ 2147483647) : Ct g mJ9_min_7cf53 1 [vi x, vi y] V (RE V ((if y < x then y else x))) := by
  refine Ct.of (ls := [some (vi x), some (vi y)]) (by decide +kernel) rfl (by exact Nat.le_of_ble_eq_true rfl) (fun X hz hD => ?_)
  refine S_il0 qJ9_min_7cf53_0 ?_
  refine S_il1 qJ9_min_7cf53_1 ?_
  refine S_icmp_gt (d := qJ9_min_7cf53_2) (kt := fun c2 => ?_) (kf := fun c2 => ?_)
  · refine S_il1 qJ9_min_7cf53_9 ?_
    refine S_iret hz qJ9_min_7cf53_10 ?_
    exact RE.mk (by split <;> omega)
  · refine S_il0 qJ9_min_7cf53_5 ?_
    refine S_goto qJ9_min_7cf53_6 ?_
    refine S_iret hz qJ9_min_7cf53_10 ?_
    exact RE.mk (by split <;> omega)

theorem c_has {g : GC} {f : Nat} {V : MM} {d : Int} (hf : isF f) (rd : -2147483648 ≤ d ∧ d ≤ 2147483647) (hn : 0 ≤ V f 0 ∧ V f 0 ≤ 6) : Ct g mX2_has 1 [vr f, vi d] V (RB V (0 ≤ d ∧ d < V f 0)) := by
  refine Ct.of (ls := [some (vr f), some (vi d)]) (plainFor_of_name (by decide +kernel)) rfl (by exact Nat.le_of_ble_eq_true rfl) (fun X hz hD => ?_)
  refine S_il1 qX2_has_0 ?_
  refine S_if_lt (d := qX2_has_1) (kt := fun c1 => ?_) (kf := fun c1 => ?_)
  · refine S_iconst qX2_has_22 ?_
    refine S_zret hz qX2_has_23 (by omega) ?_
    exact RB.mk (by omega)
  · refine S_il1 qX2_has_4 ?_
    refine S_al0 qX2_has_5 ?_
    refine S_getI qX2_has_6 fX2_34 (F_0 hf) ?_
    refine S_icmp_ge (d := qX2_has_9) (kt := fun c9 => ?_) (kf := fun c9 => ?_)
    · refine S_iconst qX2_has_22 ?_
      refine S_zret hz qX2_has_23 (by omega) ?_
      exact RB.mk (by omega)
    · refine S_il1 qX2_has_12 ?_
      refine S_bipush (d := qX2_has_13) (k := ?_)
      refine S_icmp_ge (d := qX2_has_15) (kt := fun c15 => ?_) (kf := fun c15 => ?_)
      · refine S_iconst qX2_has_22 ?_
        refine S_zret hz qX2_has_23 (by omega) ?_
        exact RB.mk (by omega)
      · refine S_iconst qX2_has_18 ?_
        refine S_goto qX2_has_19 ?_
        refine S_zret hz qX2_has_23 (by omega) ?_
        exact RB.mk (by omega)

theorem c_hasPlace {g : GC} {f : Nat} {V : MM} {d : Int} (hf : isF f) (hh : isH (V f 2).toNat) (rd : -2147483648 ≤ d ∧ d ≤ 2147483647) (hw : 1 ≤ V (V f 2).toNat 0 ∧ V (V f 2).toNat 0 ≤ 99) : Ct g mX2_hasPlace 1 [vr f, vi d] V (RB V (0 ≤ d ∧ d < V (V f 2).toNat 0)) := by
  refine Ct.of (ls := [some (vr f), some (vi d)]) (plainFor_of_name (by decide +kernel)) rfl (by exact Nat.le_of_ble_eq_true rfl) (fun X hz hD => ?_)
  refine S_il1 qX2_hasPlace_0 ?_
  refine S_if_lt (d := qX2_hasPlace_1) (kt := fun c1 => ?_) (kf := fun c1 => ?_)
  · refine S_iconst qX2_hasPlace_19 ?_
    refine S_zret hz qX2_hasPlace_20 (by omega) ?_
    exact RB.mk (by omega)
  · refine S_il1 qX2_hasPlace_4 ?_
    refine S_al0 qX2_hasPlace_5 ?_
    refine S_getH qX2_hasPlace_6 fX2_30 (F_2 hf) ?_
    refine S_getI qX2_hasPlace_9 fX2_47 (H_0 hh) ?_
    refine S_icmp_ge (d := qX2_hasPlace_12) (kt := fun c12 => ?_) (kf := fun c12 => ?_)
    · refine S_iconst qX2_hasPlace_19 ?_
      refine S_zret hz qX2_hasPlace_20 (by omega) ?_
      exact RB.mk (by omega)
    · refine S_iconst qX2_hasPlace_15 ?_
      refine S_goto qX2_hasPlace_16 ?_
      refine S_zret hz qX2_hasPlace_20 (by omega) ?_
      exact RB.mk (by omega)

theorem c_wasOf {g : GC} {f : Nat} {V : MM} {d k : Int} (hf : isF f) (rd : 0 ≤ d ∧ d < V f 0) (rk : 0 ≤ k ∧ k < 8) (hn : V f 0 ≤ 6) : Ct g mX2_wasOf 2 [vr f, vi d, vi k] V (RE V (V (f + 4) (8 * d + k))) := by
  refine Ct.of (ls := [some (vr f), some (vi d), some (vi k)]) (plainFor_of_name (by decide +kernel)) rfl (by exact Nat.le_of_ble_eq_true rfl) (fun X hz hD => ?_)
  refine S_al0 qX2_wasOf_0 ?_
  refine S_il1 qX2_wasOf_1 ?_
  refine S_V1B hD qX2_wasOf_2 lX2_52 vX2_has (F_r hf) (c_has hf (by omega) (by omega)) (kt := fun j2 => ?_) (kf := fun j2 => ?_)
  · refine S_if_eq (d := qX2_wasOf_5) (kt := fun c => absurd c (by decide)) (kf := fun _ => ?_)
    refine S_il2 qX2_wasOf_8 ?_
    refine S_if_lt (d := qX2_wasOf_9) (kt := fun c9 => ?_) (kf := fun c9 => ?_)
    · refine S_iconst qX2_wasOf_32 ?_
      refine S_iret hz qX2_wasOf_33 ?_
      first | (exfalso; omega) | exact RE.mk (congrArg _ (by omega))
    · refine S_il2 qX2_wasOf_12 ?_
      refine S_bipush (d := qX2_wasOf_13) (k := ?_)
      refine S_icmp_ge (d := qX2_wasOf_15) (kt := fun c15 => ?_) (kf := fun c15 => ?_)
      · refine S_iconst qX2_wasOf_32 ?_
        refine S_iret hz qX2_wasOf_33 ?_
        first | (exfalso; omega) | exact RE.mk (congrArg _ (by omega))
      · refine S_al0 qX2_wasOf_18 ?_
        refine S_getR qX2_wasOf_19 fX2_21 (F_6 hf) ?_
        refine S_il1 qX2_wasOf_22 ?_
        refine S_bipush (d := qX2_wasOf_23) (k := ?_)
        refine S_imul qX2_wasOf_25 ?_
        refine S_il2 qX2_wasOf_26 ?_
        refine S_iadd qX2_wasOf_27 ?_
        refine S_iald qX2_wasOf_28 (Fa_4 hf) (K := ?_)
        refine S_goto qX2_wasOf_29 ?_
        refine S_iret hz qX2_wasOf_33 ?_
        first | (exfalso; omega) | exact RE.mk (congrArg _ (by omega))
  · refine S_if_eq (d := qX2_wasOf_5) (kt := fun _ => ?_) (kf := fun c => absurd c (by decide))
    refine S_iconst qX2_wasOf_32 ?_
    refine S_iret hz qX2_wasOf_33 ?_
    first | (exfalso; omega) | exact RE.mk (congrArg _ (by omega))

theorem c_follow {g : GC} {f : Nat} {V : MM} {d k : Int} (hf : isF f) (rd : 0 ≤ d ∧ d < V f 0) (rk : 0 ≤ k ∧ k < V f 0) (hn : V f 0 ≤ 6) : Ct g mX2_follow 2 [vr f, vi d, vi k] V (RW (upR V (f + 3) (ur (V (f + 3)) d k))) := by
  refine Ct.of (ls := [some (vr f), some (vi d), some (vi k)]) (plainFor_of_name (by decide +kernel)) rfl (by exact Nat.le_of_ble_eq_true rfl) (fun X hz hD => ?_)
  refine S_al0 qX2_follow_0 ?_
  refine S_il1 qX2_follow_1 ?_
  refine S_V1B hD qX2_follow_2 lX2_52 vX2_has (F_r hf) (c_has hf (by omega) (by omega)) (kt := fun j2 => ?_) (kf := fun j2 => ?_)
  · refine S_if_eq (d := qX2_follow_5) (kt := fun c => absurd c (by decide)) (kf := fun _ => ?_)
    refine S_al0 qX2_follow_8 ?_
    refine S_il2 qX2_follow_9 ?_
    refine S_V1B hD qX2_follow_10 lX2_52 vX2_has (F_r hf) (c_has hf (by omega) (by omega)) (kt := fun j10 => ?_) (kf := fun j10 => ?_)
    · refine S_if_eq (d := qX2_follow_13) (kt := fun c => absurd c (by decide)) (kf := fun _ => ?_)
      refine S_al0 qX2_follow_16 ?_
      refine S_getR qX2_follow_17 fX2_18 (F_5 hf) ?_
      refine S_il1 qX2_follow_20 ?_
      refine S_il2 qX2_follow_21 ?_
      refine S_iast qX2_follow_22 (Fa_3 hf) (K := ?_)
      refine S_vret hz qX2_follow_23 ?_
      first | (exfalso; omega) | exact RW.mk rfl
    · refine S_if_eq (d := qX2_follow_13) (kt := fun _ => ?_) (kf := fun c => absurd c (by decide))
      refine S_vret hz qX2_follow_23 ?_
      first | (exfalso; omega) | exact RW.mk rfl
  · refine S_if_eq (d := qX2_follow_5) (kt := fun _ => ?_) (kf := fun c => absurd c (by decide))
    refine S_vret hz qX2_follow_23 ?_
    first | (exfalso; omega) | exact RW.mk rfl

theorem c_isLazyNow {g : GC} {f : Nat} {V : MM} {d : Int} (hf : isF f) (rd : 0 ≤ d ∧ d < 6) (rv : 0 ≤ V (f + 2) d ∧ V (f + 2) d ≤ 9) (rb : 0 ≤ V f 1 ∧ V f 1 ≤ 20000) : Ct g mX2_isLazyNow 3 [vr f, vi d] V (RB V (V f 1 % (V (f + 2) d + 2) = 0)) := by
  refine Ct.of (ls := [some (vr f), some (vi d)]) (plainFor_of_name (by decide +kernel)) rfl (by exact Nat.le_of_ble_eq_true rfl) (fun X hz hD => ?_)
  have hm := Int.emod_nonneg (V f 1) (show V (f + 2) d + 2 ≠ 0 by omega)
  have hm2 := Int.emod_lt_of_pos (V f 1) (show 0 < V (f + 2) d + 2 by omega)
  refine S_al0 qX2_isLazyNow_0 ?_
  refine S_getI qX2_isLazyNow_1 fX2_38 (F_1 hf) ?_
  refine S_al0 qX2_isLazyNow_4 ?_
  refine S_getR qX2_isLazyNow_5 fX2_15 (F_4 hf) ?_
  refine S_il1 qX2_isLazyNow_8 ?_
  refine S_iald qX2_isLazyNow_9 (Fa_2 hf) (K := ?_)
  refine S_iconst qX2_isLazyNow_10 ?_
  refine S_iadd qX2_isLazyNow_11 ?_
  refine S_S2E hD qX2_isLazyNow_12 lX2_60 sX6_modulo (c_modulo (by omega) (by omega)) (K := ?_)
  refine S_if_ne (d := qX2_isLazyNow_15) (kt := fun c15 => ?_) (kf := fun c15 => ?_)
  · refine S_iconst qX2_isLazyNow_22 ?_
    refine S_zret hz qX2_isLazyNow_23 (by omega) ?_
    exact RB.mk (by omega)
  · refine S_iconst qX2_isLazyNow_18 ?_
    refine S_goto qX2_isLazyNow_19 ?_
    refine S_zret hz qX2_isLazyNow_23 (by omega) ?_
    exact RB.mk (by omega)
end
section
theorem lay_loop {g : GC} {X : CX} {Q : Option AV → MM → Prop} {f : Nat} {V : MM} {d p : Int} (hf : isF f) (rd : 0 ≤ d ∧ d < 6) (hz : Fi g X none Q) (hQ : Q none (upR V (f + 4) (layS (V (f + 4)) d p 8))) : ∀ (n : Nat) (b : Int), 0 ≤ b → b ≤ 8 → (8 - b).toNat < n → SW g X RX2 cX2_standAt 11 [some (vr f), some (vi d), some (vi p), some (vi b)] [] (upR V (f + 4) (layS (V (f + 4)) d p b)) := by
  intro n
  induction n with
  | zero => intro b _ _ h; omega
  | succ n ih =>
    intro b h0 h8 hn
    refine S_il3 qX2_standAt_11 ?_
    refine S_bipush (d := qX2_standAt_12) (k := ?_)
    refine S_icmp_ge (d := qX2_standAt_14) (kt := fun c14 => ?_) (kf := fun c14 => ?_)
    · refine S_vret hz qX2_standAt_35 ?_
      have hb : b = 8 := by omega
      subst hb
      exact hQ
    · refine S_al0 qX2_standAt_17 ?_
      refine S_getR qX2_standAt_18 fX2_21 (F_6 hf) ?_
      refine S_il1 qX2_standAt_21 ?_
      refine S_bipush (d := qX2_standAt_22) (k := ?_)
      refine S_imul qX2_standAt_24 ?_
      refine S_il3 qX2_standAt_25 ?_
      refine S_iadd qX2_standAt_26 ?_
      refine S_il2 qX2_standAt_27 ?_
      refine S_iast qX2_standAt_28 (Fa_4 hf) (K := ?_)
      refine S_inc3 qX2_standAt_29 (K := ?_)
      refine S_goto qX2_standAt_32 ?_
      refine SW.cast (ih (b + 1) (by omega) (by omega) (by omega)) ?_
      rw [upR_u, upR_s, layS_1 _ h0 (by omega)]
theorem c_standAt {g : GC} {f : Nat} {V : MM} {d p : Int} (hf : isF f) (rd : 0 ≤ d ∧ d < V f 0) (hn : V f 0 ≤ 6) : Ct g mX2_standAt 2 [vr f, vi d, vi p] V (RW (upR V (f + 4) (layS (V (f + 4)) d p 8))) := by
  refine Ct.of (ls := [some (vr f), some (vi d), some (vi p), none]) (plainFor_of_name (by decide +kernel)) rfl (by exact Nat.le_of_ble_eq_true rfl) (fun X hz hD => ?_)
  refine S_al0 qX2_standAt_0 ?_
  refine S_il1 qX2_standAt_1 ?_
  refine S_V1B hD qX2_standAt_2 lX2_52 vX2_has (F_r hf) (c_has hf (by omega) (by omega)) (kt := fun j2 => ?_) (kf := fun j2 => ?_)
  · refine S_if_ne (d := qX2_standAt_5) (kt := fun _ => ?_) (kf := fun c => absurd c (by decide))
    refine S_iconst qX2_standAt_9 ?_
    refine S_is3 qX2_standAt_10 (K := ?_)
    refine SW.cast (lay_loop hf (by omega) hz (RW.mk rfl) 9 0 (by omega) (by omega) (by omega)) ?_
    rw [layS_0, upR_id]
  · refine S_if_ne (d := qX2_standAt_5) (kt := fun c => absurd c (by decide)) (kf := fun _ => ?_)
    refine S_vret hz qX2_standAt_8 ?_
    exfalso; omega

theorem c_letterOf {g : GC} {f : Nat} {V : MM} {l d : Int} (hf : isF f) (rl : 0 ≤ l ∧ l ≤ 1000) (rd : 0 ≤ d ∧ d < 6) (rb : 0 ≤ V f 1 ∧ V f 1 ≤ 20000) : Ct g mX2_letterOf 1 [vr f, vi l, vi d] V (RE V (envS (fsC V f) d l)) := by
  refine Ct.of (ls := [some (vr f), some (vi l), some (vi d)]) (plainFor_of_name (by decide +kernel)) rfl (by exact Nat.le_of_ble_eq_true rfl) (fun X hz hD => ?_)
  refine S_il2 qX2_letterOf_0 ?_
  refine S_if_lt (d := qX2_letterOf_1) (kt := fun c1 => ?_) (kf := fun c1 => ?_)
  · refine S_iconst qX2_letterOf_10 ?_
    refine S_iret hz qX2_letterOf_11 ?_
    exfalso; omega
  · refine S_il2 qX2_letterOf_4 ?_
    refine S_bipush (d := qX2_letterOf_5) (k := ?_)
    refine S_icmp_lt (d := qX2_letterOf_7) (kt := fun c7 => ?_) (kf := fun c7 => ?_)
    · refine S_il1 qX2_letterOf_12 ?_
      by_cases s13_0 : l = 0
      · refine S_tabIn (tgt := 48) (off := 35) qX2_letterOf_13 (by omega) (by omega) (by rw [s13_0]; rfl) (by decide) ?_
        refine S_il2 qX2_letterOf_48 ?_
        refine S_iret hz qX2_letterOf_49 ?_
        refine RE.mk ?_
        simp only [envS, fsC]
        (repeat' split) <;> first | rfl | omega | (exfalso; omega) | exact congrArg _ (by omega)
      by_cases s13_1 : l = 1
      · refine S_tabIn (tgt := 50) (off := 37) qX2_letterOf_13 (by omega) (by omega) (by rw [s13_1]; rfl) (by decide) ?_
        refine S_al0 qX2_letterOf_50 ?_
        refine S_getR qX2_letterOf_51 fX2_9 (F_3 hf) ?_
        refine S_il2 qX2_letterOf_54 ?_
        refine S_iald qX2_letterOf_55 (Fa_1 hf) (K := ?_)
        refine S_iret hz qX2_letterOf_56 ?_
        refine RE.mk ?_
        simp only [envS, fsC]
        (repeat' split) <;> first | rfl | omega | (exfalso; omega) | exact congrArg _ (by omega)
      by_cases s13_2 : l = 2
      · refine S_tabIn (tgt := 57) (off := 44) qX2_letterOf_13 (by omega) (by omega) (by rw [s13_2]; rfl) (by decide) ?_
        refine S_al0 qX2_letterOf_57 ?_
        refine S_getR qX2_letterOf_58 fX2_15 (F_4 hf) ?_
        refine S_il2 qX2_letterOf_61 ?_
        refine S_iald qX2_letterOf_62 (Fa_2 hf) (K := ?_)
        refine S_iret hz qX2_letterOf_63 ?_
        refine RE.mk ?_
        simp only [envS, fsC]
        (repeat' split) <;> first | rfl | omega | (exfalso; omega) | exact congrArg _ (by omega)
      by_cases s13_3 : l = 3
      · refine S_tabIn (tgt := 64) (off := 51) qX2_letterOf_13 (by omega) (by omega) (by rw [s13_3]; rfl) (by decide) ?_
        refine S_al0 qX2_letterOf_64 ?_
        refine S_getR qX2_letterOf_65 fX2_21 (F_6 hf) ?_
        refine S_il2 qX2_letterOf_68 ?_
        refine S_bipush (d := qX2_letterOf_69) (k := ?_)
        refine S_imul qX2_letterOf_71 ?_
        refine S_iald qX2_letterOf_72 (Fa_4 hf) (K := ?_)
        refine S_iret hz qX2_letterOf_73 ?_
        refine RE.mk ?_
        simp only [envS, fsC]
        (repeat' split) <;> first | rfl | omega | (exfalso; omega) | exact congrArg _ (by omega)
      by_cases s13_4 : l = 4
      · refine S_tabIn (tgt := 74) (off := 61) qX2_letterOf_13 (by omega) (by omega) (by rw [s13_4]; rfl) (by decide) ?_
        refine S_al0 qX2_letterOf_74 ?_
        refine S_getR qX2_letterOf_75 fX2_18 (F_5 hf) ?_
        refine S_il2 qX2_letterOf_78 ?_
        refine S_iald qX2_letterOf_79 (Fa_3 hf) (K := ?_)
        refine S_iret hz qX2_letterOf_80 ?_
        refine RE.mk ?_
        simp only [envS, fsC]
        (repeat' split) <;> first | rfl | omega | (exfalso; omega) | exact congrArg _ (by omega)
      refine S_tabOut (tgt := 81) qX2_letterOf_13 (by omega) (by omega) (by decide) ?_
      refine S_al0 qX2_letterOf_81 ?_
      refine S_getI qX2_letterOf_82 fX2_38 (F_1 hf) ?_
      refine S_bipush (d := qX2_letterOf_85) (k := ?_)
      refine S_irem (d := qX2_letterOf_87) (k := ?_)
      refine S_iret hz qX2_letterOf_88 ?_
      refine RE.mk ?_
      simp only [envS, fsC]
      (repeat' split) <;> first | rfl | omega | (exfalso; omega) | exact congrArg _ (by omega)
    · refine S_iconst qX2_letterOf_10 ?_
      refine S_iret hz qX2_letterOf_11 ?_
      exfalso; omega

theorem c_passes {g : GC} {f : Nat} {V : MM} {c d : Int} (hf : isF f) (rc : 0 ≤ c ∧ c ≤ 1799) (rd : 0 ≤ d ∧ d < 6) (rb : 0 ≤ V f 1 ∧ V f 1 ≤ 20000) (re : ∀ l, 0 ≤ envS (fsC V f) d l ∧ envS (fsC V f) d l ≤ 99) : Ct g mX3_passes 2 [vi c, vr f, vi d] V (RB V (tstC c (fsC V f) d = true)) := by
  refine Ct.of (ls := [some (vi c), some (vr f), some (vi d), none, none, none]) (plainFor_of_name (by decide +kernel)) rfl (by exact Nat.le_of_ble_eq_true rfl) (fun X hz hD => ?_)
  have re2 := re (c / 100 / 3)
  refine S_il0 qX3_passes_0 ?_
  refine S_bipush (d := qX3_passes_1) (k := ?_)
  refine S_irem (d := qX3_passes_3) (k := ?_)
  refine S_is3 qX3_passes_4 (K := ?_)
  refine S_il0 qX3_passes_5 ?_
  refine S_bipush (d := qX3_passes_6) (k := ?_)
  refine S_idiv (d := qX3_passes_8) (k := ?_)
  refine S_iconst qX3_passes_9 ?_
  refine S_irem (d := qX3_passes_10) (k := ?_)
  refine S_is4 qX3_passes_11 (K := ?_)
  refine S_al1 qX3_passes_13 ?_
  refine S_il0 qX3_passes_14 ?_
  refine S_bipush (d := qX3_passes_15) (k := ?_)
  refine S_idiv (d := qX3_passes_17) (k := ?_)
  refine S_iconst qX3_passes_18 ?_
  refine S_idiv (d := qX3_passes_19) (k := ?_)
  refine S_il2 qX3_passes_20 ?_
  refine S_V2E hD qX3_passes_21 lX3_55 vX2_letterOf (F_r hf) (c_letterOf hf (by omega) (by omega) (by omega)) (K := ?_)
  refine S_is5 qX3_passes_24 (K := ?_)
  refine S_il4 qX3_passes_26 ?_
  refine S_if_ne (d := qX3_passes_28) (kt := fun c28 => ?_) (kf := fun c28 => ?_)
  · refine S_il4 qX3_passes_43 ?_
    refine S_iconst qX3_passes_45 ?_
    refine S_icmp_ne (d := qX3_passes_46) (kt := fun c46 => ?_) (kf := fun c46 => ?_)
    · refine S_il5 qX3_passes_61 ?_
      refine S_il3 qX3_passes_63 ?_
      refine S_icmp_le (d := qX3_passes_64) (kt := fun c64 => ?_) (kf := fun c64 => ?_)
      · refine S_iconst qX3_passes_71 ?_
        refine S_zret hz qX3_passes_72 (by omega) ?_
        refine RB.mk ?_
        simp only [tstC, cmpB]
        (repeat' split) <;> simp only [decide_eq_true_eq, true_and] <;> omega
      · refine S_iconst qX3_passes_67 ?_
        refine S_goto qX3_passes_68 ?_
        refine S_zret hz qX3_passes_72 (by omega) ?_
        refine RB.mk ?_
        simp only [tstC, cmpB]
        (repeat' split) <;> simp only [decide_eq_true_eq, true_and] <;> omega
    · refine S_il5 qX3_passes_49 ?_
      refine S_il3 qX3_passes_51 ?_
      refine S_icmp_ne (d := qX3_passes_52) (kt := fun c52 => ?_) (kf := fun c52 => ?_)
      · refine S_iconst qX3_passes_59 ?_
        refine S_zret hz qX3_passes_60 (by omega) ?_
        refine RB.mk ?_
        simp only [tstC, cmpB]
        (repeat' split) <;> simp only [decide_eq_true_eq, true_and] <;> omega
      · refine S_iconst qX3_passes_55 ?_
        refine S_goto qX3_passes_56 ?_
        refine S_zret hz qX3_passes_60 (by omega) ?_
        refine RB.mk ?_
        simp only [tstC, cmpB]
        (repeat' split) <;> simp only [decide_eq_true_eq, true_and] <;> omega
  · refine S_il5 qX3_passes_31 ?_
    refine S_il3 qX3_passes_33 ?_
    refine S_icmp_ge (d := qX3_passes_34) (kt := fun c34 => ?_) (kf := fun c34 => ?_)
    · refine S_iconst qX3_passes_41 ?_
      refine S_zret hz qX3_passes_42 (by omega) ?_
      refine RB.mk ?_
      simp only [tstC, cmpB]
      (repeat' split) <;> simp only [decide_eq_true_eq, true_and] <;> omega
    · refine S_iconst qX3_passes_37 ?_
      refine S_goto qX3_passes_38 ?_
      refine S_zret hz qX3_passes_42 (by omega) ?_
      refine RB.mk ?_
      simp only [tstC, cmpB]
      (repeat' split) <;> simp only [decide_eq_true_eq, true_and] <;> omega
end
section
theorem lg_eq {a b : Int64} : (lg_cmp a b).toInt = 0 ↔ a = b := by
  unfold lg_cmp
  constructor
  · intro h
    by_cases h1 : a > b
    · rw [if_pos h1] at h; exact absurd h (by decide)
    · rw [if_neg h1] at h
      by_cases h2 : a = b
      · exact h2
      · rw [if_neg h2] at h; exact absurd h (by decide)
  · intro h
    subst h
    simp

theorem hold_loop {g : GC} {X : CX} {Q : Option AV → MM → Prop} {h f : Nat} {V : MM} {fr to d : Int} {xf : Int64} (hh : isH h) (hf : isF f) (rt : 0 ≤ to ∧ to ≤ 100) (hc : ∀ i, 0 ≤ i ∧ i < 100 → -3 ≤ V (h + 3) i ∧ V (h + 3) i ≤ 1799) (rd : 0 ≤ d ∧ d < 6) (rb : 0 ≤ V f 1 ∧ V f 1 ≤ 20000) (re : ∀ l, 0 ≤ envS (fsC V f) d l ∧ envS (fsC V f) d l ≤ 99) (hz : Fi g X (some .boolean) Q) (hD : Dp X 3) (hQ : Q (some (vi (b2i (decide (xf &&& Int64.ofInt 1 = Int64.ofInt 1))))) V) : ∀ (n : Nat) (i : Int) (x : Int64), 0 ≤ i → i ≤ 1000 → (to - i).toNat = n → evC (V (h + 3)) (fsC V f) d n i x = xf → SW g X RX3 cX3_holds 6 [some (vr h), some (vi fr), some (vi to), some (vr f), some (vi d), some (vl x.toInt), none, some (vi i), none] [] V := by
  intro n
  induction n with
  | zero =>
    intro i x h0 h1 hn hx
    unfold evC at hx
    subst hx
    refine S_il7 qX3_holds_6 ?_
    refine S_il2 qX3_holds_8 ?_
    refine S_icmp_ge (d := qX3_holds_9) (kt := fun c9 => ?_) (kf := fun c9 => ?_)
    rotate_left
    · omega
    refine S_ll5 qX3_holds_109 ?_
    refine S_lconst qX3_holds_111 ?_
    refine S_land qX3_holds_112 ?_
    refine S_lconst qX3_holds_113 ?_
    refine S_lcmp qX3_holds_114 ?_
    have e0 := lg_eq (a := Int64.ofInt (Int64.ofInt x.toInt &&& Int64.ofInt ((1 : Fin 2) : Nat)).toInt) (b := Int64.ofInt ((1 : Fin 2) : Nat))
    simp only [jo_ofInt] at e0
    refine S_if_ne (d := qX3_holds_115) (ha := io_rg _) (kt := fun c115 => ?_) (kf := fun c115 => ?_)
    · refine S_iconst qX3_holds_122 ?_
      refine S_zret hz qX3_holds_123 (by omega) ?_
      have e1 : x &&& Int64.ofInt 1 = Int64.ofInt 1 ∨ ¬ (x &&& Int64.ofInt 1 = Int64.ofInt 1) := Decidable.em _
      rcases e1 with e1 | e1
      · first | (rw [e1] at hQ; exact hQ) | (simp only [e1, decide_true, b2i, if_true] at hQ; first | exact hQ | (exfalso; simp only [jo_ofInt] at c115; exact c115 (e0.mpr e1)))
      · simp only [e1, decide_false, b2i] at hQ
        first | exact hQ | (exfalso; simp only [jo_ofInt] at c115; exact e1 (e0.mp c115))
    · refine S_iconst qX3_holds_118 ?_
      refine S_goto qX3_holds_119 ?_
      refine S_zret hz qX3_holds_123 (by omega) ?_
      have e1 : x &&& Int64.ofInt 1 = Int64.ofInt 1 ∨ ¬ (x &&& Int64.ofInt 1 = Int64.ofInt 1) := Decidable.em _
      rcases e1 with e1 | e1
      · first | (rw [e1] at hQ; exact hQ) | (simp only [e1, decide_true, b2i, if_true] at hQ; first | exact hQ | (exfalso; simp only [jo_ofInt] at c115; exact c115 (e0.mpr e1)))
      · simp only [e1, decide_false, b2i] at hQ
        first | exact hQ | (exfalso; simp only [jo_ofInt] at c115; exact e1 (e0.mp c115))
  | succ n ih =>
    intro i x h0 h1 hn hx
    unfold evC at hx
    have hci := hc i (by omega)
    refine S_il7 qX3_holds_6 ?_
    refine S_il2 qX3_holds_8 ?_
    refine S_icmp_ge (d := qX3_holds_9) (kt := fun c9 => ?_) (kf := fun c9 => ?_)
    · omega
    refine S_al0 qX3_holds_12 ?_
    refine S_getR qX3_holds_13 fX3_24 (H_6 hh) ?_
    refine S_il7 qX3_holds_16 ?_
    refine S_iald qX3_holds_18 (Ha_3 hh) (K := ?_)
    refine S_is8 qX3_holds_19 (K := ?_)
    refine S_il8 qX3_holds_21 ?_
    refine S_iconst qX3_holds_23 ?_
    refine S_icmp_ne (d := qX3_holds_24) (kt := fun c24 => ?_) (kf := fun c24 => ?_)
    · refine S_il8 qX3_holds_36 ?_
      refine S_bipush (d := qX3_holds_38) (k := ?_)
      refine S_icmp_ne (d := qX3_holds_40) (kt := fun c40 => ?_) (kf := fun c40 => ?_)
      · refine S_il8 qX3_holds_59 ?_
        refine S_bipush (d := qX3_holds_61) (k := ?_)
        refine S_icmp_ne (d := qX3_holds_63) (kt := fun c63 => ?_) (kf := fun c63 => ?_)
        · refine S_ll5 qX3_holds_80 ?_
          refine S_iconst qX3_holds_82 ?_
          refine S_lshl qX3_holds_83 ?_
          refine S_il8 qX3_holds_84 ?_
          refine S_al3 qX3_holds_86 ?_
          refine S_il4 qX3_holds_87 ?_
          refine S_S3B hD qX3_holds_89 lX3_51 sX3_passes (c_passes hf (by omega) (by omega) (by omega) re) (kt := fun j89 => ?_) (kf := fun j89 => ?_)
          · refine S_if_eq (d := qX3_holds_92) (kt := fun c => absurd c (by decide)) (kf := fun _ => ?_)
            refine S_lconst qX3_holds_95 ?_
            refine S_goto qX3_holds_96 ?_
            refine S_lor qX3_holds_100 ?_
            refine S_ls5 qX3_holds_101 (K := ?_)
            refine S_inc7 qX3_holds_103 (K := ?_)
            refine S_goto qX3_holds_106 ?_
            refine SW.forget 8 (ih (i + 1) _ (by omega) (by omega) (by omega) ?_)
            rw [← hx]
            congr 1
            simp only [jo_ofInt]
            unfold hldC
            first
              | (rw [if_pos (by omega)]; rfl)
              | (rw [if_neg (by omega), if_pos (by omega)]; rfl)
              | (rw [if_neg (by omega), if_neg (by omega), if_pos (by omega)]; rfl)
              | (rw [if_neg (by omega), if_neg (by omega), if_neg (by omega), j89]; rfl)
              | (rw [if_neg (by omega), if_neg (by omega), if_neg (by omega)]; simp only [j89, b2i, Bool.false_eq_true, if_false]; rfl)
          · refine S_if_eq (d := qX3_holds_92) (kt := fun _ => ?_) (kf := fun c => absurd c (by decide))
            refine S_lconst qX3_holds_99 ?_
            refine S_lor qX3_holds_100 ?_
            refine S_ls5 qX3_holds_101 (K := ?_)
            refine S_inc7 qX3_holds_103 (K := ?_)
            refine S_goto qX3_holds_106 ?_
            refine SW.forget 8 (ih (i + 1) _ (by omega) (by omega) (by omega) ?_)
            rw [← hx]
            congr 1
            simp only [jo_ofInt]
            unfold hldC
            first
              | (rw [if_pos (by omega)]; rfl)
              | (rw [if_neg (by omega), if_pos (by omega)]; rfl)
              | (rw [if_neg (by omega), if_neg (by omega), if_pos (by omega)]; rfl)
              | (rw [if_neg (by omega), if_neg (by omega), if_neg (by omega), j89]; rfl)
              | (rw [if_neg (by omega), if_neg (by omega), if_neg (by omega)]; simp only [j89, b2i, Bool.false_eq_true, if_false]; rfl)
        · refine S_ll5 qX3_holds_66 ?_
          refine S_iconst qX3_holds_68 ?_
          refine S_lushr qX3_holds_69 ?_
          refine S_ll5 qX3_holds_70 ?_
          refine S_lconst qX3_holds_72 ?_
          refine S_land qX3_holds_73 ?_
          refine S_lor qX3_holds_74 ?_
          refine S_ls5 qX3_holds_75 (K := ?_)
          refine S_goto qX3_holds_77 ?_
          refine S_inc7 qX3_holds_103 (K := ?_)
          refine S_goto qX3_holds_106 ?_
          refine SW.forget 8 (ih (i + 1) _ (by omega) (by omega) (by omega) ?_)
          rw [← hx]
          congr 1
          simp only [jo_ofInt]
          unfold hldC
          first
            | (rw [if_pos (by omega)]; rfl)
            | (rw [if_neg (by omega), if_pos (by omega)]; rfl)
            | (rw [if_neg (by omega), if_neg (by omega), if_pos (by omega)]; rfl)
            | (rw [if_neg (by omega), if_neg (by omega), if_neg (by omega), j89]; rfl)
            | (rw [if_neg (by omega), if_neg (by omega), if_neg (by omega)]; simp only [j89, b2i, Bool.false_eq_true, if_false]; rfl)
      · refine S_ll5 qX3_holds_43 ?_
        refine S_iconst qX3_holds_45 ?_
        refine S_lushr qX3_holds_46 ?_
        refine S_ll5 qX3_holds_47 ?_
        refine S_ldc2 qX3_holds_49 kX3_49 ?_
        refine S_lor qX3_holds_52 ?_
        refine S_land qX3_holds_53 ?_
        refine S_ls5 qX3_holds_54 (K := ?_)
        refine S_goto qX3_holds_56 ?_
        refine S_inc7 qX3_holds_103 (K := ?_)
        refine S_goto qX3_holds_106 ?_
        refine SW.forget 8 (ih (i + 1) _ (by omega) (by omega) (by omega) ?_)
        rw [← hx]
        congr 1
        simp only [jo_ofInt]
        unfold hldC
        first
          | (rw [if_pos (by omega)]; rfl)
          | (rw [if_neg (by omega), if_pos (by omega)]; rfl)
          | (rw [if_neg (by omega), if_neg (by omega), if_pos (by omega)]; rfl)
          | (rw [if_neg (by omega), if_neg (by omega), if_neg (by omega), j89]; rfl)
          | (rw [if_neg (by omega), if_neg (by omega), if_neg (by omega)]; simp only [j89, b2i, Bool.false_eq_true, if_false]; rfl)
    · refine S_ll5 qX3_holds_27 ?_
      refine S_lconst qX3_holds_29 ?_
      refine S_lxor qX3_holds_30 ?_
      refine S_ls5 qX3_holds_31 (K := ?_)
      refine S_goto qX3_holds_33 ?_
      refine S_inc7 qX3_holds_103 (K := ?_)
      refine S_goto qX3_holds_106 ?_
      refine SW.forget 8 (ih (i + 1) _ (by omega) (by omega) (by omega) ?_)
      rw [← hx]
      congr 1
      simp only [jo_ofInt]
      unfold hldC
      first
        | (rw [if_pos (by omega)]; rfl)
        | (rw [if_neg (by omega), if_pos (by omega)]; rfl)
        | (rw [if_neg (by omega), if_neg (by omega), if_pos (by omega)]; rfl)
        | (rw [if_neg (by omega), if_neg (by omega), if_neg (by omega), j89]; rfl)
        | (rw [if_neg (by omega), if_neg (by omega), if_neg (by omega)]; simp only [j89, b2i, Bool.false_eq_true, if_false]; rfl)
theorem c_holds {g : GC} {h f : Nat} {V : MM} {fr to d : Int} (hh : isH h) (hf : isF f) (rf : 0 ≤ fr ∧ fr ≤ 100) (rt : 0 ≤ to ∧ to ≤ 100) (hc : ∀ i, 0 ≤ i ∧ i < 100 → -3 ≤ V (h + 3) i ∧ V (h + 3) i ≤ 1799) (rd : 0 ≤ d ∧ d < 6) (rb : 0 ≤ V f 1 ∧ V f 1 ≤ 20000) (re : ∀ l, 0 ≤ envS (fsC V f) d l ∧ envS (fsC V f) d l ≤ 99) : Ct g mX3_holds 3 [vr h, vi fr, vi to, vr f, vi d] V (RE V (b2i (holC (V (h + 3)) (fsC V f) d fr to))) := by
  refine Ct.of (ls := [some (vr h), some (vi fr), some (vi to), some (vr f), some (vi d), none, none, none, none]) (plainFor_of_name (by decide +kernel)) rfl (by exact Nat.le_of_ble_eq_true rfl) (fun X hz hD => ?_)
  refine S_lconst qX3_holds_0 ?_
  refine S_ls5 qX3_holds_1 (K := ?_)
  refine S_il1 qX3_holds_3 ?_
  refine S_is7 qX3_holds_4 (K := ?_)
  exact hold_loop hh hf rt hc rd rb re hz hD ⟨rfl, rfl⟩ _ fr (Int64.ofInt 0) (by omega) (by omega) rfl rfl
end
section
theorem b2i_TF {g : GC} {M : MN} {n : Nat} {as : List AV} {V : MM} {b : Bool} (h : Ct g M n as V (RE V (b2i b))) : Ct g M n as V (RB V (b = true)) :=
  h.mono (fun r V' h => by
    obtain ⟨rfl, h1⟩ := h
    subst h1
    refine RB.mk ?_
    cases b <;> simp [b2i])

theorem stepFor_loop {g : GC} {X : CX} {Q : Option AV → MM → Prop} {h f : Nat} {V : MM} {d xf : Int} (hh : isH h) (hf : isF f) (hH : HInv V h) (rd : 0 ≤ d ∧ d < 6) (rb : 0 ≤ V f 1 ∧ V f 1 ≤ 20000) (re : ∀ l, 0 ≤ envS (fsC V f) d l ∧ envS (fsC V f) d l ≤ 99) (hz : Fi g X (some .int) Q) (hD : Dp X 4) (hQ : Q (some (vi xf)) V) : ∀ (n : Nat) (i fr sum : Int), 0 ≤ i → i + n = V h 2 → (0 ≤ fr ∧ fr ≤ 100) → stC (V (h + 1)) (V (h + 2)) (V (h + 3)) (fsC V f) d n i fr sum = xf → SW g X RX3 cX3_stepFor 8 [some (vr h), some (vr f), some (vi d), some (vi sum), some (vi fr), some (vi i)] [] V := by
  obtain ⟨-, hw1, hw2, hs, ha, hc⟩ := id hH
  intro n
  induction n with
  | zero =>
    intro i fr sum h0 h1 h2 hx
    unfold stC at hx
    subst hx
    refine S_il5 qX3_stepFor_8 ?_
    refine S_al0 qX3_stepFor_10 ?_
    refine S_getI qX3_stepFor_11 fX3_30 (H_2 hh) ?_
    refine S_icmp_ge (d := qX3_stepFor_14) (kt := fun c14 => ?_) (kf := fun c14 => ?_)
    rotate_left
    · omega
    refine S_il3 qX3_stepFor_60 ?_
    refine S_iret hz qX3_stepFor_61 ?_
    exact hQ
  | succ n ih =>
    intro i fr sum h0 h1 h2 hx
    unfold stC at hx
    have hai := ha i (by omega)
    refine S_il5 qX3_stepFor_8 ?_
    refine S_al0 qX3_stepFor_10 ?_
    refine S_getI qX3_stepFor_11 fX3_30 (H_2 hh) ?_
    refine S_icmp_ge (d := qX3_stepFor_14) (kt := fun c14 => ?_) (kf := fun c14 => ?_)
    · omega
    refine S_al0 qX3_stepFor_17 ?_
    refine S_il4 qX3_stepFor_18 ?_
    refine S_al0 qX3_stepFor_20 ?_
    refine S_getR qX3_stepFor_21 fX3_19 (H_5 hh) ?_
    refine S_il5 qX3_stepFor_24 ?_
    refine S_iald qX3_stepFor_26 (Ha_2 hh) (K := ?_)
    refine S_al1 qX3_stepFor_27 ?_
    refine S_il2 qX3_stepFor_28 ?_
    refine S_V4B hD qX3_stepFor_29 lX3_45 vX3_holds (H_r hh) (b2i_TF (c_holds hh hf (by omega) (by omega) hc (by omega) rb re)) (kt := fun j29 => ?_) (kf := fun j29 => ?_)
    · refine S_if_eq (d := qX3_stepFor_32) (kt := fun c => absurd c (by decide)) (kf := fun _ => ?_)
      refine S_il3 qX3_stepFor_35 ?_
      refine S_al0 qX3_stepFor_36 ?_
      refine S_getR qX3_stepFor_37 fX3_15 (H_4 hh) ?_
      refine S_il5 qX3_stepFor_40 ?_
      refine S_iald qX3_stepFor_42 (Ha_1 hh) (K := ?_)
      refine S_iadd qX3_stepFor_43 ?_
      refine S_is3 qX3_stepFor_44 (K := ?_)
      refine S_al0 qX3_stepFor_45 ?_
      refine S_getR qX3_stepFor_46 fX3_19 (H_5 hh) ?_
      refine S_il5 qX3_stepFor_49 ?_
      refine S_iald qX3_stepFor_51 (Ha_2 hh) (K := ?_)
      refine S_is4 qX3_stepFor_52 (K := ?_)
      refine S_inc5 qX3_stepFor_54 (K := ?_)
      refine S_goto qX3_stepFor_57 ?_
      refine ih (i + 1) (V (h + 2) i) _ (by omega) (by omega) (by omega) ?_
      rw [← hx]
      first | (rw [if_pos j29]; done) | (rw [if_neg j29]; done)
    · refine S_if_eq (d := qX3_stepFor_32) (kt := fun _ => ?_) (kf := fun c => absurd c (by decide))
      refine S_al0 qX3_stepFor_45 ?_
      refine S_getR qX3_stepFor_46 fX3_19 (H_5 hh) ?_
      refine S_il5 qX3_stepFor_49 ?_
      refine S_iald qX3_stepFor_51 (Ha_2 hh) (K := ?_)
      refine S_is4 qX3_stepFor_52 (K := ?_)
      refine S_inc5 qX3_stepFor_54 (K := ?_)
      refine S_goto qX3_stepFor_57 ?_
      refine ih (i + 1) (V (h + 2) i) _ (by omega) (by omega) (by omega) ?_
      rw [← hx]
      first | (rw [if_pos j29]; done) | (rw [if_neg j29]; done)
theorem c_stepFor {g : GC} {h f : Nat} {V : MM} {d : Int} (hf : isF f) (hH : HInv V h) (rd : 0 ≤ d ∧ d < 6) (rb : 0 ≤ V f 1 ∧ V f 1 ≤ 20000) (re : ∀ l, 0 ≤ envS (fsC V f) d l ∧ envS (fsC V f) d l ≤ 99) : Ct g mX3_stepFor 4 [vr h, vr f, vi d] V (RE V (stepC V h (fsC V f) d)) := by
  refine Ct.of (ls := [some (vr h), some (vr f), some (vi d), none, none, none]) (plainFor_of_name (by decide +kernel)) rfl (by exact Nat.le_of_ble_eq_true rfl) (fun X hz hD => ?_)
  have hh := hH.1
  have hs := hH.2.2.2.1
  refine S_iconst qX3_stepFor_0 ?_
  refine S_is3 qX3_stepFor_1 (K := ?_)
  refine S_iconst qX3_stepFor_2 ?_
  refine S_is4 qX3_stepFor_3 (K := ?_)
  refine S_iconst qX3_stepFor_5 ?_
  refine S_is5 qX3_stepFor_6 (K := ?_)
  exact stepFor_loop hh hf hH rd rb re hz hD ⟨rfl, rfl⟩ (V h 2).toNat 0 0 0 (by omega) (by omega) (by omega) rfl

theorem c_stopsAfter {g : GC} {h : Nat} {V : MM} {b : Int} (hH : HInv V h) (rb : 0 ≤ b ∧ b ≤ 20000) : Ct g mX3_stopsAfter 1 [vr h, vi b] V (RB V (0 < V h 1 ∧ (b + 1) % V h 1 = 0)) := by
  refine Ct.of (ls := [some (vr h), some (vi b)]) (plainFor_of_name (by decide +kernel)) rfl (by exact Nat.le_of_ble_eq_true rfl) (fun X hz hD => ?_)
  have hh := hH.1
  have hs := hH.2.2.1
  refine S_al0 qX3_stopsAfter_0 ?_
  refine S_getI qX3_stopsAfter_1 fX3_27 (H_1 hh) ?_
  refine S_if_le (d := qX3_stopsAfter_4) (kt := fun c4 => ?_) (kf := fun c4 => ?_)
  · refine S_iconst qX3_stopsAfter_22 ?_
    refine S_zret hz qX3_stopsAfter_23 (by omega) ?_
    exact RB.mk (by omega)
  · refine S_il1 qX3_stopsAfter_7 ?_
    refine S_iconst qX3_stopsAfter_8 ?_
    refine S_iadd qX3_stopsAfter_9 ?_
    refine S_al0 qX3_stopsAfter_10 ?_
    refine S_getI qX3_stopsAfter_11 fX3_27 (H_1 hh) ?_
    refine S_irem (d := qX3_stopsAfter_14) (k := ?_)
    refine S_if_ne (d := qX3_stopsAfter_15) (ha := by have := Int.emod_nonneg (b + 1) (show V h 1 ≠ 0 by omega); have := Int.emod_lt_of_pos (b + 1) (show 0 < V h 1 by omega); omega) (kt := fun c15 => ?_) (kf := fun c15 => ?_)
    · refine S_iconst qX3_stopsAfter_22 ?_
      refine S_zret hz qX3_stopsAfter_23 (by omega) ?_
      exact RB.mk (by omega)
    · refine S_iconst qX3_stopsAfter_18 ?_
      refine S_goto qX3_stopsAfter_19 ?_
      refine S_zret hz qX3_stopsAfter_23 (by omega) ?_
      exact RB.mk (by omega)

theorem c_was0 {g : GC} {f : Nat} {V : MM} {d : Int} (hf : isF f) (rd : 0 ≤ d ∧ d < V f 0) (hn : V f 0 ≤ 6) : Ct g mX2_wasOf 2 [vr f, vi d, vi 0] V (RE V (V (f + 4) (8 * d))) :=
  (c_wasOf hf rd (by omega) hn).mono (fun r V' h => by rw [Int.add_zero] at h; exact h)

theorem c_goesOf {g : GC} {f : Nat} {V : MM} {d : Int} {hs : HS} {s : FS} (hF : FlC V f hs s) (hd : 0 ≤ d ∧ d < V f 0) : Ct g mX2_goesOf 5 [vr f, vi d] V (RE V (goesS hs s d)) := by
  refine Ct.of (ls := [some (vr f), some (vi d), none, none, none, none, none, none]) (plainFor_of_name (by decide +kernel)) rfl (by exact Nat.le_of_ble_eq_true rfl) (fun X hz hD => ?_)
  obtain ⟨hf, rfl, hn, hb, hkv, hfo, hwa, hro, hH, hh0, rfl⟩ := hF.facts
  have hh := hH.1
  have hw := hH.2.1
  have a1 := hkv d (by omega)
  have a2 := hfo d hd
  have a3 := hwa (8 * d) (by omega)
  have a4 := hwa (8 * V (f + 3) d + 2) (by omega)
  have a5 := hwa (8 * V (f + 3) d + 3) (by omega)
  have a6 := step_rg hH (fsC V f) d
  have re : ∀ l, 0 ≤ envS (fsC V f) d l ∧ envS (fsC V f) d l ≤ 99 := fun l => env_rg l hF.2.2.2.2 (by show V (V f 2).toNat 0 ≤ 99; omega) hd
  have a7 := Int.emod_nonneg (V (f + 4) (8 * V (f + 3) d + 3) + stepC V (V f 2).toNat (fsC V f) d - V (f + 4) (8 * d)) (show V (V f 2).toNat 0 ≠ 0 by omega)
  have a8 := Int.emod_lt_of_pos (V (f + 4) (8 * V (f + 3) d + 3) + stepC V (V f 2).toNat (fsC V f) d - V (f + 4) (8 * d)) (show 0 < V (V f 2).toNat 0 by omega)
  have a9 := hro (4 * d + V f 1 % 4) (by omega)
  have a10 : V (f + 5) (d * 4 + V f 1 % 4) = V (f + 5) (4 * d + V f 1 % 4) := congrArg _ (by omega)
  refine S_al0 qX2_goesOf_0 ?_
  refine S_il1 qX2_goesOf_1 ?_
  refine S_V1B hD qX2_goesOf_2 lX2_52 vX2_has (F_r hf) (c_has hf (by omega) (by omega)) (kt := fun j2 => ?_) (kf := fun j2 => ?_)
  · refine S_if_ne (d := qX2_goesOf_5) (kt := fun _ => ?_) (kf := fun c => absurd c (by decide))
    refine S_al0 qX2_goesOf_10 ?_
    refine S_getH qX2_goesOf_11 fX2_30 (F_2 hf) ?_
    refine S_al0 qX2_goesOf_14 ?_
    refine S_il1 qX2_goesOf_15 ?_
    refine S_V2E hD qX2_goesOf_16 lX2_64 vX3_stepFor (H_r hh) (c_stepFor hf hH (by omega) (by omega) re) (K := ?_)
    refine S_is2 qX2_goesOf_19 (K := ?_)
    refine S_al0 qX2_goesOf_20 ?_
    refine S_il1 qX2_goesOf_21 ?_
    refine S_iconst qX2_goesOf_22 ?_
    refine S_V2E hD qX2_goesOf_23 lX2_68 vX2_wasOf (F_r hf) (c_was0 hf (by omega) (by omega)) (K := ?_)
    refine S_is3 qX2_goesOf_26 (K := ?_)
    refine S_al0 qX2_goesOf_27 ?_
    refine S_al0 qX2_goesOf_28 ?_
    refine S_getR qX2_goesOf_29 fX2_18 (F_5 hf) ?_
    refine S_il1 qX2_goesOf_32 ?_
    refine S_iald qX2_goesOf_33 (Fa_3 hf) (K := ?_)
    refine S_iconst qX2_goesOf_34 ?_
    refine S_V2E hD qX2_goesOf_35 lX2_68 vX2_wasOf (F_r hf) (c_wasOf hf (by omega) (by omega) (by omega)) (K := ?_)
    refine S_il2 qX2_goesOf_38 ?_
    refine S_iadd qX2_goesOf_39 ?_
    refine S_is4 qX2_goesOf_40 (K := ?_)
    refine S_al0 qX2_goesOf_42 ?_
    refine S_al0 qX2_goesOf_43 ?_
    refine S_getR qX2_goesOf_44 fX2_18 (F_5 hf) ?_
    refine S_il1 qX2_goesOf_47 ?_
    refine S_iald qX2_goesOf_48 (Fa_3 hf) (K := ?_)
    refine S_iconst qX2_goesOf_49 ?_
    refine S_V2E hD qX2_goesOf_50 lX2_68 vX2_wasOf (F_r hf) (c_wasOf hf (by omega) (by omega) (by omega)) (K := ?_)
    refine S_il2 qX2_goesOf_53 ?_
    refine S_iadd qX2_goesOf_54 ?_
    refine S_is5 qX2_goesOf_55 (K := ?_)
    refine S_al0 qX2_goesOf_57 ?_
    refine S_getH qX2_goesOf_58 fX2_30 (F_2 hf) ?_
    refine S_getI qX2_goesOf_61 fX2_47 (H_0 hh) ?_
    refine S_iconst qX2_goesOf_64 ?_
    refine S_isub qX2_goesOf_65 ?_
    refine S_al0 qX2_goesOf_66 ?_
    refine S_al0 qX2_goesOf_67 ?_
    refine S_getR qX2_goesOf_68 fX2_18 (F_5 hf) ?_
    refine S_il1 qX2_goesOf_71 ?_
    refine S_iald qX2_goesOf_72 (Fa_3 hf) (K := ?_)
    refine S_iconst qX2_goesOf_73 ?_
    refine S_V2E hD qX2_goesOf_74 lX2_68 vX2_wasOf (F_r hf) (c_wasOf hf (by omega) (by omega) (by omega)) (K := ?_)
    refine S_isub qX2_goesOf_77 ?_
    refine S_il2 qX2_goesOf_78 ?_
    refine S_iadd qX2_goesOf_79 ?_
    refine S_is6 qX2_goesOf_80 (K := ?_)
    refine S_al0 qX2_goesOf_82 ?_
    refine S_il1 qX2_goesOf_83 ?_
    refine S_V1B hD qX2_goesOf_84 lX2_71 vX2_isLazyNow (F_r hf) (c_isLazyNow hf (by omega) (by omega) (by omega)) (kt := fun j84 => ?_) (kf := fun j84 => ?_)
    · refine S_if_eq (d := qX2_goesOf_87) (kt := fun c => absurd c (by decide)) (kf := fun _ => ?_)
      refine S_il3 qX2_goesOf_90 ?_
      refine S_goto qX2_goesOf_91 ?_
      refine S_is7 qX2_goesOf_96 (K := ?_)
      refine S_al0 qX2_goesOf_98 ?_
      refine S_getR qX2_goesOf_99 fX2_9 (F_3 hf) ?_
      refine S_il1 qX2_goesOf_102 ?_
      refine S_iald qX2_goesOf_103 (Fa_1 hf) (K := ?_)
      by_cases s104_1 : V (f + 1) d = 1
      · refine S_tabIn (tgt := 144) (off := 40) qX2_goesOf_104 (by omega) (by omega) (by rw [s104_1]; rfl) (by decide) ?_
        refine S_il5 qX2_goesOf_144 ?_
        refine S_al0 qX2_goesOf_146 ?_
        refine S_getH qX2_goesOf_147 fX2_30 (F_2 hf) ?_
        refine S_getI qX2_goesOf_150 fX2_47 (H_0 hh) ?_
        refine S_S2E hD qX2_goesOf_153 lX2_60 sX6_modulo (c_modulo (by omega) (by omega)) (K := ?_)
        refine S_iret hz qX2_goesOf_156 ?_
        refine RE.mk ?_
        simp only [goesS, lzS, miS, fsC_1, fsC_2, fsC_3, fsC_4, fsC_5, fsC_6, fsC_7]
        first | rw [if_pos j84] | rw [if_neg j84]
        (repeat' split) <;> first | rfl | (exfalso; omega) | (congr 1; omega)
      by_cases s104_2 : V (f + 1) d = 2
      · refine S_tabIn (tgt := 157) (off := 53) qX2_goesOf_104 (by omega) (by omega) (by rw [s104_2]; rfl) (by decide) ?_
        refine S_il6 qX2_goesOf_157 ?_
        refine S_al0 qX2_goesOf_159 ?_
        refine S_getH qX2_goesOf_160 fX2_30 (F_2 hf) ?_
        refine S_getI qX2_goesOf_163 fX2_47 (H_0 hh) ?_
        refine S_S2E hD qX2_goesOf_166 lX2_60 sX6_modulo (c_modulo (by omega) (by omega)) (K := ?_)
        refine S_iret hz qX2_goesOf_169 ?_
        refine RE.mk ?_
        simp only [goesS, lzS, miS, fsC_1, fsC_2, fsC_3, fsC_4, fsC_5, fsC_6, fsC_7]
        first | rw [if_pos j84] | rw [if_neg j84]
        (repeat' split) <;> first | rfl | (exfalso; omega) | (congr 1; omega)
      by_cases s104_3 : V (f + 1) d = 3
      · refine S_tabIn (tgt := 170) (off := 66) qX2_goesOf_104 (by omega) (by omega) (by rw [s104_3]; rfl) (by decide) ?_
        refine S_il7 qX2_goesOf_170 ?_
        refine S_al0 qX2_goesOf_172 ?_
        refine S_getH qX2_goesOf_173 fX2_30 (F_2 hf) ?_
        refine S_getI qX2_goesOf_176 fX2_47 (H_0 hh) ?_
        refine S_S2E hD qX2_goesOf_179 lX2_60 sX6_modulo (c_modulo (by omega) (by omega)) (K := ?_)
        refine S_iret hz qX2_goesOf_182 ?_
        refine RE.mk ?_
        simp only [goesS, lzS, miS, fsC_1, fsC_2, fsC_3, fsC_4, fsC_5, fsC_6, fsC_7]
        first | rw [if_pos j84] | rw [if_neg j84]
        (repeat' split) <;> first | rfl | (exfalso; omega) | (congr 1; omega)
      by_cases s104_4 : V (f + 1) d = 4
      · refine S_tabIn (tgt := 183) (off := 79) qX2_goesOf_104 (by omega) (by omega) (by rw [s104_4]; rfl) (by decide) ?_
        refine S_il3 qX2_goesOf_183 ?_
        refine S_il5 qX2_goesOf_184 ?_
        refine S_il3 qX2_goesOf_186 ?_
        refine S_isub qX2_goesOf_187 ?_
        refine S_al0 qX2_goesOf_188 ?_
        refine S_getH qX2_goesOf_189 fX2_30 (F_2 hf) ?_
        refine S_getI qX2_goesOf_192 fX2_47 (H_0 hh) ?_
        refine S_S2E hD qX2_goesOf_195 lX2_60 sX6_modulo (c_modulo (by omega) (by omega)) (K := ?_)
        refine S_iconst qX2_goesOf_198 ?_
        refine S_idiv (d := qX2_goesOf_199) (k := ?_)
        refine S_iadd qX2_goesOf_200 ?_
        refine S_al0 qX2_goesOf_201 ?_
        refine S_getH qX2_goesOf_202 fX2_30 (F_2 hf) ?_
        refine S_getI qX2_goesOf_205 fX2_47 (H_0 hh) ?_
        refine S_S2E hD qX2_goesOf_208 lX2_60 sX6_modulo (c_modulo (by omega) (by omega)) (K := ?_)
        refine S_iret hz qX2_goesOf_211 ?_
        refine RE.mk ?_
        simp only [goesS, lzS, miS, fsC_1, fsC_2, fsC_3, fsC_4, fsC_5, fsC_6, fsC_7]
        first | rw [if_pos j84] | rw [if_neg j84]
        (repeat' split) <;> first | rfl | (exfalso; omega) | (congr 1; omega)
      by_cases s104_5 : V (f + 1) d = 5
      · refine S_tabIn (tgt := 212) (off := 108) qX2_goesOf_104 (by omega) (by omega) (by rw [s104_5]; rfl) (by decide) ?_
        refine S_il6 qX2_goesOf_212 ?_
        refine S_al0 qX2_goesOf_214 ?_
        refine S_getI qX2_goesOf_215 fX2_38 (F_1 hf) ?_
        refine S_iconst qX2_goesOf_218 ?_
        refine S_irem (d := qX2_goesOf_219) (k := ?_)
        refine S_iadd qX2_goesOf_220 ?_
        refine S_al0 qX2_goesOf_221 ?_
        refine S_getH qX2_goesOf_222 fX2_30 (F_2 hf) ?_
        refine S_getI qX2_goesOf_225 fX2_47 (H_0 hh) ?_
        refine S_S2E hD qX2_goesOf_228 lX2_60 sX6_modulo (c_modulo (by omega) (by omega)) (K := ?_)
        refine S_iret hz qX2_goesOf_231 ?_
        refine RE.mk ?_
        simp only [goesS, lzS, miS, fsC_1, fsC_2, fsC_3, fsC_4, fsC_5, fsC_6, fsC_7]
        first | rw [if_pos j84] | rw [if_neg j84]
        (repeat' split) <;> first | rfl | (exfalso; omega) | (congr 1; omega)
      by_cases s104_6 : V (f + 1) d = 6
      · refine S_tabIn (tgt := 232) (off := 128) qX2_goesOf_104 (by omega) (by omega) (by rw [s104_6]; rfl) (by decide) ?_
        refine S_il7 qX2_goesOf_232 ?_
        refine S_al0 qX2_goesOf_234 ?_
        refine S_getR qX2_goesOf_235 fX2_24 (F_7 hf) ?_
        refine S_il1 qX2_goesOf_238 ?_
        refine S_iconst qX2_goesOf_239 ?_
        refine S_imul qX2_goesOf_240 ?_
        refine S_al0 qX2_goesOf_241 ?_
        refine S_getI qX2_goesOf_242 fX2_38 (F_1 hf) ?_
        refine S_iconst qX2_goesOf_245 ?_
        refine S_S2E hD qX2_goesOf_246 lX2_60 sX6_modulo (c_modulo (by omega) (by omega)) (K := ?_)
        refine S_iadd qX2_goesOf_249 ?_
        refine S_iald qX2_goesOf_250 (Fa_5 hf) (K := ?_)
        refine S_iadd qX2_goesOf_251 ?_
        refine S_al0 qX2_goesOf_252 ?_
        refine S_getH qX2_goesOf_253 fX2_30 (F_2 hf) ?_
        refine S_getI qX2_goesOf_256 fX2_47 (H_0 hh) ?_
        refine S_S2E hD qX2_goesOf_259 lX2_60 sX6_modulo (c_modulo (by omega) (by omega)) (K := ?_)
        refine S_iret hz qX2_goesOf_262 ?_
        refine RE.mk ?_
        simp only [goesS, lzS, miS, fsC_1, fsC_2, fsC_3, fsC_4, fsC_5, fsC_6, fsC_7]
        first | rw [if_pos j84] | rw [if_neg j84]
        (repeat' split) <;> first | rfl | (exfalso; omega) | (congr 1; omega)
      refine S_tabOut (tgt := 263) qX2_goesOf_104 (by omega) (by omega) (by decide) ?_
      refine S_il4 qX2_goesOf_263 ?_
      refine S_al0 qX2_goesOf_265 ?_
      refine S_getH qX2_goesOf_266 fX2_30 (F_2 hf) ?_
      refine S_getI qX2_goesOf_269 fX2_47 (H_0 hh) ?_
      refine S_S2E hD qX2_goesOf_272 lX2_60 sX6_modulo (c_modulo (by omega) (by omega)) (K := ?_)
      refine S_iret hz qX2_goesOf_275 ?_
      refine RE.mk ?_
      simp only [goesS, lzS, miS, fsC_1, fsC_2, fsC_3, fsC_4, fsC_5, fsC_6, fsC_7]
      first | rw [if_pos j84] | rw [if_neg j84]
      (repeat' split) <;> first | rfl | (exfalso; omega) | (congr 1; omega)
    · refine S_if_eq (d := qX2_goesOf_87) (kt := fun _ => ?_) (kf := fun c => absurd c (by decide))
      refine S_il4 qX2_goesOf_94 ?_
      refine S_is7 qX2_goesOf_96 (K := ?_)
      refine S_al0 qX2_goesOf_98 ?_
      refine S_getR qX2_goesOf_99 fX2_9 (F_3 hf) ?_
      refine S_il1 qX2_goesOf_102 ?_
      refine S_iald qX2_goesOf_103 (Fa_1 hf) (K := ?_)
      by_cases s104_1 : V (f + 1) d = 1
      · refine S_tabIn (tgt := 144) (off := 40) qX2_goesOf_104 (by omega) (by omega) (by rw [s104_1]; rfl) (by decide) ?_
        refine S_il5 qX2_goesOf_144 ?_
        refine S_al0 qX2_goesOf_146 ?_
        refine S_getH qX2_goesOf_147 fX2_30 (F_2 hf) ?_
        refine S_getI qX2_goesOf_150 fX2_47 (H_0 hh) ?_
        refine S_S2E hD qX2_goesOf_153 lX2_60 sX6_modulo (c_modulo (by omega) (by omega)) (K := ?_)
        refine S_iret hz qX2_goesOf_156 ?_
        refine RE.mk ?_
        simp only [goesS, lzS, miS, fsC_1, fsC_2, fsC_3, fsC_4, fsC_5, fsC_6, fsC_7]
        first | rw [if_pos j84] | rw [if_neg j84]
        (repeat' split) <;> first | rfl | (exfalso; omega) | (congr 1; omega)
      by_cases s104_2 : V (f + 1) d = 2
      · refine S_tabIn (tgt := 157) (off := 53) qX2_goesOf_104 (by omega) (by omega) (by rw [s104_2]; rfl) (by decide) ?_
        refine S_il6 qX2_goesOf_157 ?_
        refine S_al0 qX2_goesOf_159 ?_
        refine S_getH qX2_goesOf_160 fX2_30 (F_2 hf) ?_
        refine S_getI qX2_goesOf_163 fX2_47 (H_0 hh) ?_
        refine S_S2E hD qX2_goesOf_166 lX2_60 sX6_modulo (c_modulo (by omega) (by omega)) (K := ?_)
        refine S_iret hz qX2_goesOf_169 ?_
        refine RE.mk ?_
        simp only [goesS, lzS, miS, fsC_1, fsC_2, fsC_3, fsC_4, fsC_5, fsC_6, fsC_7]
        first | rw [if_pos j84] | rw [if_neg j84]
        (repeat' split) <;> first | rfl | (exfalso; omega) | (congr 1; omega)
      by_cases s104_3 : V (f + 1) d = 3
      · refine S_tabIn (tgt := 170) (off := 66) qX2_goesOf_104 (by omega) (by omega) (by rw [s104_3]; rfl) (by decide) ?_
        refine S_il7 qX2_goesOf_170 ?_
        refine S_al0 qX2_goesOf_172 ?_
        refine S_getH qX2_goesOf_173 fX2_30 (F_2 hf) ?_
        refine S_getI qX2_goesOf_176 fX2_47 (H_0 hh) ?_
        refine S_S2E hD qX2_goesOf_179 lX2_60 sX6_modulo (c_modulo (by omega) (by omega)) (K := ?_)
        refine S_iret hz qX2_goesOf_182 ?_
        refine RE.mk ?_
        simp only [goesS, lzS, miS, fsC_1, fsC_2, fsC_3, fsC_4, fsC_5, fsC_6, fsC_7]
        first | rw [if_pos j84] | rw [if_neg j84]
        (repeat' split) <;> first | rfl | (exfalso; omega) | (congr 1; omega)
      by_cases s104_4 : V (f + 1) d = 4
      · refine S_tabIn (tgt := 183) (off := 79) qX2_goesOf_104 (by omega) (by omega) (by rw [s104_4]; rfl) (by decide) ?_
        refine S_il3 qX2_goesOf_183 ?_
        refine S_il5 qX2_goesOf_184 ?_
        refine S_il3 qX2_goesOf_186 ?_
        refine S_isub qX2_goesOf_187 ?_
        refine S_al0 qX2_goesOf_188 ?_
        refine S_getH qX2_goesOf_189 fX2_30 (F_2 hf) ?_
        refine S_getI qX2_goesOf_192 fX2_47 (H_0 hh) ?_
        refine S_S2E hD qX2_goesOf_195 lX2_60 sX6_modulo (c_modulo (by omega) (by omega)) (K := ?_)
        refine S_iconst qX2_goesOf_198 ?_
        refine S_idiv (d := qX2_goesOf_199) (k := ?_)
        refine S_iadd qX2_goesOf_200 ?_
        refine S_al0 qX2_goesOf_201 ?_
        refine S_getH qX2_goesOf_202 fX2_30 (F_2 hf) ?_
        refine S_getI qX2_goesOf_205 fX2_47 (H_0 hh) ?_
        refine S_S2E hD qX2_goesOf_208 lX2_60 sX6_modulo (c_modulo (by omega) (by omega)) (K := ?_)
        refine S_iret hz qX2_goesOf_211 ?_
        refine RE.mk ?_
        simp only [goesS, lzS, miS, fsC_1, fsC_2, fsC_3, fsC_4, fsC_5, fsC_6, fsC_7]
        first | rw [if_pos j84] | rw [if_neg j84]
        (repeat' split) <;> first | rfl | (exfalso; omega) | (congr 1; omega)
      by_cases s104_5 : V (f + 1) d = 5
      · refine S_tabIn (tgt := 212) (off := 108) qX2_goesOf_104 (by omega) (by omega) (by rw [s104_5]; rfl) (by decide) ?_
        refine S_il6 qX2_goesOf_212 ?_
        refine S_al0 qX2_goesOf_214 ?_
        refine S_getI qX2_goesOf_215 fX2_38 (F_1 hf) ?_
        refine S_iconst qX2_goesOf_218 ?_
        refine S_irem (d := qX2_goesOf_219) (k := ?_)
        refine S_iadd qX2_goesOf_220 ?_
        refine S_al0 qX2_goesOf_221 ?_
        refine S_getH qX2_goesOf_222 fX2_30 (F_2 hf) ?_
        refine S_getI qX2_goesOf_225 fX2_47 (H_0 hh) ?_
        refine S_S2E hD qX2_goesOf_228 lX2_60 sX6_modulo (c_modulo (by omega) (by omega)) (K := ?_)
        refine S_iret hz qX2_goesOf_231 ?_
        refine RE.mk ?_
        simp only [goesS, lzS, miS, fsC_1, fsC_2, fsC_3, fsC_4, fsC_5, fsC_6, fsC_7]
        first | rw [if_pos j84] | rw [if_neg j84]
        (repeat' split) <;> first | rfl | (exfalso; omega) | (congr 1; omega)
      by_cases s104_6 : V (f + 1) d = 6
      · refine S_tabIn (tgt := 232) (off := 128) qX2_goesOf_104 (by omega) (by omega) (by rw [s104_6]; rfl) (by decide) ?_
        refine S_il7 qX2_goesOf_232 ?_
        refine S_al0 qX2_goesOf_234 ?_
        refine S_getR qX2_goesOf_235 fX2_24 (F_7 hf) ?_
        refine S_il1 qX2_goesOf_238 ?_
        refine S_iconst qX2_goesOf_239 ?_
        refine S_imul qX2_goesOf_240 ?_
        refine S_al0 qX2_goesOf_241 ?_
        refine S_getI qX2_goesOf_242 fX2_38 (F_1 hf) ?_
        refine S_iconst qX2_goesOf_245 ?_
        refine S_S2E hD qX2_goesOf_246 lX2_60 sX6_modulo (c_modulo (by omega) (by omega)) (K := ?_)
        refine S_iadd qX2_goesOf_249 ?_
        refine S_iald qX2_goesOf_250 (Fa_5 hf) (K := ?_)
        refine S_iadd qX2_goesOf_251 ?_
        refine S_al0 qX2_goesOf_252 ?_
        refine S_getH qX2_goesOf_253 fX2_30 (F_2 hf) ?_
        refine S_getI qX2_goesOf_256 fX2_47 (H_0 hh) ?_
        refine S_S2E hD qX2_goesOf_259 lX2_60 sX6_modulo (c_modulo (by omega) (by omega)) (K := ?_)
        refine S_iret hz qX2_goesOf_262 ?_
        refine RE.mk ?_
        simp only [goesS, lzS, miS, fsC_1, fsC_2, fsC_3, fsC_4, fsC_5, fsC_6, fsC_7]
        first | rw [if_pos j84] | rw [if_neg j84]
        (repeat' split) <;> first | rfl | (exfalso; omega) | (congr 1; omega)
      refine S_tabOut (tgt := 263) qX2_goesOf_104 (by omega) (by omega) (by decide) ?_
      refine S_il4 qX2_goesOf_263 ?_
      refine S_al0 qX2_goesOf_265 ?_
      refine S_getH qX2_goesOf_266 fX2_30 (F_2 hf) ?_
      refine S_getI qX2_goesOf_269 fX2_47 (H_0 hh) ?_
      refine S_S2E hD qX2_goesOf_272 lX2_60 sX6_modulo (c_modulo (by omega) (by omega)) (K := ?_)
      refine S_iret hz qX2_goesOf_275 ?_
      refine RE.mk ?_
      simp only [goesS, lzS, miS, fsC_1, fsC_2, fsC_3, fsC_4, fsC_5, fsC_6, fsC_7]
      first | rw [if_pos j84] | rw [if_neg j84]
      (repeat' split) <;> first | rfl | (exfalso; omega) | (congr 1; omega)
  · refine S_if_ne (d := qX2_goesOf_5) (kt := fun c => absurd c (by decide)) (kf := fun _ => ?_)
    refine S_iconst qX2_goesOf_8 ?_
    refine S_iret hz qX2_goesOf_9 ?_
    exfalso; omega
end
section
def nxL (hs : HS) (stop : Bool) (s : FS) (r : Int → Int) (d : Int) : Int → Int := fun i => if 0 ≤ i ∧ i < d then nxS hs stop s i else r i
def waL (N was : Int → Int) (d : Int) : Int → Int := fun i => if 0 ≤ i ∧ i < 8 * d then (if i % 8 = 0 then N (i / 8) else was (i - 1)) else was i
theorem nxL_1 (hs : HS) (stop : Bool) (s : FS) (r : Int → Int) {d : Int} (h : 0 ≤ d) : ur (nxL hs stop s r d) d (nxS hs stop s d) = nxL hs stop s r (d + 1) := by
  funext i
  unfold ur nxL
  by_cases h1 : i = d
  · subst h1; rw [if_pos rfl, if_pos (by omega)]
  · rw [if_neg h1]
    by_cases h2 : 0 ≤ i ∧ i < d
    · rw [if_pos h2, if_pos (by omega)]
    · rw [if_neg h2, if_neg (by omega)]
theorem waL_1 (N was : Int → Int) {d j : Int} (h : 0 ≤ d) (hj : j = 8 * d) : ur (cpS (waL N was d) (waL N was d) j (j + 1) 7) j (N d) = waL N was (d + 1) := by
  funext i
  subst hj
  unfold ur cpS waL
  by_cases h1 : i = 8 * d
  · rw [if_pos h1, if_pos (by omega), if_pos (by omega)]
    exact congrArg N (by omega)
  · rw [if_neg h1]
    by_cases h2 : 8 * d + 1 ≤ i ∧ i < 8 * d + 1 + 7
    · rw [if_pos h2, if_neg (by omega), if_pos (by omega), if_neg (by omega)]
      exact congrArg was (by omega)
    · rw [if_neg h2]
      by_cases h3 : 0 ≤ i ∧ i < 8 * d
      · rw [if_pos h3, if_pos (show 0 ≤ i ∧ i < 8 * (d + 1) by omega)]
      · rw [if_neg h3, if_neg (by omega)]
/-- the memory behind a beat of the floor at f -/
def gbM (V : MM) (f : Nat) (hs : HS) (stop : Bool) (s : FS) : MM := upR (upR (upR V (f + 6) (nxL hs stop s (V (f + 6)) s.1)) (f + 4) (wasS hs stop s)) f (ur (V f) 1 (V f 1 + 1))

theorem goBeat_l2 {g : GC} {X : CX} {Q : Option AV → MM → Prop} {f : Nat} {V : MM} {hs : HS} {s : FS} {stop : Bool} {sb al : Int} (hF : FlC V f hs s) (hz : Fi g X none Q) (hD : Dp X 6) (hQ : Q none (gbM V f hs stop s)) : ∀ (n : Nat) (d : Int) (V1 : MM), 0 ≤ d → d + n = s.1 → V1 = upR (upR V (f + 6) (nxL hs stop s (V (f + 6)) s.1)) (f + 4) (waL (nxL hs stop s (V (f + 6)) s.1) (V (f + 4)) d) → SW g X RX2 cX2_goBeat 66 [some (vr f), some (vi sb), some (vi al), some (vi d), none] [] V1 := by
  have hf := hF.1
  have hfb := isF_b hf
  have hs1 : s.1 = V f 0 := by rw [hF.2.1]
  have hs4 : s.2.2.2.2.2.1 = V (f + 4) := by rw [hF.2.1]
  have hn := hF.2.2.2.2.1
  have hb := hF.2.2.2.2.2.1
  have hs2 : s.2.1 = V f 1 := by rw [hF.2.1]
  intro n
  induction n with
  | zero =>
    intro d V1 h0 h1 hV
    have e0 : V1 f = V f := by rw [hV, upR_n _ (by omega), upR_n _ (by omega)]
    have e1 := congrFun e0 0
    have e2 := congrFun e0 1
    refine S_il3 qX2_goBeat_66 ?_
    refine S_al0 qX2_goBeat_67 ?_
    refine S_getI qX2_goBeat_68 fX2_34 (F_0 hf) ?_
    refine S_icmp_ge (d := qX2_goBeat_71) (kt := fun c71 => ?_) (kf := fun c71 => ?_)
    rotate_left
    · omega
    refine S_al0 qX2_goBeat_118 ?_
    refine S_dup (d := qX2_goBeat_119) (k := ?_)
    refine S_getI qX2_goBeat_120 fX2_38 (F_1 hf) ?_
    refine S_iconst qX2_goBeat_123 ?_
    refine S_iadd qX2_goBeat_124 ?_
    refine S_putI qX2_goBeat_125 fX2_38 (F_1 hf) tX2_1 ?_
    refine S_vret hz qX2_goBeat_128 ?_
    have hd : d = s.1 := by omega
    subst hd
    have e : upR V1 f (ur (V1 f) 1 (V1 f 1 + 1)) = gbM V f hs stop s := by
      rw [e0, hV]
      unfold gbM
      congr 2
      funext i
      rw [was_in, hs4]
      unfold waL
      by_cases h3 : 0 ≤ i ∧ i < 8 * s.1
      · rw [if_pos h3, if_pos h3]
        by_cases h4 : i % 8 = 0
        · rw [if_pos h4, if_pos h4]
          unfold nxL
          rw [if_pos (by omega)]
        · rw [if_neg h4, if_neg h4]
      · rw [if_neg h3, if_neg h3]
    rw [e]
    exact hQ
  | succ n ih =>
    intro d V1 h0 h1 hV
    have e0 : V1 f = V f := by rw [hV, upR_n _ (by omega), upR_n _ (by omega)]
    have e1 := congrFun e0 0
    have e6 : V1 (f + 6) = nxL hs stop s (V (f + 6)) s.1 := by rw [hV, upR_n _ (by omega), upR_s]
    have e4 : V1 (f + 4) = waL (nxL hs stop s (V (f + 6)) s.1) (V (f + 4)) d := by rw [hV, upR_s]
    refine S_il3 qX2_goBeat_66 ?_
    refine S_al0 qX2_goBeat_67 ?_
    refine S_getI qX2_goBeat_68 fX2_34 (F_0 hf) ?_
    refine S_icmp_ge (d := qX2_goBeat_71) (kt := fun c71 => ?_) (kf := fun c71 => ?_)
    · omega
    refine S_il3 qX2_goBeat_74 ?_
    refine S_bipush (d := qX2_goBeat_75) (k := ?_)
    refine S_imul qX2_goBeat_77 ?_
    refine S_is4 qX2_goBeat_78 (K := ?_)
    refine S_al0 qX2_goBeat_80 ?_
    refine S_getR qX2_goBeat_81 fX2_21 (F_6 hf) ?_
    refine S_il4 qX2_goBeat_84 ?_
    refine S_al0 qX2_goBeat_86 ?_
    refine S_getR qX2_goBeat_87 fX2_21 (F_6 hf) ?_
    refine S_il4 qX2_goBeat_90 ?_
    refine S_iconst qX2_goBeat_92 ?_
    refine S_iadd qX2_goBeat_93 ?_
    refine S_bipush (d := qX2_goBeat_94) (k := ?_)
    refine S_copyI hD qX2_goBeat_96 cp_X2_41 (Fa_4 hf) (Fa_4 hf) (K := ?_)
    refine S_al0 qX2_goBeat_99 ?_
    refine S_getR qX2_goBeat_100 fX2_21 (F_6 hf) ?_
    refine S_il4 qX2_goBeat_103 ?_
    refine S_al0 qX2_goBeat_105 ?_
    refine S_getR qX2_goBeat_106 fX2_27 (F_8 hf) ?_
    refine S_il3 qX2_goBeat_109 ?_
    refine S_iald qX2_goBeat_110 (Fa_6 hf) (K := ?_)
    refine S_iast qX2_goBeat_111 (Fa_4 hf) (K := ?_)
    refine S_inc3 qX2_goBeat_112 (K := ?_)
    refine S_goto qX2_goBeat_115 ?_
    refine SW.forget 4 (ih (d + 1) _ (by omega) (by omega) ?_)
    rw [upR_u, upR_s, upR_n _ (by omega), e4, e6, waL_1 _ _ h0 (by omega), hV, upR_u]
theorem goBeat_l1 {g : GC} {X : CX} {Q : Option AV → MM → Prop} {f : Nat} {V : MM} {hs : HS} {s : FS} {stop : Bool} {sb : Int} (hF : FlC V f hs s) (hz : Fi g X none Q) (hD : Dp X 6) (hQ : Q none (gbM V f hs stop s)) : ∀ (n : Nat) (d : Int) (V1 : MM), 0 ≤ d → d + n = s.1 → V1 = upR V (f + 6) (nxL hs stop s (V (f + 6)) d) → SW g X RX2 cX2_goBeat 26 [some (vr f), some (vi sb), some (vi (b2i (stop || stopS hs s))), some (vi d), none] [] V1 := by
  have hf := hF.1
  have hfb := isF_b hf
  have hs1 : s.1 = V f 0 := by rw [hF.2.1]
  have hs4 : s.2.2.2.2.2.1 = V (f + 4) := by rw [hF.2.1]
  have hn := hF.2.2.2.2.1
  intro n
  induction n with
  | zero =>
    intro d V1 h0 h1 hV
    have e0 : V1 f = V f := by rw [hV, upR_n _ (by omega)]
    have e1 := congrFun e0 0
    have hd : d = s.1 := by omega
    refine S_il3 qX2_goBeat_26 ?_
    refine S_al0 qX2_goBeat_27 ?_
    refine S_getI qX2_goBeat_28 fX2_34 (F_0 hf) ?_
    refine S_icmp_ge (d := qX2_goBeat_31) (kt := fun c31 => ?_) (kf := fun c31 => ?_)
    rotate_left
    · omega
    refine S_iconst qX2_goBeat_64 ?_
    refine S_is3 qX2_goBeat_65 (K := ?_)
    refine goBeat_l2 (stop := stop) hF hz hD hQ s.1.toNat 0 V1 (by omega) (by omega) ?_
    rw [hV, hd]
    have e : waL (nxL hs stop s (V (f + 6)) s.1) (V (f + 4)) 0 = V (f + 4) := by
      funext i
      unfold waL
      rw [if_neg (by omega)]
    rw [e, ← upR_n (V := V) (a := f + 6) (k := f + 4) (nxL hs stop s (V (f + 6)) s.1) (by omega), upR_id]
  | succ n ih =>
    intro d V1 h0 h1 hV
    have e0 : V1 f = V f := by rw [hV, upR_n _ (by omega)]
    have e1 := congrFun e0 0
    have e4 : V1 (f + 4) = V (f + 4) := by rw [hV, upR_n _ (by omega)]
    have e6 : V1 (f + 6) = nxL hs stop s (V (f + 6)) d := by rw [hV, upR_s]
    have hF1 : FlC V1 f hs s := hF.cong (fun k h1 h2 => by rw [hV, upR_n _ (by omega)]) (fun k h1 h2 => by rw [hV, upR_n _ (by omega)])
    have hc : nxS hs stop s d = (if stop || stopS hs s then V1 (f + 4) (8 * d) else goesS hs s d) := by rw [e4, ← hs4]; rfl
    have hb : b2i (stop || stopS hs s) = 0 ∨ b2i (stop || stopS hs s) = 1 := by cases stop || stopS hs s <;> simp [b2i]
    refine S_il3 qX2_goBeat_26 ?_
    refine S_al0 qX2_goBeat_27 ?_
    refine S_getI qX2_goBeat_28 fX2_34 (F_0 hf) ?_
    refine S_icmp_ge (d := qX2_goBeat_31) (kt := fun c31 => ?_) (kf := fun c31 => ?_)
    · omega
    refine S_al0 qX2_goBeat_34 ?_
    refine S_getR qX2_goBeat_35 fX2_27 (F_8 hf) ?_
    refine S_il3 qX2_goBeat_38 ?_
    refine S_il2 qX2_goBeat_39 ?_
    refine S_if_eq (d := qX2_goBeat_40) (kt := fun c40 => ?_) (kf := fun c40 => ?_)
    · refine S_al0 qX2_goBeat_52 ?_
      refine S_il3 qX2_goBeat_53 ?_
      refine S_V1E hD qX2_goBeat_54 lX2_77 vX2_goesOf (F_r hf) (c_goesOf hF1 (by omega)) (K := ?_)
      refine S_iast qX2_goBeat_57 (Fa_6 hf) (K := ?_)
      refine S_inc3 qX2_goBeat_58 (K := ?_)
      refine S_goto qX2_goBeat_61 ?_
      refine ih (d + 1) _ (by omega) (by omega) ?_
      have hx : (stop || stopS hs s) = true ∨ (stop || stopS hs s) = false := by cases stop || stopS hs s <;> simp
      rcases hx with hx | hx
      · first
          | (rw [if_pos hx] at hc; rw [e6, ← hc, nxL_1 _ _ _ _ h0, hV, upR_u]; done)
          | (exfalso; rw [hx] at c40; simp [b2i] at c40; done)
      · first
          | (rw [if_neg (by rw [hx]; decide)] at hc; rw [e6, ← hc, nxL_1 _ _ _ _ h0, hV, upR_u]; done)
          | (exfalso; rw [hx] at c40; simp [b2i] at c40; done)
    · refine S_al0 qX2_goBeat_43 ?_
      refine S_il3 qX2_goBeat_44 ?_
      refine S_iconst qX2_goBeat_45 ?_
      refine S_V2E hD qX2_goBeat_46 lX2_68 vX2_wasOf (F_r hf) (c_was0 hf (by omega) (by omega)) (K := ?_)
      refine S_goto qX2_goBeat_49 ?_
      refine S_iast qX2_goBeat_57 (Fa_6 hf) (K := ?_)
      refine S_inc3 qX2_goBeat_58 (K := ?_)
      refine S_goto qX2_goBeat_61 ?_
      refine ih (d + 1) _ (by omega) (by omega) ?_
      have hx : (stop || stopS hs s) = true ∨ (stop || stopS hs s) = false := by cases stop || stopS hs s <;> simp
      rcases hx with hx | hx
      · first
          | (rw [if_pos hx] at hc; rw [e6, ← hc, nxL_1 _ _ _ _ h0, hV, upR_u]; done)
          | (exfalso; rw [hx] at c40; simp [b2i] at c40; done)
      · first
          | (rw [if_neg (by rw [hx]; decide)] at hc; rw [e6, ← hc, nxL_1 _ _ _ _ h0, hV, upR_u]; done)
          | (exfalso; rw [hx] at c40; simp [b2i] at c40; done)
theorem c_goBeatM {g : GC} {f : Nat} {V : MM} {hs : HS} {s : FS} {stop : Bool} (hF : FlC V f hs s) (hb : s.2.1 < 20000) : Ct g mX2_goBeat 6 [vr f, vi (b2i stop)] V (RW (gbM V f hs stop s)) := by
  refine Ct.of (ls := [some (vr f), some (vi (b2i stop)), none, none, none]) (plainFor_of_name (by decide +kernel)) rfl (by exact Nat.le_of_ble_eq_true rfl) (fun X hz hD => ?_)
  have hf := hF.1
  have hs1 : s.1 = V f 0 := by rw [hF.2.1]
  have hs2 : s.2.1 = V f 1 := by rw [hF.2.1]
  have hn := hF.2.2.2.2.1
  have hb0 := hF.2.2.2.2.2.1
  have hH := hF.2.2.1.1
  have hh := hH.1
  have ehs := hF.2.2.1.2
  have hbb : b2i stop = 0 ∨ b2i stop = 1 := by cases stop <;> simp [b2i]
  refine S_il1 qX2_goBeat_0 ?_
  refine S_if_ne (d := qX2_goBeat_1) (kt := fun c1 => ?_) (kf := fun c1 => ?_)
  · refine S_iconst qX2_goBeat_18 ?_
    refine S_goto qX2_goBeat_19 ?_
    refine S_is2 qX2_goBeat_23 (K := ?_)
    refine S_iconst qX2_goBeat_24 ?_
    refine S_is3 qX2_goBeat_25 (K := ?_)
    have ea : ∀ z : Int, z = b2i (stop || stopS hs s) → SW g X RX2 cX2_goBeat 26 [some (vr f), some (vi (b2i stop)), some (vi z), some (vi 0), none] [] V := fun z hz2 => by
      rw [hz2]
      refine goBeat_l1 hF hz hD (RW.mk rfl) s.1.toNat 0 V (by omega) (by omega) ?_
      have e : nxL hs stop s (V (f + 6)) 0 = V (f + 6) := by
        funext i
        unfold nxL
        rw [if_neg (by omega)]
      rw [e, upR_id]
    refine ea _ ?_
    first
      | (have hst : stop = true := by cases stop <;> simp_all [b2i]
         rw [hst]; rfl)
      | (have hst : stop = false := by cases stop <;> simp_all [b2i]
         have j2 : stopS hs s = true := stop_j.mpr (by rw [ehs, hs2]; exact j12)
         rw [hst, j2]; rfl)
      | (have hst : stop = false := by cases stop <;> simp_all [b2i]
         have j2 : stopS hs s = false := by
           cases hq : stopS hs s
           · rfl
           · have := stop_j.mp hq
             rw [ehs, hs2] at this
             exact absurd this j12
         rw [hst, j2]; rfl)
  · refine S_al0 qX2_goBeat_4 ?_
    refine S_getH qX2_goBeat_5 fX2_30 (F_2 hf) ?_
    refine S_al0 qX2_goBeat_8 ?_
    refine S_getI qX2_goBeat_9 fX2_38 (F_1 hf) ?_
    refine S_V1B hD qX2_goBeat_12 lX2_74 vX3_stopsAfter (H_r hh) (c_stopsAfter hH (by omega)) (kt := fun j12 => ?_) (kf := fun j12 => ?_)
    · refine S_if_eq (d := qX2_goBeat_15) (kt := fun c => absurd c (by decide)) (kf := fun _ => ?_)
      refine S_iconst qX2_goBeat_18 ?_
      refine S_goto qX2_goBeat_19 ?_
      refine S_is2 qX2_goBeat_23 (K := ?_)
      refine S_iconst qX2_goBeat_24 ?_
      refine S_is3 qX2_goBeat_25 (K := ?_)
      have ea : ∀ z : Int, z = b2i (stop || stopS hs s) → SW g X RX2 cX2_goBeat 26 [some (vr f), some (vi (b2i stop)), some (vi z), some (vi 0), none] [] V := fun z hz2 => by
        rw [hz2]
        refine goBeat_l1 hF hz hD (RW.mk rfl) s.1.toNat 0 V (by omega) (by omega) ?_
        have e : nxL hs stop s (V (f + 6)) 0 = V (f + 6) := by
          funext i
          unfold nxL
          rw [if_neg (by omega)]
        rw [e, upR_id]
      refine ea _ ?_
      first
        | (have hst : stop = true := by cases stop <;> simp_all [b2i]
           rw [hst]; rfl)
        | (have hst : stop = false := by cases stop <;> simp_all [b2i]
           have j2 : stopS hs s = true := stop_j.mpr (by rw [ehs, hs2]; exact j12)
           rw [hst, j2]; rfl)
        | (have hst : stop = false := by cases stop <;> simp_all [b2i]
           have j2 : stopS hs s = false := by
             cases hq : stopS hs s
             · rfl
             · have := stop_j.mp hq
               rw [ehs, hs2] at this
               exact absurd this j12
           rw [hst, j2]; rfl)
    · refine S_if_eq (d := qX2_goBeat_15) (kt := fun _ => ?_) (kf := fun c => absurd c (by decide))
      refine S_iconst qX2_goBeat_22 ?_
      refine S_is2 qX2_goBeat_23 (K := ?_)
      refine S_iconst qX2_goBeat_24 ?_
      refine S_is3 qX2_goBeat_25 (K := ?_)
      have ea : ∀ z : Int, z = b2i (stop || stopS hs s) → SW g X RX2 cX2_goBeat 26 [some (vr f), some (vi (b2i stop)), some (vi z), some (vi 0), none] [] V := fun z hz2 => by
        rw [hz2]
        refine goBeat_l1 hF hz hD (RW.mk rfl) s.1.toNat 0 V (by omega) (by omega) ?_
        have e : nxL hs stop s (V (f + 6)) 0 = V (f + 6) := by
          funext i
          unfold nxL
          rw [if_neg (by omega)]
        rw [e, upR_id]
      refine ea _ ?_
      first
        | (have hst : stop = true := by cases stop <;> simp_all [b2i]
           rw [hst]; rfl)
        | (have hst : stop = false := by cases stop <;> simp_all [b2i]
           have j2 : stopS hs s = true := stop_j.mpr (by rw [ehs, hs2]; exact j12)
           rw [hst, j2]; rfl)
        | (have hst : stop = false := by cases stop <;> simp_all [b2i]
           have j2 : stopS hs s = false := by
             cases hq : stopS hs s
             · rfl
             · have := stop_j.mp hq
               rw [ehs, hs2] at this
               exact absurd this j12
           rw [hst, j2]; rfl)

theorem gbM_at {V : MM} {f : Nat} {hs : HS} {s : FS} (stop : Bool) (hF : FlC V f hs s) (hb : s.2.1 < 20000) : FlC (gbM V f hs stop s) f hs (goS hs stop s) ∧ Sm V (gbM V f hs stop s) f 7 ∧ gbM V f hs stop s f 2 = V f 2 := by
  obtain ⟨hf, rfl, hH, h0, hI⟩ := hF
  have hfb := isF_b hf
  have a0 : gbM V f hs stop (fsC V f) f = ur (V f) 1 (V f 1 + 1) := by unfold gbM; rw [upR_s]
  have a2 : gbM V f hs stop (fsC V f) f 2 = V f 2 := by rw [a0, ur_n _ (by omega)]
  have a4 : gbM V f hs stop (fsC V f) (f + 4) = wasS hs stop (fsC V f) := by unfold gbM; rw [upR_n _ (by omega), upR_s]
  have ak : ∀ k : Nat, k ≠ f → k ≠ f + 4 → k ≠ f + 6 → gbM V f hs stop (fsC V f) k = V k := fun k h1 h2 h3 => by unfold gbM; rw [upR_n _ h1, upR_n _ h2, upR_n _ h3]
  refine ⟨⟨hf, ?_, ?_, by rw [a2]; exact h0, go_inv stop hI (by rw [hH.2]; exact hH.1.2.1.1) hb⟩, fun k hk => ak k (by omega) (by omega) (by omega), a2⟩
  · show goS hs stop (fsC V f) = (gbM V f hs stop (fsC V f) f 0, gbM V f hs stop (fsC V f) f 1, gbM V f hs stop (fsC V f) (f + 1), gbM V f hs stop (fsC V f) (f + 2), gbM V f hs stop (fsC V f) (f + 3), gbM V f hs stop (fsC V f) (f + 4), gbM V f hs stop (fsC V f) (f + 5))
    rw [a0, a4, ak (f + 1) (by omega) (by omega) (by omega), ak (f + 2) (by omega) (by omega) (by omega), ak (f + 3) (by omega) (by omega) (by omega), ak (f + 5) (by omega) (by omega) (by omega), ur_s, ur_n _ (by omega)]
    rfl
  · rw [a2]
    exact HlC_cong hH (fun k h1 h2 => ak k (by omega) (by omega) (by omega))
theorem c_goBeat {g : GC} {f : Nat} {V : MM} {hs : HS} {s : FS} (stop : Bool) (hF : FlC V f hs s) (hb : s.2.1 < 20000) : Ct g mX2_goBeat 6 [vr f, vi (b2i stop)] V (RV (fun V' => FlC V' f hs (goS hs stop s) ∧ Sm V V' f 7 ∧ V' f 2 = V f 2)) :=
  (c_goBeatM hF hb).mono (fun r V' h => by
    obtain ⟨rfl, rfl⟩ := h
    exact ⟨rfl, gbM_at stop hF hb⟩)
end
section
/-- which places of a memory stand for anything -/
def inR (k : Nat) (i : Int) : Prop := match sh k with
  | .inl o => 0 ≤ i ∧ i < o.2.length
  | .inr a => 0 ≤ i ∧ i < a.2
theorem arrV_cong (c : ClassId) {n : Nat} {z z' : Nat → Value} (h : ∀ j, j < n → z j = z' j) : arrV c n z = arrV c n z' := by
  unfold arrV
  first
    | (congr 1; apply Array.ext <;> simp; intro i hi; exact h i hi)
    | (congr 2; apply List.map_congr_left; intro i hi; exact h i (List.mem_range.mp hi))
    | (simp; intro i hi; exact h i hi)
theorem ent_cong (g : GC) {V V' : MM} {k : Nat} (h : ∀ i, inR k i → V k i = V' k i) {H : Heap} (hP : va_at g.2.1 qcl (g.2.2.1 k, ent g V k) H) : va_at g.2.1 qcl (g.2.2.1 k, ent g V' k) H := by
  unfold ent at hP ⊢
  unfold inR at h
  cases hs : sh k with
  | inl o =>
    rw [hs] at hP h
    have e : o.2.mapIdx (fun j q => fval g q (V k (j : Int))) = o.2.mapIdx (fun j q => fval g q (V' k (j : Int))) := by
      apply List.ext_getElem?
      intro i
      rw [List.getElem?_mapIdx, List.getElem?_mapIdx]
      cases hi : o.2[i]? with
      | none => rfl
      | some q =>
        have hl := (List.getElem?_eq_some_iff.mp hi).1
        simp only [Option.map_some]
        rw [h (i : Int) ⟨by omega, by omega⟩]
    show va_at g.2.1 qcl (g.2.2.1 k, .inr (o.1, o.2.mapIdx (fun j q => fval g q (V' k (j : Int))))) H
    rw [← e]
    exact hP
  | inr a =>
    rw [hs] at hP h
    have e : vp_cell (g.2.2.2.2 a.1) (a.2, cont g a.1 (V k)) = vp_cell (g.2.2.2.2 a.1) (a.2, cont g a.1 (V' k)) := by
      unfold cont
      split
      · rw [vp_cell_l, vp_cell_l]
        exact arrV_cong _ (fun j hj => by rw [h (j : Int) ⟨by omega, by omega⟩])
      · rfl
      · rfl
      · rw [vp_cell_i, vp_cell_i]
        exact arrV_cong _ (fun j hj => by rw [h (j : Int) ⟨by omega, by omega⟩])
    show H[g.2.2.1 k]? = some (vp_cell (g.2.2.2.2 a.1) (a.2, cont g a.1 (V' k)))
    rw [← e]
    exact hP
theorem wl_cong {g : GC} {V V' : MM} {H : Heap} (h : ∀ k i, inR k i → V k i = V' k i) (hP : va_P g.2.1 qcl (wl g V) H) : va_P g.2.1 qcl (wl g V') H := by
  intro k q hk
  obtain ⟨hk2, rfl⟩ := wl_in hk
  exact ent_cong g (h k) (hP k _ (wl_at g V hk2))
theorem SW.castR {g : GC} {X : CX} {own : String} {cc : ByteArray} {pc : Nat} {ls : List (Option AV)} {st : List AV} {V V' : MM} (k : SW g X own cc pc ls st V') (h : ∀ k i, inR k i → V k i = V' k i) : SW g X own cc pc ls st V := by
  obtain ⟨⟨p, e, R, s, m⟩, ⟨args, below, meth, c⟩, ⟨nL, cells, slots, Z⟩⟩ := X
  intro hC H locs lsA hP hS hl
  exact k hC H locs lsA (wl_cong h hP) hS hl
theorem inR_a {k t n : Nat} {i : Int} (hk : ak k = some (t, n)) (h : inR k i) : 0 ≤ i ∧ i < n := by
  unfold inR at h
  unfold ak at hk
  split at hk
  · cases hk
  · rename_i a ha
    rw [ha] at h
    cases hk
    exact h

theorem cp_row {V : MM} {k0 k1 t n : Nat} {z : Int} (hk : ak k1 = some (t, n)) (hz : z = n) : ∀ k i, inR k i → upR V k1 (cpS (V k0) (V k1) 0 0 z) k i = upR V k1 (V k0) k i := by
  intro k i h
  by_cases e : k = k1
  · subst e
    have h2 := inR_a hk h
    rw [upR_s, upR_s]
    unfold cpS
    rw [if_pos (by omega)]
    exact congrArg _ (by omega)
  · rw [upR_n _ e, upR_n _ e]

theorem c_becomeM {g : GC} {f o : Nat} {V : MM} (hf : isF f) (ho : isF o) (hne : f ≠ o) (hq : 0 ≤ V o 2) : Ct g mX2_become 2 [vr f, vr o] V (RW (upR (upR (upR (upR (upR (upR V f (ur (ur (ur (V f) 0 (V o 0)) 1 (V o 1)) 2 (V o 2))) (f + 1) (V (o + 1))) (f + 2) (V (o + 2))) (f + 3) (V (o + 3))) (f + 4) (V (o + 4))) (f + 5) (V (o + 5)))) := by
  refine Ct.of (ls := [some (vr f), some (vr o)]) (plainFor_of_name (by decide +kernel)) rfl (by exact Nat.le_of_ble_eq_true rfl) (fun X hz hD => ?_)
  have hsep : f + 7 ≤ o ∨ o + 7 ≤ f := by unfold isF at hf ho; omega
  refine S_al0 qX2_become_0 ?_
  refine S_al1 qX2_become_1 ?_
  refine S_getI qX2_become_2 fX2_34 (F_0 ho) ?_
  refine S_putI qX2_become_5 fX2_34 (F_0 hf) tX2_0 ?_
  refine S_al0 qX2_become_8 ?_
  refine S_al1 qX2_become_9 ?_
  refine S_getI qX2_become_10 fX2_38 (F_1 ho) ?_
  refine S_putI qX2_become_13 fX2_38 (F_1 hf) tX2_1 ?_
  refine S_al0 qX2_become_16 ?_
  refine S_al1 qX2_become_17 ?_
  refine S_getH qX2_become_18 fX2_30 (F_2 ho) ?_
  refine S_putH qX2_become_21 fX2_30 (F_2 hf) tX2_2 ?_
  refine S_al1 qX2_become_24 ?_
  refine S_getR qX2_become_25 fX2_9 (F_3 ho) ?_
  refine S_iconst qX2_become_28 ?_
  refine S_al0 qX2_become_29 ?_
  refine S_getR qX2_become_30 fX2_9 (F_3 hf) ?_
  refine S_iconst qX2_become_33 ?_
  refine S_bipush (d := qX2_become_34) (k := ?_)
  refine S_copyI hD qX2_become_36 cp_X2_41 (Fa_1 ho) (Fa_1 hf) (K := ?_)
  refine SW.castR ?_ (cp_row (Fa_1 hf) (by rfl))
  refine S_al1 qX2_become_39 ?_
  refine S_getR qX2_become_40 fX2_15 (F_4 ho) ?_
  refine S_iconst qX2_become_43 ?_
  refine S_al0 qX2_become_44 ?_
  refine S_getR qX2_become_45 fX2_15 (F_4 hf) ?_
  refine S_iconst qX2_become_48 ?_
  refine S_bipush (d := qX2_become_49) (k := ?_)
  refine S_copyI hD qX2_become_51 cp_X2_41 (Fa_2 ho) (Fa_2 hf) (K := ?_)
  refine SW.castR ?_ (cp_row (Fa_2 hf) (by rfl))
  refine S_al1 qX2_become_54 ?_
  refine S_getR qX2_become_55 fX2_18 (F_5 ho) ?_
  refine S_iconst qX2_become_58 ?_
  refine S_al0 qX2_become_59 ?_
  refine S_getR qX2_become_60 fX2_18 (F_5 hf) ?_
  refine S_iconst qX2_become_63 ?_
  refine S_bipush (d := qX2_become_64) (k := ?_)
  refine S_copyI hD qX2_become_66 cp_X2_41 (Fa_3 ho) (Fa_3 hf) (K := ?_)
  refine SW.castR ?_ (cp_row (Fa_3 hf) (by rfl))
  refine S_al1 qX2_become_69 ?_
  refine S_getR qX2_become_70 fX2_21 (F_6 ho) ?_
  refine S_iconst qX2_become_73 ?_
  refine S_al0 qX2_become_74 ?_
  refine S_getR qX2_become_75 fX2_21 (F_6 hf) ?_
  refine S_iconst qX2_become_78 ?_
  refine S_bipush (d := qX2_become_79) (k := ?_)
  refine S_copyI hD qX2_become_81 cp_X2_41 (Fa_4 ho) (Fa_4 hf) (K := ?_)
  refine SW.castR ?_ (cp_row (Fa_4 hf) (by rfl))
  refine S_al1 qX2_become_84 ?_
  refine S_getR qX2_become_85 fX2_24 (F_7 ho) ?_
  refine S_iconst qX2_become_88 ?_
  refine S_al0 qX2_become_89 ?_
  refine S_getR qX2_become_90 fX2_24 (F_7 hf) ?_
  refine S_iconst qX2_become_93 ?_
  refine S_bipush (d := qX2_become_94) (k := ?_)
  refine S_copyI hD qX2_become_96 cp_X2_41 (Fa_5 ho) (Fa_5 hf) (K := ?_)
  refine SW.castR ?_ (cp_row (Fa_5 hf) (by rfl))
  refine S_vret hz qX2_become_99 ?_
  refine RW.mk ?_
  simp only [upR_n _ (show o ≠ f by omega), upR_n _ (show o + 1 ≠ f by omega), upR_n _ (show o + 2 ≠ f by omega), upR_n _ (show o + 2 ≠ f + 1 by omega), upR_n _ (show o + 3 ≠ f by omega), upR_n _ (show o + 3 ≠ f + 1 by omega), upR_n _ (show o + 3 ≠ f + 2 by omega), upR_n _ (show o + 4 ≠ f by omega), upR_n _ (show o + 4 ≠ f + 1 by omega), upR_n _ (show o + 4 ≠ f + 2 by omega), upR_n _ (show o + 4 ≠ f + 3 by omega), upR_n _ (show o + 5 ≠ f by omega), upR_n _ (show o + 5 ≠ f + 1 by omega), upR_n _ (show o + 5 ≠ f + 2 by omega), upR_n _ (show o + 5 ≠ f + 3 by omega), upR_n _ (show o + 5 ≠ f + 4 by omega), upR_s, upR_u, Int.toNat_of_nonneg hq]

theorem become_at {V : MM} {f o : Nat} {hs : HS} {s : FS} (hf : isF f) (hne : f ≠ o) (hF : FlC V o hs s) : FlC (upR (upR (upR (upR (upR (upR V f (ur (ur (ur (V f) 0 (V o 0)) 1 (V o 1)) 2 (V o 2))) (f + 1) (V (o + 1))) (f + 2) (V (o + 2))) (f + 3) (V (o + 3))) (f + 4) (V (o + 4))) (f + 5) (V (o + 5))) f hs s := by
  obtain ⟨ho, rfl, hH, h0, hI⟩ := hF
  have hfb := isF_b hf
  have hob := isF_b ho
  generalize hW : upR (upR (upR (upR (upR (upR V f (ur (ur (ur (V f) 0 (V o 0)) 1 (V o 1)) 2 (V o 2))) (f + 1) (V (o + 1))) (f + 2) (V (o + 2))) (f + 3) (V (o + 3))) (f + 4) (V (o + 4))) (f + 5) (V (o + 5)) = W
  have a0 : W f = ur (ur (ur (V f) 0 (V o 0)) 1 (V o 1)) 2 (V o 2) := by rw [← hW]; simp only [upR_n _ (show f ≠ f + 1 by omega), upR_n _ (show f ≠ f + 2 by omega), upR_n _ (show f ≠ f + 3 by omega), upR_n _ (show f ≠ f + 4 by omega), upR_n _ (show f ≠ f + 5 by omega), upR_s]
  have a1 : W (f + 1) = V (o + 1) := by rw [← hW]; simp only [upR_n _ (show f + 1 ≠ f + 2 by omega), upR_n _ (show f + 1 ≠ f + 3 by omega), upR_n _ (show f + 1 ≠ f + 4 by omega), upR_n _ (show f + 1 ≠ f + 5 by omega), upR_s]
  have a2 : W (f + 2) = V (o + 2) := by rw [← hW]; simp only [upR_n _ (show f + 2 ≠ f + 3 by omega), upR_n _ (show f + 2 ≠ f + 4 by omega), upR_n _ (show f + 2 ≠ f + 5 by omega), upR_s]
  have a3 : W (f + 3) = V (o + 3) := by rw [← hW]; simp only [upR_n _ (show f + 3 ≠ f + 4 by omega), upR_n _ (show f + 3 ≠ f + 5 by omega), upR_s]
  have a4 : W (f + 4) = V (o + 4) := by rw [← hW]; simp only [upR_n _ (show f + 4 ≠ f + 5 by omega), upR_s]
  have a5 : W (f + 5) = V (o + 5) := by rw [← hW, upR_s]
  have b2 : W f 2 = V o 2 := by rw [a0, ur_s]
  refine ⟨hf, ?_, ?_, by rw [b2]; exact h0, hI⟩
  · show _ = (W f 0, W f 1, W (f + 1), W (f + 2), W (f + 3), W (f + 4), W (f + 5))
    rw [a0, a1, a2, a3, a4, a5, ur_n _ (by omega), ur_n _ (by omega), ur_s, ur_n _ (by omega), ur_s]
  · rw [b2]
    refine HlC_cong hH (fun k h1 h2 => ?_)
    rw [← hW, upR_n _ (by omega), upR_n _ (by omega), upR_n _ (by omega), upR_n _ (by omega), upR_n _ (by omega), upR_n _ (by omega)]
theorem c_become {g : GC} {f o : Nat} {V : MM} {hs : HS} {s : FS} (hf : isF f) (hne : f ≠ o) (hF : FlC V o hs s) : Ct g mX2_become 2 [vr f, vr o] V (RV (fun V' => FlC V' f hs s ∧ Sm V V' f 6 ∧ V' f 2 = V o 2)) :=
  (c_becomeM hf hF.1 hne hF.2.2.2.1).mono (fun r V' h => by
    obtain ⟨rfl, rfl⟩ := h
    have hfb := isF_b hf
    have hF2 := become_at hf hne hF
    refine ⟨rfl, hF2, fun k hk => ?_, ?_⟩
    · rw [upR_n _ (by omega), upR_n _ (by omega), upR_n _ (by omega), upR_n _ (by omega), upR_n _ (by omega), upR_n _ (by omega)]
    · rw [upR_n _ (by omega), upR_n _ (by omega), upR_n _ (by omega), upR_n _ (by omega), upR_n _ (by omega), upR_s, ur_s])
end
section
def allN (p : Int → Bool) : Nat → Bool
  | 0 => true
  | n + 1 => allN p n && p (n : Int)
theorem allN_iff {p : Int → Bool} {n : Nat} : allN p n = true ↔ ∀ i : Int, 0 ≤ i ∧ i < n → p i = true := by
  induction n with
  | zero => exact ⟨fun _ i hi => absurd hi.2 (by simp; omega), fun _ => rfl⟩
  | succ n ih =>
    unfold allN
    rw [Bool.and_eq_true, ih]
    constructor
    · intro h i hi
      by_cases e : i = n
      · rw [e]; exact h.2
      · exact h.1 i (by omega)
    · intro h
      exact ⟨fun i hi => h i (by omega), h n (by omega)⟩
theorem allN_I {p : Int → Bool} {n : Int} (hn : 0 ≤ n) : allN p n.toNat = true ↔ ∀ i : Int, 0 ≤ i ∧ i < n → p i = true := by
  rw [allN_iff, Int.toNat_of_nonneg hn]
def togB (s : FS) : Bool := allN (fun d => decide (s.2.2.2.2.2.1 (8 * d) = s.2.2.2.2.2.1 0)) s.1.toNat
def aloB (s : FS) (d : Int) : Bool := allN (fun o => decide (o ≠ d → s.2.2.2.2.2.1 (8 * o) ≠ s.2.2.2.2.2.1 (8 * d))) s.1.toNat
def stiB (hs : HS) (s : FS) : Bool := allN (fun d => decide (goesS hs s d = s.2.2.2.2.2.1 (8 * d))) s.1.toNat
def samB (s s' : FS) : Bool := allN (fun i => decide (s.2.2.2.2.2.1 i = s'.2.2.2.2.2.1 i)) (8 * s.1).toNat
def apaS (hs : HS) (s : FS) (a b : Int) : Int := let u := (s.2.2.2.2.2.1 (8 * a) - s.2.2.2.2.2.1 (8 * b)) % hs.1; if hs.1 - u < u then hs.1 - u else u
/-- the first k behind which P is so, a beat for which the band stops being sb -/
def fstS (hs : HS) (P : FS → Bool) (sb : Int) : Nat → Int → FS → Int
  | 0, _, _ => -5
  | n + 1, k, s => if P s then k else fstS hs P sb n (k + 1) (goS hs (decide (k = sb)) s)
def goN (hs : HS) : Nat → FS → FS
  | 0, s => s
  | n + 1, s => goN hs n (goS hs false s)
def alnS (hs : HS) (d : Int) : Nat → FS → Int → Int
  | 0, _, c => c
  | n + 1, s, c => alnS hs d n (goS hs false s) (if aloB (goS hs false s) d then c + 1 else c)

theorem tog_loop {g : GC} {X : CX} {Q : Option AV → MM → Prop} {f : Nat} {V : MM} (hf : isF f) (hn : 0 ≤ V f 0 ∧ V f 0 ≤ 6) (hwa : ∀ i : Int, 0 ≤ i ∧ i < 48 → 0 ≤ V (f + 4) i ∧ V (f + 4) i < 99) (hz : Fi g X (some .boolean) Q) (hD : Dp X 3) (hQ1 : (∀ i : Int, 0 ≤ i ∧ i < V f 0 → V (f + 4) (8 * i) = V (f + 4) 0) → Q (some (vi 1)) V) (hQ0 : ¬ (∀ i : Int, 0 ≤ i ∧ i < V f 0 → V (f + 4) (8 * i) = V (f + 4) 0) → Q (some (vi 0)) V) : ∀ (n : Nat) (d : Int), 0 ≤ d → d ≤ 1000 → (V f 0 - d).toNat = n → (∀ i : Int, 0 ≤ i ∧ i < d → V (f + 4) (8 * i) = V (f + 4) 0) → SW g X RX2 cX2_areTogether 2 [some (vr f), some (vi d)] [] V := by
  have e0 : V (f + 4) (8 * 0) = V (f + 4) 0 := rfl
  have w0 := hwa (8 * 0) (by omega)
  intro n
  induction n with
  | zero =>
    intro d h0 h00 h1 hall
    refine S_il1 qX2_areTogether_2 ?_
    refine S_al0 qX2_areTogether_3 ?_
    refine S_getI qX2_areTogether_4 fX2_34 (F_0 hf) ?_
    refine S_icmp_ge (d := qX2_areTogether_7) (kt := fun c7 => ?_) (kf := fun c7 => ?_)
    rotate_left
    · omega
    refine S_iconst qX2_areTogether_33 ?_
    refine S_zret hz qX2_areTogether_34 (by omega) ?_
    exact hQ1 (fun i hi => hall i (by omega))
  | succ n ih =>
    intro d h0 h00 h1 hall
    have w1 := hwa (8 * d) (by omega)
    refine S_il1 qX2_areTogether_2 ?_
    refine S_al0 qX2_areTogether_3 ?_
    refine S_getI qX2_areTogether_4 fX2_34 (F_0 hf) ?_
    refine S_icmp_ge (d := qX2_areTogether_7) (kt := fun c7 => ?_) (kf := fun c7 => ?_)
    · omega
    refine S_al0 qX2_areTogether_10 ?_
    refine S_il1 qX2_areTogether_11 ?_
    refine S_iconst qX2_areTogether_12 ?_
    refine S_V2E hD qX2_areTogether_13 lX2_68 vX2_wasOf (F_r hf) (c_was0 hf (by omega) (by omega)) (K := ?_)
    refine S_al0 qX2_areTogether_16 ?_
    refine S_iconst qX2_areTogether_17 ?_
    refine S_iconst qX2_areTogether_18 ?_
    refine S_V2E hD qX2_areTogether_19 lX2_68 vX2_wasOf (F_r hf) (c_was0 hf (by omega) (by omega)) (K := ?_)
    refine S_icmp_eq (d := qX2_areTogether_22) (kt := fun c22 => ?_) (kf := fun c22 => ?_)
    · refine S_inc1 qX2_areTogether_27 (K := ?_)
      refine S_goto qX2_areTogether_30 ?_
      refine ih (d + 1) (by omega) (by omega) (by omega) (fun i hi => ?_)
      by_cases e : i = d
      · subst e
        omega
      · exact hall i (by omega)
    · refine S_iconst qX2_areTogether_25 ?_
      refine S_zret hz qX2_areTogether_26 (by omega) ?_
      refine hQ0 (fun h => ?_)
      have h5 := h d (by omega)
      omega
theorem c_areTogether {g : GC} {f : Nat} {V : MM} {hs : HS} {s : FS} (hF : FlC V f hs s) : Ct g mX2_areTogether 3 [vr f] V (RB V (togB s = true)) := by
  refine Ct.of (ls := [some (vr f), none]) (plainFor_of_name (by decide +kernel)) rfl (by exact Nat.le_of_ble_eq_true rfl) (fun X hz hD => ?_)
  obtain ⟨hf, rfl, hn, hb, hkv, hfo, hwa, hro, hH, hh0, rfl⟩ := hF.facts
  have hw := hH.2.1
  have hwa9 : ∀ i : Int, 0 ≤ i ∧ i < 48 → 0 ≤ V (f + 4) i ∧ V (f + 4) i < 99 := fun i hi => by have := hwa i hi; omega
  have hi : togB (fsC V f) = true ↔ ∀ i : Int, 0 ≤ i ∧ i < V f 0 → V (f + 4) (8 * i) = V (f + 4) 0 := by unfold togB; rw [allN_I hn.1]; simp only [decide_eq_true_eq]
  refine S_iconst qX2_areTogether_0 ?_
  refine S_is1 qX2_areTogether_1 (K := ?_)
  exact tog_loop hf hn hwa9 hz hD (fun h => ⟨rfl, Or.inl ⟨rfl, hi.mpr h⟩⟩) (fun h => ⟨rfl, Or.inr ⟨rfl, fun q => h (hi.mp q)⟩⟩) _ 1 (by omega) (by omega) rfl (fun i hi => by rw [show i = 0 by omega]; rfl)

theorem alo_loop {g : GC} {X : CX} {Q : Option AV → MM → Prop} {f : Nat} {V : MM} {d : Int} (hf : isF f) (hn : 0 ≤ V f 0 ∧ V f 0 ≤ 6) (hwa : ∀ i : Int, 0 ≤ i ∧ i < 48 → 0 ≤ V (f + 4) i ∧ V (f + 4) i < 99) (rd : 0 ≤ d ∧ d < V f 0) (hz : Fi g X (some .boolean) Q) (hD : Dp X 3) (hQ1 : (∀ i : Int, 0 ≤ i ∧ i < V f 0 → (i ≠ d → V (f + 4) (8 * i) ≠ V (f + 4) (8 * d))) → Q (some (vi 1)) V) (hQ0 : ¬ (∀ i : Int, 0 ≤ i ∧ i < V f 0 → (i ≠ d → V (f + 4) (8 * i) ≠ V (f + 4) (8 * d))) → Q (some (vi 0)) V) : ∀ (n : Nat) (o : Int), 0 ≤ o → o ≤ 1000 → (V f 0 - o).toNat = n → (∀ i : Int, 0 ≤ i ∧ i < o → (i ≠ d → V (f + 4) (8 * i) ≠ V (f + 4) (8 * d))) → SW g X RX2 cX2_isAlone 2 [some (vr f), some (vi d), some (vi o)] [] V := by
  have w0 := hwa (8 * d) (by omega)
  intro n
  induction n with
  | zero =>
    intro o h0 h00 h1 hall
    refine S_il2 qX2_isAlone_2 ?_
    refine S_al0 qX2_isAlone_3 ?_
    refine S_getI qX2_isAlone_4 fX2_34 (F_0 hf) ?_
    refine S_icmp_ge (d := qX2_isAlone_7) (kt := fun c7 => ?_) (kf := fun c7 => ?_)
    rotate_left
    · omega
    refine S_iconst qX2_isAlone_38 ?_
    refine S_zret hz qX2_isAlone_39 (by omega) ?_
    exact hQ1 (fun i hi => hall i (by omega))
  | succ n ih =>
    intro o h0 h00 h1 hall
    have w1 := hwa (8 * o) (by omega)
    refine S_il2 qX2_isAlone_2 ?_
    refine S_al0 qX2_isAlone_3 ?_
    refine S_getI qX2_isAlone_4 fX2_34 (F_0 hf) ?_
    refine S_icmp_ge (d := qX2_isAlone_7) (kt := fun c7 => ?_) (kf := fun c7 => ?_)
    · omega
    refine S_il2 qX2_isAlone_10 ?_
    refine S_il1 qX2_isAlone_11 ?_
    refine S_icmp_eq (d := qX2_isAlone_12) (kt := fun c12 => ?_) (kf := fun c12 => ?_)
    · refine S_inc2 qX2_isAlone_32 (K := ?_)
      refine S_goto qX2_isAlone_35 ?_
      refine ih (o + 1) (by omega) (by omega) (by omega) (fun i hi => ?_)
      by_cases e : i = o
      · subst e
        first | (intro h6; omega) | (intro h6; exact c27) | (intro h6; exact absurd (by omega) h6)
      · exact hall i (by omega)
    · refine S_al0 qX2_isAlone_15 ?_
      refine S_il2 qX2_isAlone_16 ?_
      refine S_iconst qX2_isAlone_17 ?_
      refine S_V2E hD qX2_isAlone_18 lX2_68 vX2_wasOf (F_r hf) (c_was0 hf (by omega) (by omega)) (K := ?_)
      refine S_al0 qX2_isAlone_21 ?_
      refine S_il1 qX2_isAlone_22 ?_
      refine S_iconst qX2_isAlone_23 ?_
      refine S_V2E hD qX2_isAlone_24 lX2_68 vX2_wasOf (F_r hf) (c_was0 hf (by omega) (by omega)) (K := ?_)
      refine S_icmp_ne (d := qX2_isAlone_27) (kt := fun c27 => ?_) (kf := fun c27 => ?_)
      · refine S_inc2 qX2_isAlone_32 (K := ?_)
        refine S_goto qX2_isAlone_35 ?_
        refine ih (o + 1) (by omega) (by omega) (by omega) (fun i hi => ?_)
        by_cases e : i = o
        · subst e
          first | (intro h6; omega) | (intro h6; exact c27) | (intro h6; exact absurd (by omega) h6)
        · exact hall i (by omega)
      · refine S_iconst qX2_isAlone_30 ?_
        refine S_zret hz qX2_isAlone_31 (by omega) ?_
        refine hQ0 (fun h => ?_)
        have h5 := h o (by omega)
        exact absurd (by first | exact c27 | omega) (h5 (by omega))
theorem c_isAlone {g : GC} {f : Nat} {V : MM} {hs : HS} {s : FS} {d : Int} (hF : FlC V f hs s) (rd : 0 ≤ d ∧ d < V f 0) : Ct g mX2_isAlone 3 [vr f, vi d] V (RB V (aloB s d = true)) := by
  refine Ct.of (ls := [some (vr f), some (vi d), none]) (plainFor_of_name (by decide +kernel)) rfl (by exact Nat.le_of_ble_eq_true rfl) (fun X hz hD => ?_)
  obtain ⟨hf, rfl, hn, hb, hkv, hfo, hwa, hro, hH, hh0, rfl⟩ := hF.facts
  have hw := hH.2.1
  have hwa9 : ∀ i : Int, 0 ≤ i ∧ i < 48 → 0 ≤ V (f + 4) i ∧ V (f + 4) i < 99 := fun i hi => by have := hwa i hi; omega
  have hi : aloB (fsC V f) d = true ↔ ∀ i : Int, 0 ≤ i ∧ i < V f 0 → (i ≠ d → V (f + 4) (8 * i) ≠ V (f + 4) (8 * d)) := by unfold aloB; rw [allN_I hn.1]; simp only [decide_eq_true_eq]
  refine S_iconst qX2_isAlone_0 ?_
  refine S_is2 qX2_isAlone_1 (K := ?_)
  exact alo_loop hf hn hwa9 rd hz hD (fun h => ⟨rfl, Or.inl ⟨rfl, hi.mpr h⟩⟩) (fun h => ⟨rfl, Or.inr ⟨rfl, fun q => h (hi.mp q)⟩⟩) _ 0 (by omega) (by omega) rfl (fun i hi => by omega)

theorem sti_loop {g : GC} {X : CX} {Q : Option AV → MM → Prop} {f : Nat} {V : MM} {hs : HS} {s : FS} (hF : FlC V f hs s) (hw9 : 1 ≤ hs.1 ∧ hs.1 ≤ 99) (hf : isF f) (hn : 0 ≤ V f 0 ∧ V f 0 ≤ 6) (hwa : ∀ i : Int, 0 ≤ i ∧ i < 48 → 0 ≤ V (f + 4) i ∧ V (f + 4) i < 99) (hz : Fi g X (some .boolean) Q) (hD : Dp X 6) (hQ1 : (∀ i : Int, 0 ≤ i ∧ i < V f 0 → goesS hs s i = V (f + 4) (8 * i)) → Q (some (vi 1)) V) (hQ0 : ¬ (∀ i : Int, 0 ≤ i ∧ i < V f 0 → goesS hs s i = V (f + 4) (8 * i)) → Q (some (vi 0)) V) : ∀ (n : Nat) (d : Int), 0 ≤ d → d ≤ 1000 → (V f 0 - d).toNat = n → (∀ i : Int, 0 ≤ i ∧ i < d → goesS hs s i = V (f + 4) (8 * i)) → SW g X RX2 cX2_nobodyMoves 2 [some (vr f), some (vi d)] [] V := by

  intro n
  induction n with
  | zero =>
    intro d h0 h00 h1 hall
    refine S_il1 qX2_nobodyMoves_2 ?_
    refine S_al0 qX2_nobodyMoves_3 ?_
    refine S_getI qX2_nobodyMoves_4 fX2_34 (F_0 hf) ?_
    refine S_icmp_ge (d := qX2_nobodyMoves_7) (kt := fun c7 => ?_) (kf := fun c7 => ?_)
    rotate_left
    · omega
    refine S_iconst qX2_nobodyMoves_32 ?_
    refine S_zret hz qX2_nobodyMoves_33 (by omega) ?_
    exact hQ1 (fun i hi => hall i (by omega))
  | succ n ih =>
    intro d h0 h00 h1 hall
    have w1 := hwa (8 * d) (by omega)
    have w2 := goes_rg s d hw9.1
    refine S_il1 qX2_nobodyMoves_2 ?_
    refine S_al0 qX2_nobodyMoves_3 ?_
    refine S_getI qX2_nobodyMoves_4 fX2_34 (F_0 hf) ?_
    refine S_icmp_ge (d := qX2_nobodyMoves_7) (kt := fun c7 => ?_) (kf := fun c7 => ?_)
    · omega
    refine S_al0 qX2_nobodyMoves_10 ?_
    refine S_il1 qX2_nobodyMoves_11 ?_
    refine S_V1E hD qX2_nobodyMoves_12 lX2_77 vX2_goesOf (F_r hf) (c_goesOf hF (by omega)) (K := ?_)
    refine S_al0 qX2_nobodyMoves_15 ?_
    refine S_il1 qX2_nobodyMoves_16 ?_
    refine S_iconst qX2_nobodyMoves_17 ?_
    refine S_V2E hD qX2_nobodyMoves_18 lX2_68 vX2_wasOf (F_r hf) (c_was0 hf (by omega) (by omega)) (K := ?_)
    refine S_icmp_eq (d := qX2_nobodyMoves_21) (kt := fun c21 => ?_) (kf := fun c21 => ?_)
    · refine S_inc1 qX2_nobodyMoves_26 (K := ?_)
      refine S_goto qX2_nobodyMoves_29 ?_
      refine ih (d + 1) (by omega) (by omega) (by omega) (fun i hi => ?_)
      by_cases e : i = d
      · subst e
        omega
      · exact hall i (by omega)
    · refine S_iconst qX2_nobodyMoves_24 ?_
      refine S_zret hz qX2_nobodyMoves_25 (by omega) ?_
      refine hQ0 (fun h => ?_)
      have h5 := h d (by omega)
      omega
theorem c_nobodyMoves {g : GC} {f : Nat} {V : MM} {hs : HS} {s : FS} (hF : FlC V f hs s) : Ct g mX2_nobodyMoves 6 [vr f] V (RB V (stiB hs s = true)) := by
  refine Ct.of (ls := [some (vr f), none]) (plainFor_of_name (by decide +kernel)) rfl (by exact Nat.le_of_ble_eq_true rfl) (fun X hz hD => ?_)
  obtain ⟨hf, rfl, hn, hb, hkv, hfo, hwa, hro, hH, hh0, rfl⟩ := hF.facts
  have hw := hH.2.1
  have hwa9 : ∀ i : Int, 0 ≤ i ∧ i < 48 → 0 ≤ V (f + 4) i ∧ V (f + 4) i < 99 := fun i hi => by have := hwa i hi; omega
  have hi : stiB (V (V f 2).toNat 0, V (V f 2).toNat 1, stepC V (V f 2).toNat) (fsC V f) = true ↔ ∀ i : Int, 0 ≤ i ∧ i < V f 0 → goesS (V (V f 2).toNat 0, V (V f 2).toNat 1, stepC V (V f 2).toNat) (fsC V f) i = V (f + 4) (8 * i) := by unfold stiB; rw [allN_I hn.1]; simp only [decide_eq_true_eq]
  refine S_iconst qX2_nobodyMoves_0 ?_
  refine S_is1 qX2_nobodyMoves_1 (K := ?_)
  exact sti_loop hF hw hf hn hwa9 hz hD (fun h => ⟨rfl, Or.inl ⟨rfl, hi.mpr h⟩⟩) (fun h => ⟨rfl, Or.inr ⟨rfl, fun q => h (hi.mp q)⟩⟩) _ 0 (by omega) (by omega) rfl (fun i hi => by omega)

theorem sam_loop {g : GC} {X : CX} {Q : Option AV → MM → Prop} {f o : Nat} {V : MM} (hf : isF f) (ho : isF o) (hn : 0 ≤ V f 0 ∧ V f 0 ≤ 6) (hwa : ∀ i : Int, 0 ≤ i ∧ i < 48 → 0 ≤ V (f + 4) i ∧ V (f + 4) i < 99) (hwo : ∀ i : Int, 0 ≤ i ∧ i < 48 → 0 ≤ V (o + 4) i ∧ V (o + 4) i < 99) (hz : Fi g X (some .boolean) Q) (hD : Dp X 1) (hQ1 : (∀ i : Int, 0 ≤ i ∧ i < 8 * V f 0 → V (f + 4) i = V (o + 4) i) → Q (some (vi 1)) V) (hQ0 : ¬ (∀ i : Int, 0 ≤ i ∧ i < 8 * V f 0 → V (f + 4) i = V (o + 4) i) → Q (some (vi 0)) V) : ∀ (n : Nat) (d : Int), 0 ≤ d → d ≤ 1000 → (8 * V f 0 - d).toNat = n → (∀ i : Int, 0 ≤ i ∧ i < d → V (f + 4) i = V (o + 4) i) → SW g X RX2 cX2_standsAs 2 [some (vr f), some (vr o), some (vi d)] [] V := by

  intro n
  induction n with
  | zero =>
    intro d h0 h00 h1 hall
    refine S_il2 qX2_standsAs_2 ?_
    refine S_al0 qX2_standsAs_3 ?_
    refine S_getI qX2_standsAs_4 fX2_34 (F_0 hf) ?_
    refine S_bipush (d := qX2_standsAs_7) (k := ?_)
    refine S_imul qX2_standsAs_9 ?_
    refine S_icmp_ge (d := qX2_standsAs_10) (kt := fun c10 => ?_) (kf := fun c10 => ?_)
    rotate_left
    · omega
    refine S_iconst qX2_standsAs_36 ?_
    refine S_zret hz qX2_standsAs_37 (by omega) ?_
    exact hQ1 (fun i hi => hall i (by omega))
  | succ n ih =>
    intro d h0 h00 h1 hall
    have w1 := hwa d (by omega)
    have w2 := hwo d (by omega)
    refine S_il2 qX2_standsAs_2 ?_
    refine S_al0 qX2_standsAs_3 ?_
    refine S_getI qX2_standsAs_4 fX2_34 (F_0 hf) ?_
    refine S_bipush (d := qX2_standsAs_7) (k := ?_)
    refine S_imul qX2_standsAs_9 ?_
    refine S_icmp_ge (d := qX2_standsAs_10) (kt := fun c10 => ?_) (kf := fun c10 => ?_)
    · omega
    refine S_al0 qX2_standsAs_13 ?_
    refine S_getR qX2_standsAs_14 fX2_21 (F_6 hf) ?_
    refine S_il2 qX2_standsAs_17 ?_
    refine S_iald qX2_standsAs_18 (Fa_4 hf) (K := ?_)
    refine S_al1 qX2_standsAs_19 ?_
    refine S_getR qX2_standsAs_20 fX2_21 (F_6 ho) ?_
    refine S_il2 qX2_standsAs_23 ?_
    refine S_iald qX2_standsAs_24 (Fa_4 ho) (K := ?_)
    refine S_icmp_eq (d := qX2_standsAs_25) (kt := fun c25 => ?_) (kf := fun c25 => ?_)
    · refine S_inc2 qX2_standsAs_30 (K := ?_)
      refine S_goto qX2_standsAs_33 ?_
      refine ih (d + 1) (by omega) (by omega) (by omega) (fun i hi => ?_)
      by_cases e : i = d
      · subst e
        omega
      · exact hall i (by omega)
    · refine S_iconst qX2_standsAs_28 ?_
      refine S_zret hz qX2_standsAs_29 (by omega) ?_
      refine hQ0 (fun h => ?_)
      have h5 := h d (by omega)
      omega
theorem c_standsAs {g : GC} {f o : Nat} {V : MM} {hs hs2 : HS} {s s2 : FS} (hF : FlC V f hs s) (hO : FlC V o hs2 s2) : Ct g mX2_standsAs 1 [vr f, vr o] V (RB V (samB s s2 = true)) := by
  refine Ct.of (ls := [some (vr f), some (vr o), none]) (plainFor_of_name (by decide +kernel)) rfl (by exact Nat.le_of_ble_eq_true rfl) (fun X hz hD => ?_)
  obtain ⟨hf, rfl, hn, hb, hkv, hfo, hwa, hro, hH, hh0, rfl⟩ := hF.facts
  have hw := hH.2.1
  have hwa9 : ∀ i : Int, 0 ≤ i ∧ i < 48 → 0 ≤ V (f + 4) i ∧ V (f + 4) i < 99 := fun i hi => by have := hwa i hi; omega
  obtain ⟨ho, rfl, hn2, hb2, hkv2, hfo2, hwa2, hro2, hH2, hh02, rfl⟩ := hO.facts
  have hw2 := hH2.2.1
  have hwo9 : ∀ i : Int, 0 ≤ i ∧ i < 48 → 0 ≤ V (o + 4) i ∧ V (o + 4) i < 99 := fun i hi => by have := hwa2 i hi; omega
  have hi : samB (fsC V f) (fsC V o) = true ↔ ∀ i : Int, 0 ≤ i ∧ i < 8 * V f 0 → V (f + 4) i = V (o + 4) i := by unfold samB; rw [allN_I (by show 0 ≤ 8 * V f 0; omega)]; simp only [decide_eq_true_eq]
  refine S_iconst qX2_standsAs_0 ?_
  refine S_is2 qX2_standsAs_1 (K := ?_)
  exact sam_loop hf ho hn hwa9 hwo9 hz hD (fun h => ⟨rfl, Or.inl ⟨rfl, hi.mpr h⟩⟩) (fun h => ⟨rfl, Or.inr ⟨rfl, fun q => h (hi.mp q)⟩⟩) _ 0 (by omega) (by omega) rfl (fun i hi => by omega)

theorem c_apart {g : GC} {f : Nat} {V : MM} {hs : HS} {s : FS} {a b : Int} (hF : FlC V f hs s) (ra : 0 ≤ a ∧ a < V f 0) (rb : 0 ≤ b ∧ b < V f 0) : Ct g mX2_apart 3 [vr f, vi a, vi b] V (RE V (apaS hs s a b)) := by
  refine Ct.of (ls := [some (vr f), some (vi a), some (vi b), none]) (plainFor_of_name (by decide +kernel)) rfl (by exact Nat.le_of_ble_eq_true rfl) (fun X hz hD => ?_)
  obtain ⟨hf, rfl, hn, hb, hkv, hfo, hwa, hro, hH, hh0, rfl⟩ := hF.facts
  have hw := hH.2.1
  have hwa9 : ∀ i : Int, 0 ≤ i ∧ i < 48 → 0 ≤ V (f + 4) i ∧ V (f + 4) i < 99 := fun i hi => by have := hwa i hi; omega
  have hh := hH.1
  have w1 := hwa9 (8 * a) (by omega)
  have w2 := hwa9 (8 * b) (by omega)
  have a7 := Int.emod_nonneg (V (f + 4) (8 * a) - V (f + 4) (8 * b)) (show V (V f 2).toNat 0 ≠ 0 by omega)
  have a8 := Int.emod_lt_of_pos (V (f + 4) (8 * a) - V (f + 4) (8 * b)) (show 0 < V (V f 2).toNat 0 by omega)
  refine S_al0 qX2_apart_0 ?_
  refine S_il1 qX2_apart_1 ?_
  refine S_iconst qX2_apart_2 ?_
  refine S_V2E hD qX2_apart_3 lX2_68 vX2_wasOf (F_r hf) (c_was0 hf (by omega) (by omega)) (K := ?_)
  refine S_al0 qX2_apart_6 ?_
  refine S_il2 qX2_apart_7 ?_
  refine S_iconst qX2_apart_8 ?_
  refine S_V2E hD qX2_apart_9 lX2_68 vX2_wasOf (F_r hf) (c_was0 hf (by omega) (by omega)) (K := ?_)
  refine S_isub qX2_apart_12 ?_
  refine S_al0 qX2_apart_13 ?_
  refine S_getH qX2_apart_14 fX2_30 (F_2 hf) ?_
  refine S_getI qX2_apart_17 fX2_47 (H_0 hh) ?_
  refine S_S2E hD qX2_apart_20 lX2_60 sX6_modulo (c_modulo (by omega) (by omega)) (K := ?_)
  refine S_is3 qX2_apart_23 (K := ?_)
  refine S_il3 qX2_apart_24 ?_
  refine S_al0 qX2_apart_25 ?_
  refine S_getH qX2_apart_26 fX2_30 (F_2 hf) ?_
  refine S_getI qX2_apart_29 fX2_47 (H_0 hh) ?_
  refine S_il3 qX2_apart_32 ?_
  refine S_isub qX2_apart_33 ?_
  refine S_S2E hD qX2_apart_34 lX2_92 sJ9_min_7cf53 (c_min (by omega) (by omega)) (K := ?_)
  refine S_iret hz qX2_apart_37 ?_
  exact RE.mk rfl
end
section
/-- the floor at f has gone on from V0 to V1 -/
def TrC (V0 V1 : MM) (f : Nat) (hs : HS) (s : FS) : Prop := FlC V1 f hs s ∧ Sm V0 V1 f 7 ∧ V1 f 2 = V0 f 2
theorem TrC.rf {V : MM} {f : Nat} {hs : HS} {s : FS} (h : FlC V f hs s) : TrC V V f hs s := ⟨h, fun _ _ => rfl, rfl⟩
theorem TrC.go {V0 V1 V2 : MM} {f : Nat} {hs : HS} {s s2 : FS} (h : TrC V0 V1 f hs s) (h2 : FlC V2 f hs s2 ∧ Sm V1 V2 f 7 ∧ V2 f 2 = V1 f 2) : TrC V0 V2 f hs s2 := ⟨h2.1, fun k hk => (h2.2.1 k hk).trans (h.2.1 k hk), h2.2.2.trans h.2.2⟩
theorem FlC.w99 {V : MM} {f : Nat} {hs : HS} {s : FS} (h : FlC V f hs s) : (1 ≤ hs.1 ∧ hs.1 ≤ 99) ∧ (0 ≤ hs.2.1 ∧ hs.2.1 ≤ 99) := by
  have e := h.2.2.1.2
  have := h.2.2.1.1.2.1
  have := h.2.2.1.1.2.2.1
  rw [e]
  exact ⟨by assumption, by assumption⟩
theorem FlC.n6 {V : MM} {f : Nat} {hs : HS} {s : FS} (h : FlC V f hs s) : s.1 = V f 0 ∧ s.2.1 = V f 1 ∧ (0 ≤ V f 0 ∧ V f 0 ≤ 6) ∧ (0 ≤ V f 1 ∧ V f 1 ≤ 20000) := by
  obtain ⟨h1, rfl, h3, h4, h5, h6, h7⟩ := h
  exact ⟨rfl, rfl, h5, h6⟩
theorem goN_n (hs : HS) : ∀ (n : Nat) (s : FS), (goN hs n s).1 = s.1 ∧ (goN hs n s).2.1 = s.2.1 + n := by
  intro n
  induction n with
  | zero => intro s; exact ⟨rfl, by simp [goN]⟩
  | succ n ih =>
    intro s
    have := ih (goS hs false s)
    unfold goN
    refine ⟨this.1, ?_⟩
    rw [this.2]
    show s.2.1 + 1 + (n : Int) = _
    omega

theorem goBeats_loop {g : GC} {X : CX} {Q : Option AV → MM → Prop} {f : Nat} {V : MM} {hs : HS} {sf : FS} {m : Int} (hm : 0 ≤ m ∧ m ≤ 60) (hz : Fi g X none Q) (hD : Dp X 7) (hQ : ∀ V', TrC V V' f hs sf → Q none V') : ∀ (n : Nat) (i : Int) (V1 : MM) (s1 : FS), 0 ≤ i → i + n = m → TrC V V1 f hs s1 → goN hs n s1 = sf → s1.2.1 + n ≤ 20000 → SW g X RX2 cX2_goBeats 2 [some (vr f), some (vi m), some (vi i)] [] V1 := by
  intro n
  induction n with
  | zero =>
    intro i V1 s1 h0 h1 hT hg hb
    have hf := hT.1.1
    unfold goN at hg
    subst hg
    refine S_il2 qX2_goBeats_2 ?_
    refine S_il1 qX2_goBeats_3 ?_
    refine S_icmp_ge (d := qX2_goBeats_4) (kt := fun c4 => ?_) (kf := fun c4 => ?_)
    rotate_left
    · omega
    refine S_vret hz qX2_goBeats_18 ?_
    exact hQ V1 hT
  | succ n ih =>
    intro i V1 s1 h0 h1 hT hg hb
    have hf := hT.1.1
    have hn := hT.1.n6
    unfold goN at hg
    refine S_il2 qX2_goBeats_2 ?_
    refine S_il1 qX2_goBeats_3 ?_
    refine S_icmp_ge (d := qX2_goBeats_4) (kt := fun c4 => ?_) (kf := fun c4 => ?_)
    · omega
    refine S_al0 qX2_goBeats_7 ?_
    refine S_iconst qX2_goBeats_8 ?_
    refine S_V1V hD qX2_goBeats_9 lX2_81 vX2_goBeat (F_r hf) (c_goBeat false hT.1 (by omega)) (kk := fun V9 h9 => ?_)
    have hT2 := hT.go h9
    refine S_inc2 qX2_goBeats_12 (K := ?_)
    refine S_goto qX2_goBeats_15 ?_
    exact ih (i + 1) _ _ (by omega) (by omega) hT2 hg (by show s1.2.1 + 1 + (n : Int) ≤ 20000; omega)
theorem c_goBeats {g : GC} {f : Nat} {V : MM} {hs : HS} {s : FS} {m : Int} (hF : FlC V f hs s) (hm : 0 ≤ m ∧ m ≤ 60) (hb : s.2.1 + m ≤ 20000) : Ct g mX2_goBeats 7 [vr f, vi m] V (RV (fun V' => TrC V V' f hs (goN hs m.toNat s))) := by
  refine Ct.of (ls := [some (vr f), some (vi m), none]) (plainFor_of_name (by decide +kernel)) rfl (by exact Nat.le_of_ble_eq_true rfl) (fun X hz hD => ?_)
  have hf := hF.1
  refine S_iconst qX2_goBeats_0 ?_
  refine S_is2 qX2_goBeats_1 (K := ?_)
  exact goBeats_loop hm hz hD (fun V1 h => ⟨rfl, h⟩) m.toNat 0 V s (by omega) (by omega) (TrC.rf hF) rfl (by omega)

theorem till_loop {g : GC} {X : CX} {Q : Option AV → MM → Prop} {f : Nat} {V : MM} {hs : HS} {mo sb xf : Int} (hm : -1 ≤ mo ∧ mo ≤ 60) (hsb : -5 ≤ sb ∧ sb ≤ 60) (hz : Fi g X (some .int) Q) (hD : Dp X 7) (hQ : ∀ V', Sm V V' f 7 → Q (some (vi xf)) V') : ∀ (n : Nat) (k : Int) (V1 : MM) (s1 : FS), 0 ≤ k → k + n = mo + 1 → TrC V V1 f hs s1 → fstS hs togB sb n k s1 = xf → s1.2.1 + n ≤ 20000 → SW g X RX2 cX2_beatsTillTogether 2 [some (vr f), some (vi mo), some (vi sb), some (vi k)] [] V1 := by
  intro n
  induction n with
  | zero =>
    intro k V1 s1 h0 h1 hT hg hb
    have hf := hT.1.1
    unfold fstS at hg
    subst hg
    refine S_il3 qX2_beatsTillTogether_2 ?_
    refine S_il1 qX2_beatsTillTogether_3 ?_
    refine S_icmp_gt (d := qX2_beatsTillTogether_4) (kt := fun c4 => ?_) (kf := fun c4 => ?_)
    rotate_left
    · omega
    refine S_bipush (d := qX2_beatsTillTogether_36) (k := ?_)
    refine S_iret hz qX2_beatsTillTogether_38 ?_
    exact hQ V1 hT.2.1
  | succ n ih =>
    intro k V1 s1 h0 h1 hT hg hb
    have hf := hT.1.1
    have hn := hT.1.n6
    unfold fstS at hg
    refine S_il3 qX2_beatsTillTogether_2 ?_
    refine S_il1 qX2_beatsTillTogether_3 ?_
    refine S_icmp_gt (d := qX2_beatsTillTogether_4) (kt := fun c4 => ?_) (kf := fun c4 => ?_)
    · omega
    refine S_al0 qX2_beatsTillTogether_7 ?_
    refine S_V0B hD qX2_beatsTillTogether_8 lX2_85 vX2_areTogether (F_r hf) (c_areTogether hT.1) (kt := fun j8 => ?_) (kf := fun j8 => ?_)
    · refine S_if_eq (d := qX2_beatsTillTogether_11) (kt := fun c => absurd c (by decide)) (kf := fun _ => ?_)
      refine S_il3 qX2_beatsTillTogether_14 ?_
      refine S_iret hz qX2_beatsTillTogether_15 ?_
      rw [if_pos j8] at hg
      subst hg
      exact hQ V1 hT.2.1
    · refine S_if_eq (d := qX2_beatsTillTogether_11) (kt := fun _ => ?_) (kf := fun c => absurd c (by decide))
      refine S_al0 qX2_beatsTillTogether_16 ?_
      refine S_il3 qX2_beatsTillTogether_17 ?_
      refine S_il2 qX2_beatsTillTogether_18 ?_
      refine S_icmp_ne (d := qX2_beatsTillTogether_19) (kt := fun c19 => ?_) (kf := fun c19 => ?_)
      · refine S_iconst qX2_beatsTillTogether_26 ?_
        refine S_V1V hD qX2_beatsTillTogether_27 lX2_81 vX2_goBeat (F_r hf) (c_goBeat false hT.1 (by omega)) (kk := fun V27 h27 => ?_)
        have hT2 := hT.go h27
        refine S_inc3 qX2_beatsTillTogether_30 (K := ?_)
        refine S_goto qX2_beatsTillTogether_33 ?_
        rw [if_neg j8] at hg
        first | rw [decide_eq_true c19] at hg | rw [decide_eq_false c19] at hg
        exact ih (k + 1) _ _ (by omega) (by omega) hT2 hg (by show s1.2.1 + 1 + (n : Int) ≤ 20000; omega)
      · refine S_iconst qX2_beatsTillTogether_22 ?_
        refine S_goto qX2_beatsTillTogether_23 ?_
        refine S_V1V hD qX2_beatsTillTogether_27 lX2_81 vX2_goBeat (F_r hf) (c_goBeat true hT.1 (by omega)) (kk := fun V27 h27 => ?_)
        have hT2 := hT.go h27
        refine S_inc3 qX2_beatsTillTogether_30 (K := ?_)
        refine S_goto qX2_beatsTillTogether_33 ?_
        rw [if_neg j8] at hg
        first | rw [decide_eq_true c19] at hg | rw [decide_eq_false c19] at hg
        exact ih (k + 1) _ _ (by omega) (by omega) hT2 hg (by show s1.2.1 + 1 + (n : Int) ≤ 20000; omega)
theorem c_till {g : GC} {f : Nat} {V : MM} {hs : HS} {s : FS} {mo sb : Int} (hF : FlC V f hs s) (hm : -1 ≤ mo ∧ mo ≤ 60) (hsb : -5 ≤ sb ∧ sb ≤ 60) (hb : s.2.1 + mo + 1 ≤ 20000) : Ct g mX2_beatsTillTogether 7 [vr f, vi mo, vi sb] V (RI (fun z V' => z = fstS hs togB sb (mo + 1).toNat 0 s ∧ Sm V V' f 7)) := by
  refine Ct.of (ls := [some (vr f), some (vi mo), some (vi sb), none]) (plainFor_of_name (by decide +kernel)) rfl (by exact Nat.le_of_ble_eq_true rfl) (fun X hz hD => ?_)
  have hf := hF.1
  refine S_iconst qX2_beatsTillTogether_0 ?_
  refine S_is3 qX2_beatsTillTogether_1 (K := ?_)
  exact till_loop hm hsb hz hD (fun V1 h => ⟨_, rfl, rfl, h⟩) (mo + 1).toNat 0 V s (by omega) (by omega) (TrC.rf hF) rfl (by omega)

theorem alone_loop {g : GC} {X : CX} {Q : Option AV → MM → Prop} {f : Nat} {V : MM} {hs : HS} {d m xf : Int} (hd : 0 ≤ d) (hm : 0 ≤ m ∧ m ≤ 60) (hz : Fi g X (some .int) Q) (hD : Dp X 7) (hQ : ∀ V', Sm V V' f 7 → Q (some (vi xf)) V') : ∀ (n : Nat) (i c : Int) (V1 : MM) (s1 : FS), 0 ≤ i → i + n = m → d < s1.1 → TrC V V1 f hs s1 → alnS hs d n s1 c = xf → s1.2.1 + n ≤ 20000 → SW g X RX2 cX2_beatsAlone 5 [some (vr f), some (vi d), some (vi m), some (vi c), some (vi i)] [] V1 := by
  intro n
  induction n with
  | zero =>
    intro i c V1 s1 h0 h1 hds hT hg hb
    have hf := hT.1.1
    unfold alnS at hg
    subst hg
    refine S_il4 qX2_beatsAlone_5 ?_
    refine S_il2 qX2_beatsAlone_7 ?_
    refine S_icmp_ge (d := qX2_beatsAlone_8) (kt := fun c8 => ?_) (kf := fun c8 => ?_)
    rotate_left
    · omega
    refine S_il3 qX2_beatsAlone_33 ?_
    refine S_iret hz qX2_beatsAlone_34 ?_
    exact hQ V1 hT.2.1
  | succ n ih =>
    intro i c V1 s1 h0 h1 hds hT hg hb
    have hf := hT.1.1
    have hn := hT.1.n6
    unfold alnS at hg
    refine S_il4 qX2_beatsAlone_5 ?_
    refine S_il2 qX2_beatsAlone_7 ?_
    refine S_icmp_ge (d := qX2_beatsAlone_8) (kt := fun c8 => ?_) (kf := fun c8 => ?_)
    · omega
    refine S_al0 qX2_beatsAlone_11 ?_
    refine S_iconst qX2_beatsAlone_12 ?_
    refine S_V1V hD qX2_beatsAlone_13 lX2_81 vX2_goBeat (F_r hf) (c_goBeat false hT.1 (by omega)) (kk := fun V13 h13 => ?_)
    have hT2 := hT.go h13
    have hn2 := hT2.1.n6
    have hd2 : d < (goS hs false s1).1 := hds
    refine S_al0 qX2_beatsAlone_16 ?_
    refine S_il1 qX2_beatsAlone_17 ?_
    refine S_V1B hD qX2_beatsAlone_18 lX2_89 vX2_isAlone (F_r hf) (c_isAlone hT2.1 (by omega)) (kt := fun j18 => ?_) (kf := fun j18 => ?_)
    · refine S_if_eq (d := qX2_beatsAlone_21) (kt := fun c => absurd c (by decide)) (kf := fun _ => ?_)
      refine S_inc3 qX2_beatsAlone_24 (K := ?_)
      refine S_inc4 qX2_beatsAlone_27 (K := ?_)
      refine S_goto qX2_beatsAlone_30 ?_
      first | rw [if_pos j18] at hg | rw [if_neg j18] at hg
      exact ih (i + 1) _ _ _ (by omega) (by omega) hd2 hT2 hg (by show s1.2.1 + 1 + (n : Int) ≤ 20000; omega)
    · refine S_if_eq (d := qX2_beatsAlone_21) (kt := fun _ => ?_) (kf := fun c => absurd c (by decide))
      refine S_inc4 qX2_beatsAlone_27 (K := ?_)
      refine S_goto qX2_beatsAlone_30 ?_
      first | rw [if_pos j18] at hg | rw [if_neg j18] at hg
      exact ih (i + 1) _ _ _ (by omega) (by omega) hd2 hT2 hg (by show s1.2.1 + 1 + (n : Int) ≤ 20000; omega)
theorem c_beatsAlone {g : GC} {f : Nat} {V : MM} {hs : HS} {s : FS} {d m : Int} (hF : FlC V f hs s) (hd : 0 ≤ d ∧ d < V f 0) (hm : 0 ≤ m ∧ m ≤ 60) (hb : s.2.1 + m ≤ 20000) : Ct g mX2_beatsAlone 7 [vr f, vi d, vi m] V (RI (fun z V' => z = alnS hs d m.toNat s 0 ∧ Sm V V' f 7)) := by
  refine Ct.of (ls := [some (vr f), some (vi d), some (vi m), none, none]) (plainFor_of_name (by decide +kernel)) rfl (by exact Nat.le_of_ble_eq_true rfl) (fun X hz hD => ?_)
  have hf := hF.1
  have hn := hF.n6
  refine S_iconst qX2_beatsAlone_0 ?_
  refine S_is3 qX2_beatsAlone_1 (K := ?_)
  refine S_iconst qX2_beatsAlone_2 ?_
  refine S_is4 qX2_beatsAlone_3 (K := ?_)
  exact alone_loop hd.1 hm hz hD (fun V1 h => ⟨_, rfl, rfl, h⟩) m.toNat 0 0 V s (by omega) (by omega) (by omega) (TrC.rf hF) rfl (by omega)
end
section
def firB (wa : Int → Int) (d : Int) : Bool := allN (fun o => decide (wa (8 * o) ≠ wa (8 * d))) d.toNat
def manS (wa : Int → Int) : Nat → Int → Int → Int
  | 0, _, c => c
  | n + 1, d, c => manS wa n (d + 1) (if firB wa d then c + 1 else c)
def manF (s : FS) : Int := manS s.2.2.2.2.2.1 s.1.toNat 0 0
def cntS (wa : Int → Int) : Nat → Int → (Int → Int) → Int → Int
  | 0, _, r => r
  | n + 1, d, r => cntS wa n (d + 1) (ur r (wa (8 * d)) (r (wa (8 * d)) + 1))
theorem allN_s {p : Int → Bool} {o : Int} (h : 0 ≤ o) : allN p (o + 1).toNat = (allN p o.toNat && p o) := by
  rw [show (o + 1).toNat = o.toNat + 1 by omega]
  show (allN p o.toNat && p (o.toNat : Int)) = _
  rw [Int.toNat_of_nonneg h]
theorem b2i_c (b : Bool) : b2i b = 0 ∨ b2i b = 1 := by cases b <;> simp [b2i]

theorem taken_in {g : GC} {X : CX} {f : Nat} {V : MM} {c d : Int} (hf : isF f) (hn : 0 ≤ V f 0 ∧ V f 0 ≤ 6) (hwa : ∀ i : Int, 0 ≤ i ∧ i < 48 → 0 ≤ V (f + 4) i ∧ V (f + 4) i < 99) (rd : 0 ≤ d ∧ d < V f 0) (hD : Dp X 3) (hk : SW g X RX2 cX2_placesTaken 47 [some (vr f), some (vi c), some (vi d), some (vi (b2i (firB (V (f + 4)) d))), none] [] V) : ∀ (n : Nat) (o : Int), 0 ≤ o → o + n = d → SW g X RX2 cX2_placesTaken 17 [some (vr f), some (vi c), some (vi d), some (vi (b2i (allN (fun o => decide (V (f + 4) (8 * o) ≠ V (f + 4) (8 * d))) o.toNat))), some (vi o)] [] V := by
  have w0 := hwa (8 * d) (by omega)
  intro n
  induction n with
  | zero =>
    intro o h0 h1
    have e : o = d := by omega
    subst e
    refine S_il4 qX2_placesTaken_17 ?_
    refine S_il2 qX2_placesTaken_19 ?_
    refine S_icmp_ge (d := qX2_placesTaken_20) (kt := fun c20 => ?_) (kf := fun c20 => ?_)
    rotate_left
    · omega
    exact SW.forget 4 hk
  | succ n ih =>
    intro o h0 h1
    have w1 := hwa (8 * o) (by omega)
    have ih2 := ih (o + 1) (by omega) (by omega)
    rw [allN_s h0] at ih2
    refine S_il4 qX2_placesTaken_17 ?_
    refine S_il2 qX2_placesTaken_19 ?_
    refine S_icmp_ge (d := qX2_placesTaken_20) (kt := fun c20 => ?_) (kf := fun c20 => ?_)
    · omega
    refine S_al0 qX2_placesTaken_23 ?_
    refine S_il4 qX2_placesTaken_24 ?_
    refine S_iconst qX2_placesTaken_26 ?_
    refine S_V2E hD qX2_placesTaken_27 lX2_68 vX2_wasOf (F_r hf) (c_was0 hf (by omega) (by omega)) (K := ?_)
    refine S_al0 qX2_placesTaken_30 ?_
    refine S_il2 qX2_placesTaken_31 ?_
    refine S_iconst qX2_placesTaken_32 ?_
    refine S_V2E hD qX2_placesTaken_33 lX2_68 vX2_wasOf (F_r hf) (c_was0 hf (by omega) (by omega)) (K := ?_)
    refine S_icmp_ne (d := qX2_placesTaken_36) (kt := fun c36 => ?_) (kf := fun c36 => ?_)
    · refine S_inc4 qX2_placesTaken_41 (K := ?_)
      refine S_goto qX2_placesTaken_44 ?_
      first
        | (rw [decide_eq_true (p := V (f + 4) (8 * o) ≠ V (f + 4) (8 * d)) (by omega), Bool.and_true] at ih2; exact ih2)
        | (rw [decide_eq_false (p := V (f + 4) (8 * o) ≠ V (f + 4) (8 * d)) (by omega), Bool.and_false] at ih2; exact ih2)
    · refine S_iconst qX2_placesTaken_39 ?_
      refine S_is3 qX2_placesTaken_40 (K := ?_)
      refine S_inc4 qX2_placesTaken_41 (K := ?_)
      refine S_goto qX2_placesTaken_44 ?_
      first
        | (rw [decide_eq_true (p := V (f + 4) (8 * o) ≠ V (f + 4) (8 * d)) (by omega), Bool.and_true] at ih2; exact ih2)
        | (rw [decide_eq_false (p := V (f + 4) (8 * o) ≠ V (f + 4) (8 * d)) (by omega), Bool.and_false] at ih2; exact ih2)
theorem taken_out {g : GC} {X : CX} {Q : Option AV → MM → Prop} {f : Nat} {V : MM} {xf : Int} (hf : isF f) (hn : 0 ≤ V f 0 ∧ V f 0 ≤ 6) (hwa : ∀ i : Int, 0 ≤ i ∧ i < 48 → 0 ≤ V (f + 4) i ∧ V (f + 4) i < 99) (hz : Fi g X (some .int) Q) (hD : Dp X 3) (hQ : Q (some (vi xf)) V) : ∀ (n : Nat) (d c : Int), 0 ≤ d → d + n = V f 0 → manS (V (f + 4)) n d c = xf → SW g X RX2 cX2_placesTaken 4 [some (vr f), some (vi c), some (vi d), none, none] [] V := by
  intro n
  induction n with
  | zero =>
    intro d c h0 h1 hx
    unfold manS at hx
    subst hx
    refine S_il2 qX2_placesTaken_4 ?_
    refine S_al0 qX2_placesTaken_5 ?_
    refine S_getI qX2_placesTaken_6 fX2_34 (F_0 hf) ?_
    refine S_icmp_ge (d := qX2_placesTaken_9) (kt := fun c9 => ?_) (kf := fun c9 => ?_)
    rotate_left
    · omega
    refine S_il1 qX2_placesTaken_60 ?_
    refine S_iret hz qX2_placesTaken_61 ?_
    exact hQ
  | succ n ih =>
    intro d c h0 h1 hx
    unfold manS at hx
    have hb := b2i_c (firB (V (f + 4)) d)
    refine S_il2 qX2_placesTaken_4 ?_
    refine S_al0 qX2_placesTaken_5 ?_
    refine S_getI qX2_placesTaken_6 fX2_34 (F_0 hf) ?_
    refine S_icmp_ge (d := qX2_placesTaken_9) (kt := fun c9 => ?_) (kf := fun c9 => ?_)
    · omega
    refine S_iconst qX2_placesTaken_12 ?_
    refine S_is3 qX2_placesTaken_13 (K := ?_)
    refine S_iconst qX2_placesTaken_14 ?_
    refine S_is4 qX2_placesTaken_15 (K := ?_)
    refine taken_in hf hn hwa (by omega) hD ?_ d.toNat 0 (by omega) (by omega)
    refine S_il3 qX2_placesTaken_47 ?_
    refine S_if_eq (d := qX2_placesTaken_48) (kt := fun c48 => ?_) (kf := fun c48 => ?_)
    · refine S_inc2 qX2_placesTaken_54 (K := ?_)
      refine S_goto qX2_placesTaken_57 ?_
      refine SW.forget 3 (ih (d + 1) _ (by omega) (by omega) ?_)
      rw [← hx]
      congr 1
      cases hq : firB (V (f + 4)) d <;> rw [hq] at c48 <;> first | rfl | (exact absurd c48 (by decide)) | (exact absurd rfl c48)
    · refine S_inc1 qX2_placesTaken_51 (K := ?_)
      refine S_inc2 qX2_placesTaken_54 (K := ?_)
      refine S_goto qX2_placesTaken_57 ?_
      refine SW.forget 3 (ih (d + 1) _ (by omega) (by omega) ?_)
      rw [← hx]
      congr 1
      cases hq : firB (V (f + 4)) d <;> rw [hq] at c48 <;> first | rfl | (exact absurd c48 (by decide)) | (exact absurd rfl c48)
theorem c_placesTaken {g : GC} {f : Nat} {V : MM} {hs : HS} {s : FS} (hF : FlC V f hs s) : Ct g mX2_placesTaken 3 [vr f] V (RE V (manF s)) := by
  refine Ct.of (ls := [some (vr f), none, none, none, none]) (plainFor_of_name (by decide +kernel)) rfl (by exact Nat.le_of_ble_eq_true rfl) (fun X hz hD => ?_)
  obtain ⟨hf, rfl, hn, hb, hkv, hfo, hwa, hro, hH, hh0, rfl⟩ := hF.facts
  have hw := hH.2.1
  have hwa9 : ∀ i : Int, 0 ≤ i ∧ i < 48 → 0 ≤ V (f + 4) i ∧ V (f + 4) i < 99 := fun i hi => by have := hwa i hi; omega
  refine S_iconst qX2_placesTaken_0 ?_
  refine S_is1 qX2_placesTaken_1 (K := ?_)
  refine S_iconst qX2_placesTaken_2 ?_
  refine S_is2 qX2_placesTaken_3 (K := ?_)
  exact taken_out hf hn hwa9 hz hD ⟨rfl, rfl⟩ (V f 0).toNat 0 0 (by omega) (by omega) rfl

theorem count_loop {g : GC} {X : CX} {Q : Option AV → MM → Prop} {f : Nat} {V : MM} {rf : Int → Int} (hf : isF f) (hn : 0 ≤ V f 0 ∧ V f 0 ≤ 6) (hwa : ∀ i : Int, 0 ≤ i ∧ i < 48 → 0 ≤ V (f + 4) i ∧ V (f + 4) i < 99) (hz : Fi g X none Q) (hD : Dp X 3) (hQ : Q none (upR V 3 rf)) : ∀ (n : Nat) (d : Int) (r : Int → Int) (V1 : MM), 0 ≤ d → d + n = V f 0 → cntS (V (f + 4)) n d r = rf → V1 = upR V 3 r → SW g X RX2 cX2_countStanding 2 [some (vr f), some (vr 3), some (vi d), none] [] V1 := by
  have hfb := isF_b hf
  intro n
  induction n with
  | zero =>
    intro d r V1 h0 h1 hx hV
    have e0 : V1 f = V f := by rw [hV, upR_n _ (by omega)]
    have e1 := congrFun e0 0
    unfold cntS at hx
    subst hx
    refine S_il2 qX2_countStanding_2 ?_
    refine S_al0 qX2_countStanding_3 ?_
    refine S_getI qX2_countStanding_4 fX2_34 (F_0 hf) ?_
    refine S_icmp_ge (d := qX2_countStanding_7) (kt := fun c7 => ?_) (kf := fun c7 => ?_)
    rotate_left
    · omega
    refine S_vret hz qX2_countStanding_40 ?_
    rw [hV]
    exact hQ
  | succ n ih =>
    intro d r V1 h0 h1 hx hV
    have e0 : V1 f = V f := by rw [hV, upR_n _ (by omega)]
    have e1 := congrFun e0 0
    have e4 : V1 (f + 4) = V (f + 4) := by rw [hV, upR_n _ (by omega)]
    have e5 := congrFun e4 (8 * d)
    have e3 : V1 3 = r := by rw [hV, upR_s]
    have w1 := hwa (8 * d) (by omega)
    unfold cntS at hx
    refine S_il2 qX2_countStanding_2 ?_
    refine S_al0 qX2_countStanding_3 ?_
    refine S_getI qX2_countStanding_4 fX2_34 (F_0 hf) ?_
    refine S_icmp_ge (d := qX2_countStanding_7) (kt := fun c7 => ?_) (kf := fun c7 => ?_)
    · omega
    refine S_al0 qX2_countStanding_10 ?_
    refine S_il2 qX2_countStanding_11 ?_
    refine S_iconst qX2_countStanding_12 ?_
    refine S_V2E hD qX2_countStanding_13 lX2_68 vX2_wasOf (F_r hf) (c_was0 hf (by omega) (by omega)) (K := ?_)
    refine S_is3 qX2_countStanding_16 (K := ?_)
    refine S_il3 qX2_countStanding_17 ?_
    refine S_if_lt (d := qX2_countStanding_18) (kt := fun c18 => ?_) (kf := fun c18 => ?_)
    · omega
    refine S_il3 qX2_countStanding_21 ?_
    refine S_al1 qX2_countStanding_22 ?_
    refine S_alen qX2_countStanding_23 a3 ?_
    refine S_icmp_ge (d := qX2_countStanding_24) (kt := fun c24 => ?_) (kf := fun c24 => ?_)
    · (exfalso; simp only at c24; omega)
    refine S_al1 qX2_countStanding_27 ?_
    refine S_il3 qX2_countStanding_28 ?_
    refine S_dup2 (d := qX2_countStanding_29) (k := ?_)
    refine S_iald qX2_countStanding_30 a3 (K := ?_)
    refine S_iconst qX2_countStanding_31 ?_
    refine S_iadd qX2_countStanding_32 ?_
    refine S_iast qX2_countStanding_33 a3 (K := ?_)
    refine S_inc2 qX2_countStanding_34 (K := ?_)
    refine S_goto qX2_countStanding_37 ?_
    refine SW.forget 3 (ih (d + 1) _ _ (by omega) (by omega) hx ?_)
    rw [e3, e5, hV, upR_u]
theorem c_countStanding {g : GC} {f : Nat} {V : MM} {hs : HS} {s : FS} (hF : FlC V f hs s) : Ct g mX2_countStanding 3 [vr f, vr 3] V (RW (upR V 3 (cntS s.2.2.2.2.2.1 s.1.toNat 0 (V 3)))) := by
  refine Ct.of (ls := [some (vr f), some (vr 3), none, none]) (plainFor_of_name (by decide +kernel)) rfl (by exact Nat.le_of_ble_eq_true rfl) (fun X hz hD => ?_)
  obtain ⟨hf, rfl, hn, hb, hkv, hfo, hwa, hro, hH, hh0, rfl⟩ := hF.facts
  have hw := hH.2.1
  have hwa9 : ∀ i : Int, 0 ≤ i ∧ i < 48 → 0 ≤ V (f + 4) i ∧ V (f + 4) i < 99 := fun i hi => by have := hwa i hi; omega
  refine S_iconst qX2_countStanding_0 ?_
  refine S_is2 qX2_countStanding_1 (K := ?_)
  exact count_loop hf hn hwa9 hz hD ⟨rfl, rfl⟩ (V f 0).toNat 0 (V 3) V (by omega) (by omega) rfl (upR_id V 3).symm
end
section
/-- n places of a row from a on become z -/
def lz (r : Int → Int) (a z n : Int) : Int → Int := fun i => if a ≤ i ∧ i < a + n then z else r i
theorem lz_0 (r : Int → Int) (a z : Int) : lz r a z 0 = r := by
  funext i
  unfold lz
  rw [if_neg (by omega)]
theorem lz_1 (r : Int → Int) {a z n j : Int} (h : 0 ≤ n) (hj : j = a + n) : ur (lz r a z n) j z = lz r a z (n + 1) := by
  funext i
  subst hj
  unfold ur lz
  by_cases h1 : i = a + n
  · rw [if_pos h1, if_pos (by omega)]
  · rw [if_neg h1]
    by_cases h2 : a ≤ i ∧ i < a + n
    · rw [if_pos h2, if_pos (by omega)]
    · rw [if_neg h2, if_neg (by omega)]
def wrS (w : Int) (r : Int → Int) (n : Int) : Int → Int := fun i => if 0 ≤ i ∧ i < n then r i % w else r i
theorem wrS_0 (w : Int) (r : Int → Int) : wrS w r 0 = r := by
  funext i
  unfold wrS
  rw [if_neg (by omega)]
theorem wrS_1 (w : Int) (r : Int → Int) {n : Int} (h : 0 ≤ n) : ur (wrS w r n) n (r n % w) = wrS w r (n + 1) := by
  funext i
  unfold ur wrS
  by_cases h1 : i = n
  · subst h1; rw [if_pos rfl, if_pos (by omega)]
  · rw [if_neg h1]
    by_cases h2 : 0 ≤ i ∧ i < n
    · rw [if_pos h2, if_pos (by omega)]
    · rw [if_neg h2, if_neg (by omega)]
def joiS (s : FS) (k v p : Int) : FS := (s.1 + 1, s.2.1, ur s.2.2.1 s.1 k, ur s.2.2.2.1 s.1 v, ur s.2.2.2.2.1 s.1 s.1, layS s.2.2.2.2.2.1 s.1 p 8, lz s.2.2.2.2.2.2 (4 * s.1) 0 4)
theorem joi_inv {w : Int} {s : FS} {k v p : Int} (hI : FInv w s) (hn : s.1 < 6) (hk : 0 ≤ k ∧ k ≤ 6) (hv : 0 ≤ v ∧ v ≤ 9) (hp : 0 ≤ p ∧ p < w) : FInv w (joiS s k v p) := by
  obtain ⟨h1, h2, h3, h4, h5, h6⟩ := hI
  refine ⟨?_, h2, fun d hd => ?_, fun d hd => ?_, fun i hi => ?_, fun i hi => ?_⟩
  · show 0 ≤ s.1 + 1 ∧ s.1 + 1 ≤ 6; omega
  · have := h3 d hd
    show (0 ≤ ur s.2.2.1 s.1 k d ∧ ur s.2.2.1 s.1 k d ≤ 6) ∧ (0 ≤ ur s.2.2.2.1 s.1 v d ∧ ur s.2.2.2.1 s.1 v d ≤ 9)
    unfold ur
    split <;> omega
  · replace hd : 0 ≤ d ∧ d < s.1 + 1 := hd
    show 0 ≤ ur s.2.2.2.2.1 s.1 s.1 d ∧ ur s.2.2.2.2.1 s.1 s.1 d < s.1 + 1
    unfold ur
    split
    · omega
    · have := h4 d (by omega); omega
  · have := h5 i hi
    show 0 ≤ layS s.2.2.2.2.2.1 s.1 p 8 i ∧ layS s.2.2.2.2.2.1 s.1 p 8 i < w
    unfold layS
    split <;> omega
  · have := h6 i hi
    show 0 ≤ lz s.2.2.2.2.2.2 (4 * s.1) 0 4 i ∧ lz s.2.2.2.2.2.2 (4 * s.1) 0 4 i ≤ 9
    unfold lz
    split <;> omega

theorem join_loop {g : GC} {X : CX} {f : Nat} {V1 : MM} {k v p n0 : Int} (hf : isF f) (rn : 0 ≤ n0 ∧ n0 < 6) (hD : Dp X 3) (hk : ∀ V2, V2 = upR V1 (f + 5) (lz (V1 (f + 5)) (4 * n0) 0 4) → SW g X RX2 cX2_join 88 [some (vr f), some (vi k), some (vi v), some (vi p), some (vi n0), none] [] V2) : ∀ (n : Nat) (b : Int) (V2 : MM), 0 ≤ b → b + n = 4 → V2 = upR V1 (f + 5) (lz (V1 (f + 5)) (4 * n0) 0 b) → SW g X RX2 cX2_join 63 [some (vr f), some (vi k), some (vi v), some (vi p), some (vi n0), some (vi b)] [] V2 := by
  intro n
  induction n with
  | zero =>
    intro b V2 h0 h1 hV
    have e : b = 4 := by omega
    subst e
    refine S_il5 qX2_join_63 ?_
    refine S_iconst qX2_join_65 ?_
    refine S_icmp_ge (d := qX2_join_66) (kt := fun c66 => ?_) (kf := fun c66 => ?_)
    rotate_left
    · omega
    exact SW.forget 5 (hk V2 hV)
  | succ n ih =>
    intro b V2 h0 h1 hV
    have e5 : V2 (f + 5) = lz (V1 (f + 5)) (4 * n0) 0 b := by rw [hV, upR_s]
    refine S_il5 qX2_join_63 ?_
    refine S_iconst qX2_join_65 ?_
    refine S_icmp_ge (d := qX2_join_66) (kt := fun c66 => ?_) (kf := fun c66 => ?_)
    · omega
    refine S_al0 qX2_join_69 ?_
    refine S_getR qX2_join_70 fX2_24 (F_7 hf) ?_
    refine S_il4 qX2_join_73 ?_
    refine S_iconst qX2_join_75 ?_
    refine S_imul qX2_join_76 ?_
    refine S_il5 qX2_join_77 ?_
    refine S_iadd qX2_join_79 ?_
    refine S_iconst qX2_join_80 ?_
    refine S_iast qX2_join_81 (Fa_5 hf) (K := ?_)
    refine S_inc5 qX2_join_82 (K := ?_)
    refine S_goto qX2_join_85 ?_
    refine ih (b + 1) _ (by omega) (by omega) ?_
    rw [e5, lz_1 _ h0 (by omega), hV, upR_u]
theorem c_joinM {g : GC} {f : Nat} {V : MM} {k v p : Int} (hf : isF f) (hn : 0 ≤ V f 0 ∧ V f 0 < 6) (rp : 0 ≤ p ∧ p < 99) : Ct g mX2_join 3 [vr f, vi k, vi v, vi p] V (fun r V' => r = some (vi (V f 0)) ∧ V' = upR (upR (upR (upR (upR (upR V f (ur (V f) 0 (V f 0 + 1))) (f + 1) (ur (V (f + 1)) (V f 0) k)) (f + 2) (ur (V (f + 2)) (V f 0) v)) (f + 3) (ur (V (f + 3)) (V f 0) (V f 0))) (f + 5) (lz (V (f + 5)) (4 * V f 0) 0 4)) (f + 4) (layS (V (f + 4)) (V f 0) p 8)) := by
  refine Ct.of (ls := [some (vr f), some (vi k), some (vi v), some (vi p), none, none]) (plainFor_of_name (by decide +kernel)) rfl (by exact Nat.le_of_ble_eq_true rfl) (fun X hz hD => ?_)
  refine S_al0 qX2_join_0 ?_
  refine S_getI qX2_join_1 fX2_34 (F_0 hf) ?_
  refine S_if_lt (d := qX2_join_4) (kt := fun c4 => ?_) (kf := fun c4 => ?_)
  · omega
  refine S_al0 qX2_join_7 ?_
  refine S_getI qX2_join_8 fX2_34 (F_0 hf) ?_
  refine S_bipush (d := qX2_join_11) (k := ?_)
  refine S_icmp_lt (d := qX2_join_13) (kt := fun c13 => ?_) (kf := fun c13 => ?_)
  rotate_left
  · omega
  refine S_al0 qX2_join_19 ?_
  refine S_getI qX2_join_20 fX2_34 (F_0 hf) ?_
  refine S_is4 qX2_join_23 (K := ?_)
  refine S_al0 qX2_join_25 ?_
  refine S_dup (d := qX2_join_26) (k := ?_)
  refine S_getI qX2_join_27 fX2_34 (F_0 hf) ?_
  refine S_iconst qX2_join_30 ?_
  refine S_iadd qX2_join_31 ?_
  refine S_putI qX2_join_32 fX2_34 (F_0 hf) tX2_0 ?_
  refine S_al0 qX2_join_35 ?_
  refine S_getR qX2_join_36 fX2_9 (F_3 hf) ?_
  refine S_il4 qX2_join_39 ?_
  refine S_il1 qX2_join_41 ?_
  refine S_iast qX2_join_42 (Fa_1 hf) (K := ?_)
  refine S_al0 qX2_join_43 ?_
  refine S_getR qX2_join_44 fX2_15 (F_4 hf) ?_
  refine S_il4 qX2_join_47 ?_
  refine S_il2 qX2_join_49 ?_
  refine S_iast qX2_join_50 (Fa_2 hf) (K := ?_)
  refine S_al0 qX2_join_51 ?_
  refine S_getR qX2_join_52 fX2_18 (F_5 hf) ?_
  refine S_il4 qX2_join_55 ?_
  refine S_il4 qX2_join_57 ?_
  refine S_iast qX2_join_59 (Fa_3 hf) (K := ?_)
  refine S_iconst qX2_join_60 ?_
  refine S_is5 qX2_join_61 (K := ?_)
  refine join_loop hf hn hD (fun V2 hV2 => ?_) 4 0 _ (by omega) (by omega) (by rw [lz_0, upR_id])
  have f0 : V2 f 0 = V f 0 + 1 := by
    rw [hV2]
    simp only [upR_n _ (show f ≠ f + 1 by omega), upR_n _ (show f ≠ f + 2 by omega), upR_n _ (show f ≠ f + 3 by omega), upR_n _ (show f ≠ f + 4 by omega), upR_n _ (show f ≠ f + 5 by omega), upR_n _ (show f + 1 ≠ f by omega), upR_n _ (show f + 1 ≠ f + 2 by omega), upR_n _ (show f + 1 ≠ f + 3 by omega), upR_n _ (show f + 1 ≠ f + 4 by omega), upR_n _ (show f + 1 ≠ f + 5 by omega), upR_n _ (show f + 2 ≠ f by omega), upR_n _ (show f + 2 ≠ f + 1 by omega), upR_n _ (show f + 2 ≠ f + 3 by omega), upR_n _ (show f + 2 ≠ f + 4 by omega), upR_n _ (show f + 2 ≠ f + 5 by omega), upR_n _ (show f + 3 ≠ f by omega), upR_n _ (show f + 3 ≠ f + 1 by omega), upR_n _ (show f + 3 ≠ f + 2 by omega), upR_n _ (show f + 3 ≠ f + 4 by omega), upR_n _ (show f + 3 ≠ f + 5 by omega), upR_n _ (show f + 4 ≠ f by omega), upR_n _ (show f + 4 ≠ f + 1 by omega), upR_n _ (show f + 4 ≠ f + 2 by omega), upR_n _ (show f + 4 ≠ f + 3 by omega), upR_n _ (show f + 4 ≠ f + 5 by omega), upR_n _ (show f + 5 ≠ f by omega), upR_n _ (show f + 5 ≠ f + 1 by omega), upR_n _ (show f + 5 ≠ f + 2 by omega), upR_n _ (show f + 5 ≠ f + 3 by omega), upR_n _ (show f + 5 ≠ f + 4 by omega), upR_s, ur_s]
  refine S_al0 qX2_join_88 ?_
  refine S_il4 qX2_join_89 ?_
  refine S_il3 qX2_join_91 ?_
  refine S_V2W hD qX2_join_92 lX2_56 vX2_standAt (F_r hf) (c_standAt hf (by omega) (by omega)) (K := ?_)
  refine S_il4 qX2_join_95 ?_
  refine S_iret hz qX2_join_97 ?_
  refine ⟨rfl, ?_⟩
  rw [hV2]
  simp only [upR_n _ (show f ≠ f + 1 by omega), upR_n _ (show f ≠ f + 2 by omega), upR_n _ (show f ≠ f + 3 by omega), upR_n _ (show f ≠ f + 4 by omega), upR_n _ (show f ≠ f + 5 by omega), upR_n _ (show f + 1 ≠ f by omega), upR_n _ (show f + 1 ≠ f + 2 by omega), upR_n _ (show f + 1 ≠ f + 3 by omega), upR_n _ (show f + 1 ≠ f + 4 by omega), upR_n _ (show f + 1 ≠ f + 5 by omega), upR_n _ (show f + 2 ≠ f by omega), upR_n _ (show f + 2 ≠ f + 1 by omega), upR_n _ (show f + 2 ≠ f + 3 by omega), upR_n _ (show f + 2 ≠ f + 4 by omega), upR_n _ (show f + 2 ≠ f + 5 by omega), upR_n _ (show f + 3 ≠ f by omega), upR_n _ (show f + 3 ≠ f + 1 by omega), upR_n _ (show f + 3 ≠ f + 2 by omega), upR_n _ (show f + 3 ≠ f + 4 by omega), upR_n _ (show f + 3 ≠ f + 5 by omega), upR_n _ (show f + 4 ≠ f by omega), upR_n _ (show f + 4 ≠ f + 1 by omega), upR_n _ (show f + 4 ≠ f + 2 by omega), upR_n _ (show f + 4 ≠ f + 3 by omega), upR_n _ (show f + 4 ≠ f + 5 by omega), upR_n _ (show f + 5 ≠ f by omega), upR_n _ (show f + 5 ≠ f + 1 by omega), upR_n _ (show f + 5 ≠ f + 2 by omega), upR_n _ (show f + 5 ≠ f + 3 by omega), upR_n _ (show f + 5 ≠ f + 4 by omega), upR_s, upR_u]

theorem c_join {g : GC} {f : Nat} {V : MM} {hs : HS} {s : FS} {k v p : Int} (hF : FlC V f hs s) (hn : V f 0 < 6) (hk : 0 ≤ k ∧ k ≤ 6) (hv : 0 ≤ v ∧ v ≤ 9) (hp : 0 ≤ p ∧ p < hs.1) : Ct g mX2_join 3 [vr f, vi k, vi v, vi p] V (RI (fun z V' => z = s.1 ∧ FlC V' f hs (joiS s k v p) ∧ Sm V V' f 6 ∧ V' f 2 = V f 2)) := by
  have hw := hF.w99
  have hn6 := hF.n6
  obtain ⟨hf, rfl, hH, h0, hI⟩ := hF
  have hfb := isF_b hf
  refine (c_joinM hf (by omega) (by omega)).mono (fun r V' h => ?_)
  obtain ⟨rfl, hW⟩ := h
  have a0 : V' f = ur (V f) 0 (V f 0 + 1) := by rw [hW]; simp only [upR_n _ (show f ≠ f + 1 by omega), upR_n _ (show f ≠ f + 2 by omega), upR_n _ (show f ≠ f + 3 by omega), upR_n _ (show f ≠ f + 4 by omega), upR_n _ (show f ≠ f + 5 by omega), upR_n _ (show f + 1 ≠ f by omega), upR_n _ (show f + 1 ≠ f + 2 by omega), upR_n _ (show f + 1 ≠ f + 3 by omega), upR_n _ (show f + 1 ≠ f + 4 by omega), upR_n _ (show f + 1 ≠ f + 5 by omega), upR_n _ (show f + 2 ≠ f by omega), upR_n _ (show f + 2 ≠ f + 1 by omega), upR_n _ (show f + 2 ≠ f + 3 by omega), upR_n _ (show f + 2 ≠ f + 4 by omega), upR_n _ (show f + 2 ≠ f + 5 by omega), upR_n _ (show f + 3 ≠ f by omega), upR_n _ (show f + 3 ≠ f + 1 by omega), upR_n _ (show f + 3 ≠ f + 2 by omega), upR_n _ (show f + 3 ≠ f + 4 by omega), upR_n _ (show f + 3 ≠ f + 5 by omega), upR_n _ (show f + 4 ≠ f by omega), upR_n _ (show f + 4 ≠ f + 1 by omega), upR_n _ (show f + 4 ≠ f + 2 by omega), upR_n _ (show f + 4 ≠ f + 3 by omega), upR_n _ (show f + 4 ≠ f + 5 by omega), upR_n _ (show f + 5 ≠ f by omega), upR_n _ (show f + 5 ≠ f + 1 by omega), upR_n _ (show f + 5 ≠ f + 2 by omega), upR_n _ (show f + 5 ≠ f + 3 by omega), upR_n _ (show f + 5 ≠ f + 4 by omega), upR_s]
  have a2 : V' f 2 = V f 2 := by rw [a0, ur_n _ (by omega)]
  refine ⟨_, rfl, rfl, ⟨hf, ?_, ?_, by rw [a2]; exact h0, joi_inv hI hn hk hv hp⟩, fun k hk => ?_, a2⟩
  · show _ = (V' f 0, V' f 1, V' (f + 1), V' (f + 2), V' (f + 3), V' (f + 4), V' (f + 5))
    rw [a0, hW]
    simp only [upR_n _ (show f ≠ f + 1 by omega), upR_n _ (show f ≠ f + 2 by omega), upR_n _ (show f ≠ f + 3 by omega), upR_n _ (show f ≠ f + 4 by omega), upR_n _ (show f ≠ f + 5 by omega), upR_n _ (show f + 1 ≠ f by omega), upR_n _ (show f + 1 ≠ f + 2 by omega), upR_n _ (show f + 1 ≠ f + 3 by omega), upR_n _ (show f + 1 ≠ f + 4 by omega), upR_n _ (show f + 1 ≠ f + 5 by omega), upR_n _ (show f + 2 ≠ f by omega), upR_n _ (show f + 2 ≠ f + 1 by omega), upR_n _ (show f + 2 ≠ f + 3 by omega), upR_n _ (show f + 2 ≠ f + 4 by omega), upR_n _ (show f + 2 ≠ f + 5 by omega), upR_n _ (show f + 3 ≠ f by omega), upR_n _ (show f + 3 ≠ f + 1 by omega), upR_n _ (show f + 3 ≠ f + 2 by omega), upR_n _ (show f + 3 ≠ f + 4 by omega), upR_n _ (show f + 3 ≠ f + 5 by omega), upR_n _ (show f + 4 ≠ f by omega), upR_n _ (show f + 4 ≠ f + 1 by omega), upR_n _ (show f + 4 ≠ f + 2 by omega), upR_n _ (show f + 4 ≠ f + 3 by omega), upR_n _ (show f + 4 ≠ f + 5 by omega), upR_n _ (show f + 5 ≠ f by omega), upR_n _ (show f + 5 ≠ f + 1 by omega), upR_n _ (show f + 5 ≠ f + 2 by omega), upR_n _ (show f + 5 ≠ f + 3 by omega), upR_n _ (show f + 5 ≠ f + 4 by omega), upR_s, ur_s, ur_n _ (show (1 : Int) ≠ 0 by omega)]
    rfl
  · rw [a2]
    refine HlC_cong hH (fun k h1 h2 => ?_)
    rw [hW, upR_n _ (by omega), upR_n _ (by omega), upR_n _ (by omega), upR_n _ (by omega), upR_n _ (by omega), upR_n _ (by omega)]
  · rw [hW, upR_n _ (by omega), upR_n _ (by omega), upR_n _ (by omega), upR_n _ (by omega), upR_n _ (by omega), upR_n _ (by omega)]

theorem wrap_loop {g : GC} {X : CX} {Q : Option AV → MM → Prop} {f : Nat} {V : MM} {w : Int} (hf : isF f) (hh : isH (V f 2).toNat) (hw : w = V (V f 2).toNat 0) (hw9 : 1 ≤ w ∧ w ≤ 99) (hwa : ∀ i : Int, 0 ≤ i ∧ i < 48 → 0 ≤ V (f + 4) i ∧ V (f + 4) i < 99) (hz : Fi g X none Q) (hD : Dp X 3) (hQ : Q none (upR V (f + 4) (wrS w (V (f + 4)) 48))) : ∀ (n : Nat) (i : Int) (V1 : MM), 0 ≤ i → i + n = 48 → V1 = upR V (f + 4) (wrS w (V (f + 4)) i) → SW g X RX2 cX2_wrapAll 2 [some (vr f), some (vi i)] [] V1 := by
  have hfb := isF_b hf
  have hhb : 43 ≤ (V f 2).toNat := by unfold isH at hh; omega
  intro n
  induction n with
  | zero =>
    intro i V1 h0 h1 hV
    have e : i = 48 := by omega
    subst e
    refine S_il1 qX2_wrapAll_2 ?_
    refine S_bipush (d := qX2_wrapAll_3) (k := ?_)
    refine S_icmp_ge (d := qX2_wrapAll_5) (kt := fun c5 => ?_) (kf := fun c5 => ?_)
    rotate_left
    · omega
    refine S_vret hz qX2_wrapAll_36 ?_
    rw [hV]
    exact hQ
  | succ n ih =>
    intro i V1 h0 h1 hV
    have e4 : V1 (f + 4) = wrS w (V (f + 4)) i := by rw [hV, upR_s]
    have e5 : V1 (f + 4) i = V (f + 4) i := by rw [e4]; unfold wrS; rw [if_neg (by omega)]
    have ef : V1 f 2 = V f 2 := by rw [hV, upR_n _ (by omega)]
    have hh1 : isH (V1 f 2).toNat := by rw [ef]; exact hh
    have ew : V1 (V1 f 2).toNat 0 = w := by rw [ef, hV, upR_n _ (by omega), hw]
    have w1 := hwa i (by omega)
    refine S_il1 qX2_wrapAll_2 ?_
    refine S_bipush (d := qX2_wrapAll_3) (k := ?_)
    refine S_icmp_ge (d := qX2_wrapAll_5) (kt := fun c5 => ?_) (kf := fun c5 => ?_)
    · omega
    refine S_al0 qX2_wrapAll_8 ?_
    refine S_getR qX2_wrapAll_9 fX2_21 (F_6 hf) ?_
    refine S_il1 qX2_wrapAll_12 ?_
    refine S_al0 qX2_wrapAll_13 ?_
    refine S_getR qX2_wrapAll_14 fX2_21 (F_6 hf) ?_
    refine S_il1 qX2_wrapAll_17 ?_
    refine S_iald qX2_wrapAll_18 (Fa_4 hf) (K := ?_)
    refine S_al0 qX2_wrapAll_19 ?_
    refine S_getH qX2_wrapAll_20 fX2_30 (F_2 hf) ?_
    refine S_getI qX2_wrapAll_23 fX2_47 (H_0 hh1) ?_
    refine S_S2E hD qX2_wrapAll_26 lX2_60 sX6_modulo (c_modulo (by omega) (by omega)) (K := ?_)
    refine S_iast qX2_wrapAll_29 (Fa_4 hf) (K := ?_)
    refine S_inc1 qX2_wrapAll_30 (K := ?_)
    refine S_goto qX2_wrapAll_33 ?_
    refine ih (i + 1) _ (by omega) (by omega) ?_
    rw [e5, ew, e4, wrS_1 _ _ h0, hV, upR_u]
theorem c_wrapAll {g : GC} {f : Nat} {V : MM} {w : Int} (hf : isF f) (hh : isH (V f 2).toNat) (hw : w = V (V f 2).toNat 0) (hw9 : 1 ≤ w ∧ w ≤ 99) (hwa : ∀ i : Int, 0 ≤ i ∧ i < 48 → 0 ≤ V (f + 4) i ∧ V (f + 4) i < 99) : Ct g mX2_wrapAll 3 [vr f] V (RW (upR V (f + 4) (wrS w (V (f + 4)) 48))) := by
  refine Ct.of (ls := [some (vr f), none]) (plainFor_of_name (by decide +kernel)) rfl (by exact Nat.le_of_ble_eq_true rfl) (fun X hz hD => ?_)
  refine S_iconst qX2_wrapAll_0 ?_
  refine S_is1 qX2_wrapAll_1 (K := ?_)
  exact wrap_loop hf hh hw hw9 hwa hz hD ⟨rfl, rfl⟩ 48 0 V (by omega) (by omega) (by rw [wrS_0, upR_id])
end
section
/-- what is told by hand: seen (how many, who, where, when), the dance, the book -/
abbrev SN : Type := Int × (Int → Int) × (Int → Int) × (Int → Int) × Int × (Int → Int) × Int × (Int → Int) × (Int → Int)
abbrev snC (V : MM) (b : Nat) : SN := (V b 0, V (b + 1), V (b + 2), V (b + 3), V b 4, V (b + 4), V b 6, V (b + 5), V (b + 6))
/-- it is as it must be, where there are n dancers -/
def NInv (n : Int) (N : SN) : Prop := (0 ≤ N.1 ∧ N.1 ≤ 5) ∧ (∀ i, 0 ≤ i ∧ i < N.1 → (0 ≤ N.2.1 i ∧ N.2.1 i < n) ∧ (0 ≤ N.2.2.1 i ∧ N.2.2.1 i ≤ 98) ∧ (0 ≤ N.2.2.2.1 i ∧ N.2.2.2.1 i ≤ 12)) ∧ (0 ≤ N.2.2.2.2.1 ∧ N.2.2.2.2.1 ≤ 10) ∧ (∀ i, 0 ≤ i ∧ i < N.2.2.2.2.1 → 0 ≤ N.2.2.2.2.2.1 i ∧ N.2.2.2.2.2.1 i ≤ 2) ∧ (0 ≤ N.2.2.2.2.2.2.1 ∧ N.2.2.2.2.2.2.1 ≤ 8) ∧ (∀ i, 0 ≤ i ∧ i < N.2.2.2.2.2.2.1 → (0 ≤ N.2.2.2.2.2.2.2.1 i ∧ N.2.2.2.2.2.2.2.1 i < n) ∧ (0 ≤ N.2.2.2.2.2.2.2.2 i ∧ N.2.2.2.2.2.2.2.2 i ≤ 98))
theorem isB_b {b : Nat} (h : isB b) : 29 ≤ b ∧ b + 7 ≤ 43 := by unfold isB at h; omega

theorem c_addSeen {g : GC} {b : Nat} {V : MM} {d p k : Int} (hb : isB b) (hn : 0 ≤ V b 0 ∧ V b 0 < 5) : Ct g mX1_addSeen 1 [vr b, vi d, vi p, vi k] V (fun r V' => r = some (vi (V b 0 + 1)) ∧ V' = upR (upR (upR (upR V (b + 1) (ur (V (b + 1)) (V b 0) d)) (b + 2) (ur (V (b + 2)) (V b 0) p)) (b + 3) (ur (V (b + 3)) (V b 0) k)) b (ur (V b) 0 (V b 0 + 1))) := by
  refine Ct.of (ls := [some (vr b), some (vi d), some (vi p), some (vi k)]) (plainFor_of_name (by decide +kernel)) rfl (by exact Nat.le_of_ble_eq_true rfl) (fun X hz hD => ?_)
  refine S_al0 qX1_addSeen_0 ?_
  refine S_getI qX1_addSeen_1 fX1_30 (B_0 hb) ?_
  refine S_if_lt (d := qX1_addSeen_4) (kt := fun c4 => ?_) (kf := fun c4 => ?_)
  · omega
  refine S_al0 qX1_addSeen_7 ?_
  refine S_getI qX1_addSeen_8 fX1_30 (B_0 hb) ?_
  refine S_iconst qX1_addSeen_11 ?_
  refine S_icmp_lt (d := qX1_addSeen_12) (kt := fun c12 => ?_) (kf := fun c12 => ?_)
  rotate_left
  · omega
  refine S_al0 qX1_addSeen_18 ?_
  refine S_getR qX1_addSeen_19 fX1_11 (B_1 hb) ?_
  refine S_al0 qX1_addSeen_22 ?_
  refine S_getI qX1_addSeen_23 fX1_30 (B_0 hb) ?_
  refine S_il1 qX1_addSeen_26 ?_
  refine S_iast qX1_addSeen_27 (Ba_1 hb) (K := ?_)
  have e1 : (upR V (b + 1) (ur (V (b + 1)) (V b 0) d)) b = V b := upR_n _ (by omega)
  refine S_al0 qX1_addSeen_28 ?_
  refine S_getR qX1_addSeen_29 fX1_15 (B_2 hb) ?_
  refine S_al0 qX1_addSeen_32 ?_
  refine S_getI qX1_addSeen_33 fX1_30 (B_0 hb) ?_
  rw [e1]
  refine S_il2 qX1_addSeen_36 ?_
  refine S_iast qX1_addSeen_37 (Ba_2 hb) (K := ?_)
  have e2 : (upR (upR V (b + 1) (ur (V (b + 1)) (V b 0) d)) (b + 2) (ur (upR V (b + 1) (ur (V (b + 1)) (V b 0) d) (b + 2)) (V b 0) p)) b = V b := by rw [upR_n _ (by omega), e1]
  refine S_al0 qX1_addSeen_38 ?_
  refine S_getR qX1_addSeen_39 fX1_18 (B_3 hb) ?_
  refine S_al0 qX1_addSeen_42 ?_
  refine S_getI qX1_addSeen_43 fX1_30 (B_0 hb) ?_
  rw [e2]
  refine S_il3 qX1_addSeen_46 ?_
  refine S_iast qX1_addSeen_47 (Ba_3 hb) (K := ?_)
  refine S_al0 qX1_addSeen_48 ?_
  refine S_dup (d := qX1_addSeen_49) (k := ?_)
  refine S_getI qX1_addSeen_50 fX1_30 (B_0 hb) ?_
  refine S_iconst qX1_addSeen_53 ?_
  refine S_iadd qX1_addSeen_54 ?_
  refine S_putI qX1_addSeen_55 fX1_30 (B_0 hb) tX1_0 ?_
  refine S_al0 qX1_addSeen_58 ?_
  refine S_getI qX1_addSeen_59 fX1_30 (B_0 hb) ?_
  refine S_iret hz qX1_addSeen_62 ?_
  refine ⟨?_, ?_⟩ <;> simp only [upR_n _ (show b ≠ b + 1 by omega), upR_n _ (show b ≠ b + 2 by omega), upR_n _ (show b ≠ b + 3 by omega), upR_n _ (show b ≠ b + 4 by omega), upR_n _ (show b ≠ b + 5 by omega), upR_n _ (show b ≠ b + 6 by omega), upR_n _ (show b + 1 ≠ b by omega), upR_n _ (show b + 1 ≠ b + 2 by omega), upR_n _ (show b + 1 ≠ b + 3 by omega), upR_n _ (show b + 1 ≠ b + 4 by omega), upR_n _ (show b + 1 ≠ b + 5 by omega), upR_n _ (show b + 1 ≠ b + 6 by omega), upR_n _ (show b + 2 ≠ b by omega), upR_n _ (show b + 2 ≠ b + 1 by omega), upR_n _ (show b + 2 ≠ b + 3 by omega), upR_n _ (show b + 2 ≠ b + 4 by omega), upR_n _ (show b + 2 ≠ b + 5 by omega), upR_n _ (show b + 2 ≠ b + 6 by omega), upR_n _ (show b + 3 ≠ b by omega), upR_n _ (show b + 3 ≠ b + 1 by omega), upR_n _ (show b + 3 ≠ b + 2 by omega), upR_n _ (show b + 3 ≠ b + 4 by omega), upR_n _ (show b + 3 ≠ b + 5 by omega), upR_n _ (show b + 3 ≠ b + 6 by omega), upR_n _ (show b + 4 ≠ b by omega), upR_n _ (show b + 4 ≠ b + 1 by omega), upR_n _ (show b + 4 ≠ b + 2 by omega), upR_n _ (show b + 4 ≠ b + 3 by omega), upR_n _ (show b + 4 ≠ b + 5 by omega), upR_n _ (show b + 4 ≠ b + 6 by omega), upR_n _ (show b + 5 ≠ b by omega), upR_n _ (show b + 5 ≠ b + 1 by omega), upR_n _ (show b + 5 ≠ b + 2 by omega), upR_n _ (show b + 5 ≠ b + 3 by omega), upR_n _ (show b + 5 ≠ b + 4 by omega), upR_n _ (show b + 5 ≠ b + 6 by omega), upR_n _ (show b + 6 ≠ b by omega), upR_n _ (show b + 6 ≠ b + 1 by omega), upR_n _ (show b + 6 ≠ b + 2 by omega), upR_n _ (show b + 6 ≠ b + 3 by omega), upR_n _ (show b + 6 ≠ b + 4 by omega), upR_n _ (show b + 6 ≠ b + 5 by omega), upR_s, ur_s]

theorem c_addStep {g : GC} {b : Nat} {V : MM} {d : Int} (hb : isB b) (hn : 0 ≤ V b 4 ∧ V b 4 < 10) : Ct g mX1_addStep 1 [vr b, vi d] V (fun r V' => r = some (vi (V b 4 + 1)) ∧ V' = upR (upR V (b + 4) (ur (V (b + 4)) (V b 4) d)) b (ur (V b) 4 (V b 4 + 1))) := by
  refine Ct.of (ls := [some (vr b), some (vi d)]) (plainFor_of_name (by decide +kernel)) rfl (by exact Nat.le_of_ble_eq_true rfl) (fun X hz hD => ?_)
  refine S_al0 qX1_addStep_0 ?_
  refine S_getI qX1_addStep_1 fX1_40 (B_4 hb) ?_
  refine S_if_lt (d := qX1_addStep_4) (kt := fun c4 => ?_) (kf := fun c4 => ?_)
  · omega
  refine S_al0 qX1_addStep_7 ?_
  refine S_getI qX1_addStep_8 fX1_40 (B_4 hb) ?_
  refine S_bipush (d := qX1_addStep_11) (k := ?_)
  refine S_icmp_lt (d := qX1_addStep_13) (kt := fun c13 => ?_) (kf := fun c13 => ?_)
  rotate_left
  · omega
  refine S_al0 qX1_addStep_19 ?_
  refine S_getR qX1_addStep_20 fX1_21 (B_5 hb) ?_
  refine S_al0 qX1_addStep_23 ?_
  refine S_getI qX1_addStep_24 fX1_40 (B_4 hb) ?_
  refine S_il1 qX1_addStep_27 ?_
  refine S_iast qX1_addStep_28 (Ba_4 hb) (K := ?_)
  refine S_al0 qX1_addStep_29 ?_
  refine S_dup (d := qX1_addStep_30) (k := ?_)
  refine S_getI qX1_addStep_31 fX1_40 (B_4 hb) ?_
  refine S_iconst qX1_addStep_34 ?_
  refine S_iadd qX1_addStep_35 ?_
  refine S_putI qX1_addStep_36 fX1_40 (B_4 hb) tX1_4 ?_
  refine S_al0 qX1_addStep_39 ?_
  refine S_getI qX1_addStep_40 fX1_40 (B_4 hb) ?_
  refine S_iret hz qX1_addStep_43 ?_
  refine ⟨?_, ?_⟩ <;> simp only [upR_n _ (show b ≠ b + 1 by omega), upR_n _ (show b ≠ b + 2 by omega), upR_n _ (show b ≠ b + 3 by omega), upR_n _ (show b ≠ b + 4 by omega), upR_n _ (show b ≠ b + 5 by omega), upR_n _ (show b ≠ b + 6 by omega), upR_n _ (show b + 1 ≠ b by omega), upR_n _ (show b + 1 ≠ b + 2 by omega), upR_n _ (show b + 1 ≠ b + 3 by omega), upR_n _ (show b + 1 ≠ b + 4 by omega), upR_n _ (show b + 1 ≠ b + 5 by omega), upR_n _ (show b + 1 ≠ b + 6 by omega), upR_n _ (show b + 2 ≠ b by omega), upR_n _ (show b + 2 ≠ b + 1 by omega), upR_n _ (show b + 2 ≠ b + 3 by omega), upR_n _ (show b + 2 ≠ b + 4 by omega), upR_n _ (show b + 2 ≠ b + 5 by omega), upR_n _ (show b + 2 ≠ b + 6 by omega), upR_n _ (show b + 3 ≠ b by omega), upR_n _ (show b + 3 ≠ b + 1 by omega), upR_n _ (show b + 3 ≠ b + 2 by omega), upR_n _ (show b + 3 ≠ b + 4 by omega), upR_n _ (show b + 3 ≠ b + 5 by omega), upR_n _ (show b + 3 ≠ b + 6 by omega), upR_n _ (show b + 4 ≠ b by omega), upR_n _ (show b + 4 ≠ b + 1 by omega), upR_n _ (show b + 4 ≠ b + 2 by omega), upR_n _ (show b + 4 ≠ b + 3 by omega), upR_n _ (show b + 4 ≠ b + 5 by omega), upR_n _ (show b + 4 ≠ b + 6 by omega), upR_n _ (show b + 5 ≠ b by omega), upR_n _ (show b + 5 ≠ b + 1 by omega), upR_n _ (show b + 5 ≠ b + 2 by omega), upR_n _ (show b + 5 ≠ b + 3 by omega), upR_n _ (show b + 5 ≠ b + 4 by omega), upR_n _ (show b + 5 ≠ b + 6 by omega), upR_n _ (show b + 6 ≠ b by omega), upR_n _ (show b + 6 ≠ b + 1 by omega), upR_n _ (show b + 6 ≠ b + 2 by omega), upR_n _ (show b + 6 ≠ b + 3 by omega), upR_n _ (show b + 6 ≠ b + 4 by omega), upR_n _ (show b + 6 ≠ b + 5 by omega), upR_s, ur_s]

theorem c_addRow {g : GC} {b : Nat} {V : MM} {d p : Int} (hb : isB b) (hn : 0 ≤ V b 6 ∧ V b 6 < 8) : Ct g mX1_addRow 1 [vr b, vi d, vi p] V (fun r V' => r = some (vi (V b 6 + 1)) ∧ V' = upR (upR (upR V (b + 5) (ur (V (b + 5)) (V b 6) d)) (b + 6) (ur (V (b + 6)) (V b 6) p)) b (ur (V b) 6 (V b 6 + 1))) := by
  refine Ct.of (ls := [some (vr b), some (vi d), some (vi p)]) (plainFor_of_name (by decide +kernel)) rfl (by exact Nat.le_of_ble_eq_true rfl) (fun X hz hD => ?_)
  refine S_al0 qX1_addRow_0 ?_
  refine S_getI qX1_addRow_1 fX1_43 (B_6 hb) ?_
  refine S_if_lt (d := qX1_addRow_4) (kt := fun c4 => ?_) (kf := fun c4 => ?_)
  · omega
  refine S_al0 qX1_addRow_7 ?_
  refine S_getI qX1_addRow_8 fX1_43 (B_6 hb) ?_
  refine S_bipush (d := qX1_addRow_11) (k := ?_)
  refine S_icmp_lt (d := qX1_addRow_13) (kt := fun c13 => ?_) (kf := fun c13 => ?_)
  rotate_left
  · omega
  refine S_al0 qX1_addRow_19 ?_
  refine S_getR qX1_addRow_20 fX1_24 (B_7 hb) ?_
  refine S_al0 qX1_addRow_23 ?_
  refine S_getI qX1_addRow_24 fX1_43 (B_6 hb) ?_
  refine S_il1 qX1_addRow_27 ?_
  refine S_iast qX1_addRow_28 (Ba_5 hb) (K := ?_)
  have e1 : (upR V (b + 5) (ur (V (b + 5)) (V b 6) d)) b = V b := upR_n _ (by omega)
  refine S_al0 qX1_addRow_29 ?_
  refine S_getR qX1_addRow_30 fX1_27 (B_8 hb) ?_
  refine S_al0 qX1_addRow_33 ?_
  refine S_getI qX1_addRow_34 fX1_43 (B_6 hb) ?_
  rw [e1]
  refine S_il2 qX1_addRow_37 ?_
  refine S_iast qX1_addRow_38 (Ba_6 hb) (K := ?_)
  refine S_al0 qX1_addRow_39 ?_
  refine S_dup (d := qX1_addRow_40) (k := ?_)
  refine S_getI qX1_addRow_41 fX1_43 (B_6 hb) ?_
  refine S_iconst qX1_addRow_44 ?_
  refine S_iadd qX1_addRow_45 ?_
  refine S_putI qX1_addRow_46 fX1_43 (B_6 hb) tX1_6 ?_
  refine S_al0 qX1_addRow_49 ?_
  refine S_getI qX1_addRow_50 fX1_43 (B_6 hb) ?_
  refine S_iret hz qX1_addRow_53 ?_
  refine ⟨?_, ?_⟩ <;> simp only [upR_n _ (show b ≠ b + 1 by omega), upR_n _ (show b ≠ b + 2 by omega), upR_n _ (show b ≠ b + 3 by omega), upR_n _ (show b ≠ b + 4 by omega), upR_n _ (show b ≠ b + 5 by omega), upR_n _ (show b ≠ b + 6 by omega), upR_n _ (show b + 1 ≠ b by omega), upR_n _ (show b + 1 ≠ b + 2 by omega), upR_n _ (show b + 1 ≠ b + 3 by omega), upR_n _ (show b + 1 ≠ b + 4 by omega), upR_n _ (show b + 1 ≠ b + 5 by omega), upR_n _ (show b + 1 ≠ b + 6 by omega), upR_n _ (show b + 2 ≠ b by omega), upR_n _ (show b + 2 ≠ b + 1 by omega), upR_n _ (show b + 2 ≠ b + 3 by omega), upR_n _ (show b + 2 ≠ b + 4 by omega), upR_n _ (show b + 2 ≠ b + 5 by omega), upR_n _ (show b + 2 ≠ b + 6 by omega), upR_n _ (show b + 3 ≠ b by omega), upR_n _ (show b + 3 ≠ b + 1 by omega), upR_n _ (show b + 3 ≠ b + 2 by omega), upR_n _ (show b + 3 ≠ b + 4 by omega), upR_n _ (show b + 3 ≠ b + 5 by omega), upR_n _ (show b + 3 ≠ b + 6 by omega), upR_n _ (show b + 4 ≠ b by omega), upR_n _ (show b + 4 ≠ b + 1 by omega), upR_n _ (show b + 4 ≠ b + 2 by omega), upR_n _ (show b + 4 ≠ b + 3 by omega), upR_n _ (show b + 4 ≠ b + 5 by omega), upR_n _ (show b + 4 ≠ b + 6 by omega), upR_n _ (show b + 5 ≠ b by omega), upR_n _ (show b + 5 ≠ b + 1 by omega), upR_n _ (show b + 5 ≠ b + 2 by omega), upR_n _ (show b + 5 ≠ b + 3 by omega), upR_n _ (show b + 5 ≠ b + 4 by omega), upR_n _ (show b + 5 ≠ b + 6 by omega), upR_n _ (show b + 6 ≠ b by omega), upR_n _ (show b + 6 ≠ b + 1 by omega), upR_n _ (show b + 6 ≠ b + 2 by omega), upR_n _ (show b + 6 ≠ b + 3 by omega), upR_n _ (show b + 6 ≠ b + 4 by omega), upR_n _ (show b + 6 ≠ b + 5 by omega), upR_s, ur_s]

theorem c_handBecomeM {g : GC} {b o : Nat} {V : MM} (hb : isB b) (ho : isB o) (hne : b ≠ o) : Ct g mX1_become 2 [vr b, vr o] V (RV (fun V' => V' b 0 = V o 0 ∧ V' b 4 = V o 4 ∧ V' b 6 = V o 6 ∧ V' (b + 1) = V (o + 1) ∧ V' (b + 2) = V (o + 2) ∧ V' (b + 3) = V (o + 3) ∧ V' (b + 4) = V (o + 4) ∧ V' (b + 5) = V (o + 5) ∧ V' (b + 6) = V (o + 6) ∧ Sm V V' b 7)) := by
  refine Ct.of (ls := [some (vr b), some (vr o)]) (plainFor_of_name (by decide +kernel)) rfl (by exact Nat.le_of_ble_eq_true rfl) (fun X hz hD => ?_)
  have hsep : b + 7 ≤ o ∨ o + 7 ≤ b := by unfold isB at hb ho; omega
  refine S_al0 qX1_become_0 ?_
  refine S_al1 qX1_become_1 ?_
  refine S_getI qX1_become_2 fX1_30 (B_0 ho) ?_
  refine S_putI qX1_become_5 fX1_30 (B_0 hb) tX1_0 ?_
  refine S_al1 qX1_become_8 ?_
  refine S_getR qX1_become_9 fX1_11 (B_1 ho) ?_
  refine S_iconst qX1_become_12 ?_
  refine S_al0 qX1_become_13 ?_
  refine S_getR qX1_become_14 fX1_11 (B_1 hb) ?_
  refine S_iconst qX1_become_17 ?_
  refine S_iconst qX1_become_18 ?_
  refine S_copyI hD qX1_become_19 cp_X1_34 (Ba_1 ho) (Ba_1 hb) (K := ?_)
  refine SW.castR ?_ (cp_row (Ba_1 hb) (by rfl))
  refine S_al1 qX1_become_22 ?_
  refine S_getR qX1_become_23 fX1_15 (B_2 ho) ?_
  refine S_iconst qX1_become_26 ?_
  refine S_al0 qX1_become_27 ?_
  refine S_getR qX1_become_28 fX1_15 (B_2 hb) ?_
  refine S_iconst qX1_become_31 ?_
  refine S_iconst qX1_become_32 ?_
  refine S_copyI hD qX1_become_33 cp_X1_34 (Ba_2 ho) (Ba_2 hb) (K := ?_)
  refine SW.castR ?_ (cp_row (Ba_2 hb) (by rfl))
  refine S_al1 qX1_become_36 ?_
  refine S_getR qX1_become_37 fX1_18 (B_3 ho) ?_
  refine S_iconst qX1_become_40 ?_
  refine S_al0 qX1_become_41 ?_
  refine S_getR qX1_become_42 fX1_18 (B_3 hb) ?_
  refine S_iconst qX1_become_45 ?_
  refine S_iconst qX1_become_46 ?_
  refine S_copyI hD qX1_become_47 cp_X1_34 (Ba_3 ho) (Ba_3 hb) (K := ?_)
  refine SW.castR ?_ (cp_row (Ba_3 hb) (by rfl))
  refine S_al0 qX1_become_50 ?_
  refine S_al1 qX1_become_51 ?_
  refine S_getI qX1_become_52 fX1_40 (B_4 ho) ?_
  refine S_putI qX1_become_55 fX1_40 (B_4 hb) tX1_4 ?_
  refine S_al1 qX1_become_58 ?_
  refine S_getR qX1_become_59 fX1_21 (B_5 ho) ?_
  refine S_iconst qX1_become_62 ?_
  refine S_al0 qX1_become_63 ?_
  refine S_getR qX1_become_64 fX1_21 (B_5 hb) ?_
  refine S_iconst qX1_become_67 ?_
  refine S_bipush (d := qX1_become_68) (k := ?_)
  refine S_copyI hD qX1_become_70 cp_X1_34 (Ba_4 ho) (Ba_4 hb) (K := ?_)
  refine SW.castR ?_ (cp_row (Ba_4 hb) (by rfl))
  refine S_al0 qX1_become_73 ?_
  refine S_al1 qX1_become_74 ?_
  refine S_getI qX1_become_75 fX1_43 (B_6 ho) ?_
  refine S_putI qX1_become_78 fX1_43 (B_6 hb) tX1_6 ?_
  refine S_al1 qX1_become_81 ?_
  refine S_getR qX1_become_82 fX1_24 (B_7 ho) ?_
  refine S_iconst qX1_become_85 ?_
  refine S_al0 qX1_become_86 ?_
  refine S_getR qX1_become_87 fX1_24 (B_7 hb) ?_
  refine S_iconst qX1_become_90 ?_
  refine S_bipush (d := qX1_become_91) (k := ?_)
  refine S_copyI hD qX1_become_93 cp_X1_34 (Ba_5 ho) (Ba_5 hb) (K := ?_)
  refine SW.castR ?_ (cp_row (Ba_5 hb) (by rfl))
  refine S_al1 qX1_become_96 ?_
  refine S_getR qX1_become_97 fX1_27 (B_8 ho) ?_
  refine S_iconst qX1_become_100 ?_
  refine S_al0 qX1_become_101 ?_
  refine S_getR qX1_become_102 fX1_27 (B_8 hb) ?_
  refine S_iconst qX1_become_105 ?_
  refine S_bipush (d := qX1_become_106) (k := ?_)
  refine S_copyI hD qX1_become_108 cp_X1_34 (Ba_6 ho) (Ba_6 hb) (K := ?_)
  refine SW.castR ?_ (cp_row (Ba_6 hb) (by rfl))
  refine S_vret hz qX1_become_111 ?_
  refine ⟨rfl, ?_, ?_, ?_, ?_, ?_, ?_, ?_, ?_, ?_, fun k hk => ?_⟩
  · simp only [upR_n _ (show b ≠ b + 1 by omega), upR_n _ (show b ≠ b + 2 by omega), upR_n _ (show b ≠ b + 3 by omega), upR_n _ (show b ≠ b + 4 by omega), upR_n _ (show b ≠ b + 5 by omega), upR_n _ (show b ≠ b + 6 by omega), upR_n _ (show b + 1 ≠ b by omega), upR_n _ (show b + 1 ≠ b + 2 by omega), upR_n _ (show b + 1 ≠ b + 3 by omega), upR_n _ (show b + 1 ≠ b + 4 by omega), upR_n _ (show b + 1 ≠ b + 5 by omega), upR_n _ (show b + 1 ≠ b + 6 by omega), upR_n _ (show b + 2 ≠ b by omega), upR_n _ (show b + 2 ≠ b + 1 by omega), upR_n _ (show b + 2 ≠ b + 3 by omega), upR_n _ (show b + 2 ≠ b + 4 by omega), upR_n _ (show b + 2 ≠ b + 5 by omega), upR_n _ (show b + 2 ≠ b + 6 by omega), upR_n _ (show b + 3 ≠ b by omega), upR_n _ (show b + 3 ≠ b + 1 by omega), upR_n _ (show b + 3 ≠ b + 2 by omega), upR_n _ (show b + 3 ≠ b + 4 by omega), upR_n _ (show b + 3 ≠ b + 5 by omega), upR_n _ (show b + 3 ≠ b + 6 by omega), upR_n _ (show b + 4 ≠ b by omega), upR_n _ (show b + 4 ≠ b + 1 by omega), upR_n _ (show b + 4 ≠ b + 2 by omega), upR_n _ (show b + 4 ≠ b + 3 by omega), upR_n _ (show b + 4 ≠ b + 5 by omega), upR_n _ (show b + 4 ≠ b + 6 by omega), upR_n _ (show b + 5 ≠ b by omega), upR_n _ (show b + 5 ≠ b + 1 by omega), upR_n _ (show b + 5 ≠ b + 2 by omega), upR_n _ (show b + 5 ≠ b + 3 by omega), upR_n _ (show b + 5 ≠ b + 4 by omega), upR_n _ (show b + 5 ≠ b + 6 by omega), upR_n _ (show b + 6 ≠ b by omega), upR_n _ (show b + 6 ≠ b + 1 by omega), upR_n _ (show b + 6 ≠ b + 2 by omega), upR_n _ (show b + 6 ≠ b + 3 by omega), upR_n _ (show b + 6 ≠ b + 4 by omega), upR_n _ (show b + 6 ≠ b + 5 by omega), upR_n _ (show o ≠ b by omega), upR_n _ (show o ≠ b + 1 by omega), upR_n _ (show o ≠ b + 2 by omega), upR_n _ (show o ≠ b + 3 by omega), upR_n _ (show o ≠ b + 4 by omega), upR_n _ (show o ≠ b + 5 by omega), upR_n _ (show o ≠ b + 6 by omega), upR_n _ (show o + 1 ≠ b by omega), upR_n _ (show o + 1 ≠ b + 1 by omega), upR_n _ (show o + 1 ≠ b + 2 by omega), upR_n _ (show o + 1 ≠ b + 3 by omega), upR_n _ (show o + 1 ≠ b + 4 by omega), upR_n _ (show o + 1 ≠ b + 5 by omega), upR_n _ (show o + 1 ≠ b + 6 by omega), upR_n _ (show o + 2 ≠ b by omega), upR_n _ (show o + 2 ≠ b + 1 by omega), upR_n _ (show o + 2 ≠ b + 2 by omega), upR_n _ (show o + 2 ≠ b + 3 by omega), upR_n _ (show o + 2 ≠ b + 4 by omega), upR_n _ (show o + 2 ≠ b + 5 by omega), upR_n _ (show o + 2 ≠ b + 6 by omega), upR_n _ (show o + 3 ≠ b by omega), upR_n _ (show o + 3 ≠ b + 1 by omega), upR_n _ (show o + 3 ≠ b + 2 by omega), upR_n _ (show o + 3 ≠ b + 3 by omega), upR_n _ (show o + 3 ≠ b + 4 by omega), upR_n _ (show o + 3 ≠ b + 5 by omega), upR_n _ (show o + 3 ≠ b + 6 by omega), upR_n _ (show o + 4 ≠ b by omega), upR_n _ (show o + 4 ≠ b + 1 by omega), upR_n _ (show o + 4 ≠ b + 2 by omega), upR_n _ (show o + 4 ≠ b + 3 by omega), upR_n _ (show o + 4 ≠ b + 4 by omega), upR_n _ (show o + 4 ≠ b + 5 by omega), upR_n _ (show o + 4 ≠ b + 6 by omega), upR_n _ (show o + 5 ≠ b by omega), upR_n _ (show o + 5 ≠ b + 1 by omega), upR_n _ (show o + 5 ≠ b + 2 by omega), upR_n _ (show o + 5 ≠ b + 3 by omega), upR_n _ (show o + 5 ≠ b + 4 by omega), upR_n _ (show o + 5 ≠ b + 5 by omega), upR_n _ (show o + 5 ≠ b + 6 by omega), upR_n _ (show o + 6 ≠ b by omega), upR_n _ (show o + 6 ≠ b + 1 by omega), upR_n _ (show o + 6 ≠ b + 2 by omega), upR_n _ (show o + 6 ≠ b + 3 by omega), upR_n _ (show o + 6 ≠ b + 4 by omega), upR_n _ (show o + 6 ≠ b + 5 by omega), upR_n _ (show o + 6 ≠ b + 6 by omega), upR_s, upR_u, ur_s, ur_n _ (show (0 : Int) ≠ 4 by omega), ur_n _ (show (0 : Int) ≠ 6 by omega), ur_n _ (show (4 : Int) ≠ 6 by omega)]
  · simp only [upR_n _ (show b ≠ b + 1 by omega), upR_n _ (show b ≠ b + 2 by omega), upR_n _ (show b ≠ b + 3 by omega), upR_n _ (show b ≠ b + 4 by omega), upR_n _ (show b ≠ b + 5 by omega), upR_n _ (show b ≠ b + 6 by omega), upR_n _ (show b + 1 ≠ b by omega), upR_n _ (show b + 1 ≠ b + 2 by omega), upR_n _ (show b + 1 ≠ b + 3 by omega), upR_n _ (show b + 1 ≠ b + 4 by omega), upR_n _ (show b + 1 ≠ b + 5 by omega), upR_n _ (show b + 1 ≠ b + 6 by omega), upR_n _ (show b + 2 ≠ b by omega), upR_n _ (show b + 2 ≠ b + 1 by omega), upR_n _ (show b + 2 ≠ b + 3 by omega), upR_n _ (show b + 2 ≠ b + 4 by omega), upR_n _ (show b + 2 ≠ b + 5 by omega), upR_n _ (show b + 2 ≠ b + 6 by omega), upR_n _ (show b + 3 ≠ b by omega), upR_n _ (show b + 3 ≠ b + 1 by omega), upR_n _ (show b + 3 ≠ b + 2 by omega), upR_n _ (show b + 3 ≠ b + 4 by omega), upR_n _ (show b + 3 ≠ b + 5 by omega), upR_n _ (show b + 3 ≠ b + 6 by omega), upR_n _ (show b + 4 ≠ b by omega), upR_n _ (show b + 4 ≠ b + 1 by omega), upR_n _ (show b + 4 ≠ b + 2 by omega), upR_n _ (show b + 4 ≠ b + 3 by omega), upR_n _ (show b + 4 ≠ b + 5 by omega), upR_n _ (show b + 4 ≠ b + 6 by omega), upR_n _ (show b + 5 ≠ b by omega), upR_n _ (show b + 5 ≠ b + 1 by omega), upR_n _ (show b + 5 ≠ b + 2 by omega), upR_n _ (show b + 5 ≠ b + 3 by omega), upR_n _ (show b + 5 ≠ b + 4 by omega), upR_n _ (show b + 5 ≠ b + 6 by omega), upR_n _ (show b + 6 ≠ b by omega), upR_n _ (show b + 6 ≠ b + 1 by omega), upR_n _ (show b + 6 ≠ b + 2 by omega), upR_n _ (show b + 6 ≠ b + 3 by omega), upR_n _ (show b + 6 ≠ b + 4 by omega), upR_n _ (show b + 6 ≠ b + 5 by omega), upR_n _ (show o ≠ b by omega), upR_n _ (show o ≠ b + 1 by omega), upR_n _ (show o ≠ b + 2 by omega), upR_n _ (show o ≠ b + 3 by omega), upR_n _ (show o ≠ b + 4 by omega), upR_n _ (show o ≠ b + 5 by omega), upR_n _ (show o ≠ b + 6 by omega), upR_n _ (show o + 1 ≠ b by omega), upR_n _ (show o + 1 ≠ b + 1 by omega), upR_n _ (show o + 1 ≠ b + 2 by omega), upR_n _ (show o + 1 ≠ b + 3 by omega), upR_n _ (show o + 1 ≠ b + 4 by omega), upR_n _ (show o + 1 ≠ b + 5 by omega), upR_n _ (show o + 1 ≠ b + 6 by omega), upR_n _ (show o + 2 ≠ b by omega), upR_n _ (show o + 2 ≠ b + 1 by omega), upR_n _ (show o + 2 ≠ b + 2 by omega), upR_n _ (show o + 2 ≠ b + 3 by omega), upR_n _ (show o + 2 ≠ b + 4 by omega), upR_n _ (show o + 2 ≠ b + 5 by omega), upR_n _ (show o + 2 ≠ b + 6 by omega), upR_n _ (show o + 3 ≠ b by omega), upR_n _ (show o + 3 ≠ b + 1 by omega), upR_n _ (show o + 3 ≠ b + 2 by omega), upR_n _ (show o + 3 ≠ b + 3 by omega), upR_n _ (show o + 3 ≠ b + 4 by omega), upR_n _ (show o + 3 ≠ b + 5 by omega), upR_n _ (show o + 3 ≠ b + 6 by omega), upR_n _ (show o + 4 ≠ b by omega), upR_n _ (show o + 4 ≠ b + 1 by omega), upR_n _ (show o + 4 ≠ b + 2 by omega), upR_n _ (show o + 4 ≠ b + 3 by omega), upR_n _ (show o + 4 ≠ b + 4 by omega), upR_n _ (show o + 4 ≠ b + 5 by omega), upR_n _ (show o + 4 ≠ b + 6 by omega), upR_n _ (show o + 5 ≠ b by omega), upR_n _ (show o + 5 ≠ b + 1 by omega), upR_n _ (show o + 5 ≠ b + 2 by omega), upR_n _ (show o + 5 ≠ b + 3 by omega), upR_n _ (show o + 5 ≠ b + 4 by omega), upR_n _ (show o + 5 ≠ b + 5 by omega), upR_n _ (show o + 5 ≠ b + 6 by omega), upR_n _ (show o + 6 ≠ b by omega), upR_n _ (show o + 6 ≠ b + 1 by omega), upR_n _ (show o + 6 ≠ b + 2 by omega), upR_n _ (show o + 6 ≠ b + 3 by omega), upR_n _ (show o + 6 ≠ b + 4 by omega), upR_n _ (show o + 6 ≠ b + 5 by omega), upR_n _ (show o + 6 ≠ b + 6 by omega), upR_s, upR_u, ur_s, ur_n _ (show (0 : Int) ≠ 4 by omega), ur_n _ (show (0 : Int) ≠ 6 by omega), ur_n _ (show (4 : Int) ≠ 6 by omega)]
  · simp only [upR_n _ (show b ≠ b + 1 by omega), upR_n _ (show b ≠ b + 2 by omega), upR_n _ (show b ≠ b + 3 by omega), upR_n _ (show b ≠ b + 4 by omega), upR_n _ (show b ≠ b + 5 by omega), upR_n _ (show b ≠ b + 6 by omega), upR_n _ (show b + 1 ≠ b by omega), upR_n _ (show b + 1 ≠ b + 2 by omega), upR_n _ (show b + 1 ≠ b + 3 by omega), upR_n _ (show b + 1 ≠ b + 4 by omega), upR_n _ (show b + 1 ≠ b + 5 by omega), upR_n _ (show b + 1 ≠ b + 6 by omega), upR_n _ (show b + 2 ≠ b by omega), upR_n _ (show b + 2 ≠ b + 1 by omega), upR_n _ (show b + 2 ≠ b + 3 by omega), upR_n _ (show b + 2 ≠ b + 4 by omega), upR_n _ (show b + 2 ≠ b + 5 by omega), upR_n _ (show b + 2 ≠ b + 6 by omega), upR_n _ (show b + 3 ≠ b by omega), upR_n _ (show b + 3 ≠ b + 1 by omega), upR_n _ (show b + 3 ≠ b + 2 by omega), upR_n _ (show b + 3 ≠ b + 4 by omega), upR_n _ (show b + 3 ≠ b + 5 by omega), upR_n _ (show b + 3 ≠ b + 6 by omega), upR_n _ (show b + 4 ≠ b by omega), upR_n _ (show b + 4 ≠ b + 1 by omega), upR_n _ (show b + 4 ≠ b + 2 by omega), upR_n _ (show b + 4 ≠ b + 3 by omega), upR_n _ (show b + 4 ≠ b + 5 by omega), upR_n _ (show b + 4 ≠ b + 6 by omega), upR_n _ (show b + 5 ≠ b by omega), upR_n _ (show b + 5 ≠ b + 1 by omega), upR_n _ (show b + 5 ≠ b + 2 by omega), upR_n _ (show b + 5 ≠ b + 3 by omega), upR_n _ (show b + 5 ≠ b + 4 by omega), upR_n _ (show b + 5 ≠ b + 6 by omega), upR_n _ (show b + 6 ≠ b by omega), upR_n _ (show b + 6 ≠ b + 1 by omega), upR_n _ (show b + 6 ≠ b + 2 by omega), upR_n _ (show b + 6 ≠ b + 3 by omega), upR_n _ (show b + 6 ≠ b + 4 by omega), upR_n _ (show b + 6 ≠ b + 5 by omega), upR_n _ (show o ≠ b by omega), upR_n _ (show o ≠ b + 1 by omega), upR_n _ (show o ≠ b + 2 by omega), upR_n _ (show o ≠ b + 3 by omega), upR_n _ (show o ≠ b + 4 by omega), upR_n _ (show o ≠ b + 5 by omega), upR_n _ (show o ≠ b + 6 by omega), upR_n _ (show o + 1 ≠ b by omega), upR_n _ (show o + 1 ≠ b + 1 by omega), upR_n _ (show o + 1 ≠ b + 2 by omega), upR_n _ (show o + 1 ≠ b + 3 by omega), upR_n _ (show o + 1 ≠ b + 4 by omega), upR_n _ (show o + 1 ≠ b + 5 by omega), upR_n _ (show o + 1 ≠ b + 6 by omega), upR_n _ (show o + 2 ≠ b by omega), upR_n _ (show o + 2 ≠ b + 1 by omega), upR_n _ (show o + 2 ≠ b + 2 by omega), upR_n _ (show o + 2 ≠ b + 3 by omega), upR_n _ (show o + 2 ≠ b + 4 by omega), upR_n _ (show o + 2 ≠ b + 5 by omega), upR_n _ (show o + 2 ≠ b + 6 by omega), upR_n _ (show o + 3 ≠ b by omega), upR_n _ (show o + 3 ≠ b + 1 by omega), upR_n _ (show o + 3 ≠ b + 2 by omega), upR_n _ (show o + 3 ≠ b + 3 by omega), upR_n _ (show o + 3 ≠ b + 4 by omega), upR_n _ (show o + 3 ≠ b + 5 by omega), upR_n _ (show o + 3 ≠ b + 6 by omega), upR_n _ (show o + 4 ≠ b by omega), upR_n _ (show o + 4 ≠ b + 1 by omega), upR_n _ (show o + 4 ≠ b + 2 by omega), upR_n _ (show o + 4 ≠ b + 3 by omega), upR_n _ (show o + 4 ≠ b + 4 by omega), upR_n _ (show o + 4 ≠ b + 5 by omega), upR_n _ (show o + 4 ≠ b + 6 by omega), upR_n _ (show o + 5 ≠ b by omega), upR_n _ (show o + 5 ≠ b + 1 by omega), upR_n _ (show o + 5 ≠ b + 2 by omega), upR_n _ (show o + 5 ≠ b + 3 by omega), upR_n _ (show o + 5 ≠ b + 4 by omega), upR_n _ (show o + 5 ≠ b + 5 by omega), upR_n _ (show o + 5 ≠ b + 6 by omega), upR_n _ (show o + 6 ≠ b by omega), upR_n _ (show o + 6 ≠ b + 1 by omega), upR_n _ (show o + 6 ≠ b + 2 by omega), upR_n _ (show o + 6 ≠ b + 3 by omega), upR_n _ (show o + 6 ≠ b + 4 by omega), upR_n _ (show o + 6 ≠ b + 5 by omega), upR_n _ (show o + 6 ≠ b + 6 by omega), upR_s, upR_u, ur_s, ur_n _ (show (0 : Int) ≠ 4 by omega), ur_n _ (show (0 : Int) ≠ 6 by omega), ur_n _ (show (4 : Int) ≠ 6 by omega)]
  · simp only [upR_n _ (show b ≠ b + 1 by omega), upR_n _ (show b ≠ b + 2 by omega), upR_n _ (show b ≠ b + 3 by omega), upR_n _ (show b ≠ b + 4 by omega), upR_n _ (show b ≠ b + 5 by omega), upR_n _ (show b ≠ b + 6 by omega), upR_n _ (show b + 1 ≠ b by omega), upR_n _ (show b + 1 ≠ b + 2 by omega), upR_n _ (show b + 1 ≠ b + 3 by omega), upR_n _ (show b + 1 ≠ b + 4 by omega), upR_n _ (show b + 1 ≠ b + 5 by omega), upR_n _ (show b + 1 ≠ b + 6 by omega), upR_n _ (show b + 2 ≠ b by omega), upR_n _ (show b + 2 ≠ b + 1 by omega), upR_n _ (show b + 2 ≠ b + 3 by omega), upR_n _ (show b + 2 ≠ b + 4 by omega), upR_n _ (show b + 2 ≠ b + 5 by omega), upR_n _ (show b + 2 ≠ b + 6 by omega), upR_n _ (show b + 3 ≠ b by omega), upR_n _ (show b + 3 ≠ b + 1 by omega), upR_n _ (show b + 3 ≠ b + 2 by omega), upR_n _ (show b + 3 ≠ b + 4 by omega), upR_n _ (show b + 3 ≠ b + 5 by omega), upR_n _ (show b + 3 ≠ b + 6 by omega), upR_n _ (show b + 4 ≠ b by omega), upR_n _ (show b + 4 ≠ b + 1 by omega), upR_n _ (show b + 4 ≠ b + 2 by omega), upR_n _ (show b + 4 ≠ b + 3 by omega), upR_n _ (show b + 4 ≠ b + 5 by omega), upR_n _ (show b + 4 ≠ b + 6 by omega), upR_n _ (show b + 5 ≠ b by omega), upR_n _ (show b + 5 ≠ b + 1 by omega), upR_n _ (show b + 5 ≠ b + 2 by omega), upR_n _ (show b + 5 ≠ b + 3 by omega), upR_n _ (show b + 5 ≠ b + 4 by omega), upR_n _ (show b + 5 ≠ b + 6 by omega), upR_n _ (show b + 6 ≠ b by omega), upR_n _ (show b + 6 ≠ b + 1 by omega), upR_n _ (show b + 6 ≠ b + 2 by omega), upR_n _ (show b + 6 ≠ b + 3 by omega), upR_n _ (show b + 6 ≠ b + 4 by omega), upR_n _ (show b + 6 ≠ b + 5 by omega), upR_n _ (show o ≠ b by omega), upR_n _ (show o ≠ b + 1 by omega), upR_n _ (show o ≠ b + 2 by omega), upR_n _ (show o ≠ b + 3 by omega), upR_n _ (show o ≠ b + 4 by omega), upR_n _ (show o ≠ b + 5 by omega), upR_n _ (show o ≠ b + 6 by omega), upR_n _ (show o + 1 ≠ b by omega), upR_n _ (show o + 1 ≠ b + 1 by omega), upR_n _ (show o + 1 ≠ b + 2 by omega), upR_n _ (show o + 1 ≠ b + 3 by omega), upR_n _ (show o + 1 ≠ b + 4 by omega), upR_n _ (show o + 1 ≠ b + 5 by omega), upR_n _ (show o + 1 ≠ b + 6 by omega), upR_n _ (show o + 2 ≠ b by omega), upR_n _ (show o + 2 ≠ b + 1 by omega), upR_n _ (show o + 2 ≠ b + 2 by omega), upR_n _ (show o + 2 ≠ b + 3 by omega), upR_n _ (show o + 2 ≠ b + 4 by omega), upR_n _ (show o + 2 ≠ b + 5 by omega), upR_n _ (show o + 2 ≠ b + 6 by omega), upR_n _ (show o + 3 ≠ b by omega), upR_n _ (show o + 3 ≠ b + 1 by omega), upR_n _ (show o + 3 ≠ b + 2 by omega), upR_n _ (show o + 3 ≠ b + 3 by omega), upR_n _ (show o + 3 ≠ b + 4 by omega), upR_n _ (show o + 3 ≠ b + 5 by omega), upR_n _ (show o + 3 ≠ b + 6 by omega), upR_n _ (show o + 4 ≠ b by omega), upR_n _ (show o + 4 ≠ b + 1 by omega), upR_n _ (show o + 4 ≠ b + 2 by omega), upR_n _ (show o + 4 ≠ b + 3 by omega), upR_n _ (show o + 4 ≠ b + 4 by omega), upR_n _ (show o + 4 ≠ b + 5 by omega), upR_n _ (show o + 4 ≠ b + 6 by omega), upR_n _ (show o + 5 ≠ b by omega), upR_n _ (show o + 5 ≠ b + 1 by omega), upR_n _ (show o + 5 ≠ b + 2 by omega), upR_n _ (show o + 5 ≠ b + 3 by omega), upR_n _ (show o + 5 ≠ b + 4 by omega), upR_n _ (show o + 5 ≠ b + 5 by omega), upR_n _ (show o + 5 ≠ b + 6 by omega), upR_n _ (show o + 6 ≠ b by omega), upR_n _ (show o + 6 ≠ b + 1 by omega), upR_n _ (show o + 6 ≠ b + 2 by omega), upR_n _ (show o + 6 ≠ b + 3 by omega), upR_n _ (show o + 6 ≠ b + 4 by omega), upR_n _ (show o + 6 ≠ b + 5 by omega), upR_n _ (show o + 6 ≠ b + 6 by omega), upR_s]
  · simp only [upR_n _ (show b ≠ b + 1 by omega), upR_n _ (show b ≠ b + 2 by omega), upR_n _ (show b ≠ b + 3 by omega), upR_n _ (show b ≠ b + 4 by omega), upR_n _ (show b ≠ b + 5 by omega), upR_n _ (show b ≠ b + 6 by omega), upR_n _ (show b + 1 ≠ b by omega), upR_n _ (show b + 1 ≠ b + 2 by omega), upR_n _ (show b + 1 ≠ b + 3 by omega), upR_n _ (show b + 1 ≠ b + 4 by omega), upR_n _ (show b + 1 ≠ b + 5 by omega), upR_n _ (show b + 1 ≠ b + 6 by omega), upR_n _ (show b + 2 ≠ b by omega), upR_n _ (show b + 2 ≠ b + 1 by omega), upR_n _ (show b + 2 ≠ b + 3 by omega), upR_n _ (show b + 2 ≠ b + 4 by omega), upR_n _ (show b + 2 ≠ b + 5 by omega), upR_n _ (show b + 2 ≠ b + 6 by omega), upR_n _ (show b + 3 ≠ b by omega), upR_n _ (show b + 3 ≠ b + 1 by omega), upR_n _ (show b + 3 ≠ b + 2 by omega), upR_n _ (show b + 3 ≠ b + 4 by omega), upR_n _ (show b + 3 ≠ b + 5 by omega), upR_n _ (show b + 3 ≠ b + 6 by omega), upR_n _ (show b + 4 ≠ b by omega), upR_n _ (show b + 4 ≠ b + 1 by omega), upR_n _ (show b + 4 ≠ b + 2 by omega), upR_n _ (show b + 4 ≠ b + 3 by omega), upR_n _ (show b + 4 ≠ b + 5 by omega), upR_n _ (show b + 4 ≠ b + 6 by omega), upR_n _ (show b + 5 ≠ b by omega), upR_n _ (show b + 5 ≠ b + 1 by omega), upR_n _ (show b + 5 ≠ b + 2 by omega), upR_n _ (show b + 5 ≠ b + 3 by omega), upR_n _ (show b + 5 ≠ b + 4 by omega), upR_n _ (show b + 5 ≠ b + 6 by omega), upR_n _ (show b + 6 ≠ b by omega), upR_n _ (show b + 6 ≠ b + 1 by omega), upR_n _ (show b + 6 ≠ b + 2 by omega), upR_n _ (show b + 6 ≠ b + 3 by omega), upR_n _ (show b + 6 ≠ b + 4 by omega), upR_n _ (show b + 6 ≠ b + 5 by omega), upR_n _ (show o ≠ b by omega), upR_n _ (show o ≠ b + 1 by omega), upR_n _ (show o ≠ b + 2 by omega), upR_n _ (show o ≠ b + 3 by omega), upR_n _ (show o ≠ b + 4 by omega), upR_n _ (show o ≠ b + 5 by omega), upR_n _ (show o ≠ b + 6 by omega), upR_n _ (show o + 1 ≠ b by omega), upR_n _ (show o + 1 ≠ b + 1 by omega), upR_n _ (show o + 1 ≠ b + 2 by omega), upR_n _ (show o + 1 ≠ b + 3 by omega), upR_n _ (show o + 1 ≠ b + 4 by omega), upR_n _ (show o + 1 ≠ b + 5 by omega), upR_n _ (show o + 1 ≠ b + 6 by omega), upR_n _ (show o + 2 ≠ b by omega), upR_n _ (show o + 2 ≠ b + 1 by omega), upR_n _ (show o + 2 ≠ b + 2 by omega), upR_n _ (show o + 2 ≠ b + 3 by omega), upR_n _ (show o + 2 ≠ b + 4 by omega), upR_n _ (show o + 2 ≠ b + 5 by omega), upR_n _ (show o + 2 ≠ b + 6 by omega), upR_n _ (show o + 3 ≠ b by omega), upR_n _ (show o + 3 ≠ b + 1 by omega), upR_n _ (show o + 3 ≠ b + 2 by omega), upR_n _ (show o + 3 ≠ b + 3 by omega), upR_n _ (show o + 3 ≠ b + 4 by omega), upR_n _ (show o + 3 ≠ b + 5 by omega), upR_n _ (show o + 3 ≠ b + 6 by omega), upR_n _ (show o + 4 ≠ b by omega), upR_n _ (show o + 4 ≠ b + 1 by omega), upR_n _ (show o + 4 ≠ b + 2 by omega), upR_n _ (show o + 4 ≠ b + 3 by omega), upR_n _ (show o + 4 ≠ b + 4 by omega), upR_n _ (show o + 4 ≠ b + 5 by omega), upR_n _ (show o + 4 ≠ b + 6 by omega), upR_n _ (show o + 5 ≠ b by omega), upR_n _ (show o + 5 ≠ b + 1 by omega), upR_n _ (show o + 5 ≠ b + 2 by omega), upR_n _ (show o + 5 ≠ b + 3 by omega), upR_n _ (show o + 5 ≠ b + 4 by omega), upR_n _ (show o + 5 ≠ b + 5 by omega), upR_n _ (show o + 5 ≠ b + 6 by omega), upR_n _ (show o + 6 ≠ b by omega), upR_n _ (show o + 6 ≠ b + 1 by omega), upR_n _ (show o + 6 ≠ b + 2 by omega), upR_n _ (show o + 6 ≠ b + 3 by omega), upR_n _ (show o + 6 ≠ b + 4 by omega), upR_n _ (show o + 6 ≠ b + 5 by omega), upR_n _ (show o + 6 ≠ b + 6 by omega), upR_s]
  · simp only [upR_n _ (show b ≠ b + 1 by omega), upR_n _ (show b ≠ b + 2 by omega), upR_n _ (show b ≠ b + 3 by omega), upR_n _ (show b ≠ b + 4 by omega), upR_n _ (show b ≠ b + 5 by omega), upR_n _ (show b ≠ b + 6 by omega), upR_n _ (show b + 1 ≠ b by omega), upR_n _ (show b + 1 ≠ b + 2 by omega), upR_n _ (show b + 1 ≠ b + 3 by omega), upR_n _ (show b + 1 ≠ b + 4 by omega), upR_n _ (show b + 1 ≠ b + 5 by omega), upR_n _ (show b + 1 ≠ b + 6 by omega), upR_n _ (show b + 2 ≠ b by omega), upR_n _ (show b + 2 ≠ b + 1 by omega), upR_n _ (show b + 2 ≠ b + 3 by omega), upR_n _ (show b + 2 ≠ b + 4 by omega), upR_n _ (show b + 2 ≠ b + 5 by omega), upR_n _ (show b + 2 ≠ b + 6 by omega), upR_n _ (show b + 3 ≠ b by omega), upR_n _ (show b + 3 ≠ b + 1 by omega), upR_n _ (show b + 3 ≠ b + 2 by omega), upR_n _ (show b + 3 ≠ b + 4 by omega), upR_n _ (show b + 3 ≠ b + 5 by omega), upR_n _ (show b + 3 ≠ b + 6 by omega), upR_n _ (show b + 4 ≠ b by omega), upR_n _ (show b + 4 ≠ b + 1 by omega), upR_n _ (show b + 4 ≠ b + 2 by omega), upR_n _ (show b + 4 ≠ b + 3 by omega), upR_n _ (show b + 4 ≠ b + 5 by omega), upR_n _ (show b + 4 ≠ b + 6 by omega), upR_n _ (show b + 5 ≠ b by omega), upR_n _ (show b + 5 ≠ b + 1 by omega), upR_n _ (show b + 5 ≠ b + 2 by omega), upR_n _ (show b + 5 ≠ b + 3 by omega), upR_n _ (show b + 5 ≠ b + 4 by omega), upR_n _ (show b + 5 ≠ b + 6 by omega), upR_n _ (show b + 6 ≠ b by omega), upR_n _ (show b + 6 ≠ b + 1 by omega), upR_n _ (show b + 6 ≠ b + 2 by omega), upR_n _ (show b + 6 ≠ b + 3 by omega), upR_n _ (show b + 6 ≠ b + 4 by omega), upR_n _ (show b + 6 ≠ b + 5 by omega), upR_n _ (show o ≠ b by omega), upR_n _ (show o ≠ b + 1 by omega), upR_n _ (show o ≠ b + 2 by omega), upR_n _ (show o ≠ b + 3 by omega), upR_n _ (show o ≠ b + 4 by omega), upR_n _ (show o ≠ b + 5 by omega), upR_n _ (show o ≠ b + 6 by omega), upR_n _ (show o + 1 ≠ b by omega), upR_n _ (show o + 1 ≠ b + 1 by omega), upR_n _ (show o + 1 ≠ b + 2 by omega), upR_n _ (show o + 1 ≠ b + 3 by omega), upR_n _ (show o + 1 ≠ b + 4 by omega), upR_n _ (show o + 1 ≠ b + 5 by omega), upR_n _ (show o + 1 ≠ b + 6 by omega), upR_n _ (show o + 2 ≠ b by omega), upR_n _ (show o + 2 ≠ b + 1 by omega), upR_n _ (show o + 2 ≠ b + 2 by omega), upR_n _ (show o + 2 ≠ b + 3 by omega), upR_n _ (show o + 2 ≠ b + 4 by omega), upR_n _ (show o + 2 ≠ b + 5 by omega), upR_n _ (show o + 2 ≠ b + 6 by omega), upR_n _ (show o + 3 ≠ b by omega), upR_n _ (show o + 3 ≠ b + 1 by omega), upR_n _ (show o + 3 ≠ b + 2 by omega), upR_n _ (show o + 3 ≠ b + 3 by omega), upR_n _ (show o + 3 ≠ b + 4 by omega), upR_n _ (show o + 3 ≠ b + 5 by omega), upR_n _ (show o + 3 ≠ b + 6 by omega), upR_n _ (show o + 4 ≠ b by omega), upR_n _ (show o + 4 ≠ b + 1 by omega), upR_n _ (show o + 4 ≠ b + 2 by omega), upR_n _ (show o + 4 ≠ b + 3 by omega), upR_n _ (show o + 4 ≠ b + 4 by omega), upR_n _ (show o + 4 ≠ b + 5 by omega), upR_n _ (show o + 4 ≠ b + 6 by omega), upR_n _ (show o + 5 ≠ b by omega), upR_n _ (show o + 5 ≠ b + 1 by omega), upR_n _ (show o + 5 ≠ b + 2 by omega), upR_n _ (show o + 5 ≠ b + 3 by omega), upR_n _ (show o + 5 ≠ b + 4 by omega), upR_n _ (show o + 5 ≠ b + 5 by omega), upR_n _ (show o + 5 ≠ b + 6 by omega), upR_n _ (show o + 6 ≠ b by omega), upR_n _ (show o + 6 ≠ b + 1 by omega), upR_n _ (show o + 6 ≠ b + 2 by omega), upR_n _ (show o + 6 ≠ b + 3 by omega), upR_n _ (show o + 6 ≠ b + 4 by omega), upR_n _ (show o + 6 ≠ b + 5 by omega), upR_n _ (show o + 6 ≠ b + 6 by omega), upR_s]
  · simp only [upR_n _ (show b ≠ b + 1 by omega), upR_n _ (show b ≠ b + 2 by omega), upR_n _ (show b ≠ b + 3 by omega), upR_n _ (show b ≠ b + 4 by omega), upR_n _ (show b ≠ b + 5 by omega), upR_n _ (show b ≠ b + 6 by omega), upR_n _ (show b + 1 ≠ b by omega), upR_n _ (show b + 1 ≠ b + 2 by omega), upR_n _ (show b + 1 ≠ b + 3 by omega), upR_n _ (show b + 1 ≠ b + 4 by omega), upR_n _ (show b + 1 ≠ b + 5 by omega), upR_n _ (show b + 1 ≠ b + 6 by omega), upR_n _ (show b + 2 ≠ b by omega), upR_n _ (show b + 2 ≠ b + 1 by omega), upR_n _ (show b + 2 ≠ b + 3 by omega), upR_n _ (show b + 2 ≠ b + 4 by omega), upR_n _ (show b + 2 ≠ b + 5 by omega), upR_n _ (show b + 2 ≠ b + 6 by omega), upR_n _ (show b + 3 ≠ b by omega), upR_n _ (show b + 3 ≠ b + 1 by omega), upR_n _ (show b + 3 ≠ b + 2 by omega), upR_n _ (show b + 3 ≠ b + 4 by omega), upR_n _ (show b + 3 ≠ b + 5 by omega), upR_n _ (show b + 3 ≠ b + 6 by omega), upR_n _ (show b + 4 ≠ b by omega), upR_n _ (show b + 4 ≠ b + 1 by omega), upR_n _ (show b + 4 ≠ b + 2 by omega), upR_n _ (show b + 4 ≠ b + 3 by omega), upR_n _ (show b + 4 ≠ b + 5 by omega), upR_n _ (show b + 4 ≠ b + 6 by omega), upR_n _ (show b + 5 ≠ b by omega), upR_n _ (show b + 5 ≠ b + 1 by omega), upR_n _ (show b + 5 ≠ b + 2 by omega), upR_n _ (show b + 5 ≠ b + 3 by omega), upR_n _ (show b + 5 ≠ b + 4 by omega), upR_n _ (show b + 5 ≠ b + 6 by omega), upR_n _ (show b + 6 ≠ b by omega), upR_n _ (show b + 6 ≠ b + 1 by omega), upR_n _ (show b + 6 ≠ b + 2 by omega), upR_n _ (show b + 6 ≠ b + 3 by omega), upR_n _ (show b + 6 ≠ b + 4 by omega), upR_n _ (show b + 6 ≠ b + 5 by omega), upR_n _ (show o ≠ b by omega), upR_n _ (show o ≠ b + 1 by omega), upR_n _ (show o ≠ b + 2 by omega), upR_n _ (show o ≠ b + 3 by omega), upR_n _ (show o ≠ b + 4 by omega), upR_n _ (show o ≠ b + 5 by omega), upR_n _ (show o ≠ b + 6 by omega), upR_n _ (show o + 1 ≠ b by omega), upR_n _ (show o + 1 ≠ b + 1 by omega), upR_n _ (show o + 1 ≠ b + 2 by omega), upR_n _ (show o + 1 ≠ b + 3 by omega), upR_n _ (show o + 1 ≠ b + 4 by omega), upR_n _ (show o + 1 ≠ b + 5 by omega), upR_n _ (show o + 1 ≠ b + 6 by omega), upR_n _ (show o + 2 ≠ b by omega), upR_n _ (show o + 2 ≠ b + 1 by omega), upR_n _ (show o + 2 ≠ b + 2 by omega), upR_n _ (show o + 2 ≠ b + 3 by omega), upR_n _ (show o + 2 ≠ b + 4 by omega), upR_n _ (show o + 2 ≠ b + 5 by omega), upR_n _ (show o + 2 ≠ b + 6 by omega), upR_n _ (show o + 3 ≠ b by omega), upR_n _ (show o + 3 ≠ b + 1 by omega), upR_n _ (show o + 3 ≠ b + 2 by omega), upR_n _ (show o + 3 ≠ b + 3 by omega), upR_n _ (show o + 3 ≠ b + 4 by omega), upR_n _ (show o + 3 ≠ b + 5 by omega), upR_n _ (show o + 3 ≠ b + 6 by omega), upR_n _ (show o + 4 ≠ b by omega), upR_n _ (show o + 4 ≠ b + 1 by omega), upR_n _ (show o + 4 ≠ b + 2 by omega), upR_n _ (show o + 4 ≠ b + 3 by omega), upR_n _ (show o + 4 ≠ b + 4 by omega), upR_n _ (show o + 4 ≠ b + 5 by omega), upR_n _ (show o + 4 ≠ b + 6 by omega), upR_n _ (show o + 5 ≠ b by omega), upR_n _ (show o + 5 ≠ b + 1 by omega), upR_n _ (show o + 5 ≠ b + 2 by omega), upR_n _ (show o + 5 ≠ b + 3 by omega), upR_n _ (show o + 5 ≠ b + 4 by omega), upR_n _ (show o + 5 ≠ b + 5 by omega), upR_n _ (show o + 5 ≠ b + 6 by omega), upR_n _ (show o + 6 ≠ b by omega), upR_n _ (show o + 6 ≠ b + 1 by omega), upR_n _ (show o + 6 ≠ b + 2 by omega), upR_n _ (show o + 6 ≠ b + 3 by omega), upR_n _ (show o + 6 ≠ b + 4 by omega), upR_n _ (show o + 6 ≠ b + 5 by omega), upR_n _ (show o + 6 ≠ b + 6 by omega), upR_s]
  · simp only [upR_n _ (show b ≠ b + 1 by omega), upR_n _ (show b ≠ b + 2 by omega), upR_n _ (show b ≠ b + 3 by omega), upR_n _ (show b ≠ b + 4 by omega), upR_n _ (show b ≠ b + 5 by omega), upR_n _ (show b ≠ b + 6 by omega), upR_n _ (show b + 1 ≠ b by omega), upR_n _ (show b + 1 ≠ b + 2 by omega), upR_n _ (show b + 1 ≠ b + 3 by omega), upR_n _ (show b + 1 ≠ b + 4 by omega), upR_n _ (show b + 1 ≠ b + 5 by omega), upR_n _ (show b + 1 ≠ b + 6 by omega), upR_n _ (show b + 2 ≠ b by omega), upR_n _ (show b + 2 ≠ b + 1 by omega), upR_n _ (show b + 2 ≠ b + 3 by omega), upR_n _ (show b + 2 ≠ b + 4 by omega), upR_n _ (show b + 2 ≠ b + 5 by omega), upR_n _ (show b + 2 ≠ b + 6 by omega), upR_n _ (show b + 3 ≠ b by omega), upR_n _ (show b + 3 ≠ b + 1 by omega), upR_n _ (show b + 3 ≠ b + 2 by omega), upR_n _ (show b + 3 ≠ b + 4 by omega), upR_n _ (show b + 3 ≠ b + 5 by omega), upR_n _ (show b + 3 ≠ b + 6 by omega), upR_n _ (show b + 4 ≠ b by omega), upR_n _ (show b + 4 ≠ b + 1 by omega), upR_n _ (show b + 4 ≠ b + 2 by omega), upR_n _ (show b + 4 ≠ b + 3 by omega), upR_n _ (show b + 4 ≠ b + 5 by omega), upR_n _ (show b + 4 ≠ b + 6 by omega), upR_n _ (show b + 5 ≠ b by omega), upR_n _ (show b + 5 ≠ b + 1 by omega), upR_n _ (show b + 5 ≠ b + 2 by omega), upR_n _ (show b + 5 ≠ b + 3 by omega), upR_n _ (show b + 5 ≠ b + 4 by omega), upR_n _ (show b + 5 ≠ b + 6 by omega), upR_n _ (show b + 6 ≠ b by omega), upR_n _ (show b + 6 ≠ b + 1 by omega), upR_n _ (show b + 6 ≠ b + 2 by omega), upR_n _ (show b + 6 ≠ b + 3 by omega), upR_n _ (show b + 6 ≠ b + 4 by omega), upR_n _ (show b + 6 ≠ b + 5 by omega), upR_n _ (show o ≠ b by omega), upR_n _ (show o ≠ b + 1 by omega), upR_n _ (show o ≠ b + 2 by omega), upR_n _ (show o ≠ b + 3 by omega), upR_n _ (show o ≠ b + 4 by omega), upR_n _ (show o ≠ b + 5 by omega), upR_n _ (show o ≠ b + 6 by omega), upR_n _ (show o + 1 ≠ b by omega), upR_n _ (show o + 1 ≠ b + 1 by omega), upR_n _ (show o + 1 ≠ b + 2 by omega), upR_n _ (show o + 1 ≠ b + 3 by omega), upR_n _ (show o + 1 ≠ b + 4 by omega), upR_n _ (show o + 1 ≠ b + 5 by omega), upR_n _ (show o + 1 ≠ b + 6 by omega), upR_n _ (show o + 2 ≠ b by omega), upR_n _ (show o + 2 ≠ b + 1 by omega), upR_n _ (show o + 2 ≠ b + 2 by omega), upR_n _ (show o + 2 ≠ b + 3 by omega), upR_n _ (show o + 2 ≠ b + 4 by omega), upR_n _ (show o + 2 ≠ b + 5 by omega), upR_n _ (show o + 2 ≠ b + 6 by omega), upR_n _ (show o + 3 ≠ b by omega), upR_n _ (show o + 3 ≠ b + 1 by omega), upR_n _ (show o + 3 ≠ b + 2 by omega), upR_n _ (show o + 3 ≠ b + 3 by omega), upR_n _ (show o + 3 ≠ b + 4 by omega), upR_n _ (show o + 3 ≠ b + 5 by omega), upR_n _ (show o + 3 ≠ b + 6 by omega), upR_n _ (show o + 4 ≠ b by omega), upR_n _ (show o + 4 ≠ b + 1 by omega), upR_n _ (show o + 4 ≠ b + 2 by omega), upR_n _ (show o + 4 ≠ b + 3 by omega), upR_n _ (show o + 4 ≠ b + 4 by omega), upR_n _ (show o + 4 ≠ b + 5 by omega), upR_n _ (show o + 4 ≠ b + 6 by omega), upR_n _ (show o + 5 ≠ b by omega), upR_n _ (show o + 5 ≠ b + 1 by omega), upR_n _ (show o + 5 ≠ b + 2 by omega), upR_n _ (show o + 5 ≠ b + 3 by omega), upR_n _ (show o + 5 ≠ b + 4 by omega), upR_n _ (show o + 5 ≠ b + 5 by omega), upR_n _ (show o + 5 ≠ b + 6 by omega), upR_n _ (show o + 6 ≠ b by omega), upR_n _ (show o + 6 ≠ b + 1 by omega), upR_n _ (show o + 6 ≠ b + 2 by omega), upR_n _ (show o + 6 ≠ b + 3 by omega), upR_n _ (show o + 6 ≠ b + 4 by omega), upR_n _ (show o + 6 ≠ b + 5 by omega), upR_n _ (show o + 6 ≠ b + 6 by omega), upR_s]
  · simp only [upR_n _ (show b ≠ b + 1 by omega), upR_n _ (show b ≠ b + 2 by omega), upR_n _ (show b ≠ b + 3 by omega), upR_n _ (show b ≠ b + 4 by omega), upR_n _ (show b ≠ b + 5 by omega), upR_n _ (show b ≠ b + 6 by omega), upR_n _ (show b + 1 ≠ b by omega), upR_n _ (show b + 1 ≠ b + 2 by omega), upR_n _ (show b + 1 ≠ b + 3 by omega), upR_n _ (show b + 1 ≠ b + 4 by omega), upR_n _ (show b + 1 ≠ b + 5 by omega), upR_n _ (show b + 1 ≠ b + 6 by omega), upR_n _ (show b + 2 ≠ b by omega), upR_n _ (show b + 2 ≠ b + 1 by omega), upR_n _ (show b + 2 ≠ b + 3 by omega), upR_n _ (show b + 2 ≠ b + 4 by omega), upR_n _ (show b + 2 ≠ b + 5 by omega), upR_n _ (show b + 2 ≠ b + 6 by omega), upR_n _ (show b + 3 ≠ b by omega), upR_n _ (show b + 3 ≠ b + 1 by omega), upR_n _ (show b + 3 ≠ b + 2 by omega), upR_n _ (show b + 3 ≠ b + 4 by omega), upR_n _ (show b + 3 ≠ b + 5 by omega), upR_n _ (show b + 3 ≠ b + 6 by omega), upR_n _ (show b + 4 ≠ b by omega), upR_n _ (show b + 4 ≠ b + 1 by omega), upR_n _ (show b + 4 ≠ b + 2 by omega), upR_n _ (show b + 4 ≠ b + 3 by omega), upR_n _ (show b + 4 ≠ b + 5 by omega), upR_n _ (show b + 4 ≠ b + 6 by omega), upR_n _ (show b + 5 ≠ b by omega), upR_n _ (show b + 5 ≠ b + 1 by omega), upR_n _ (show b + 5 ≠ b + 2 by omega), upR_n _ (show b + 5 ≠ b + 3 by omega), upR_n _ (show b + 5 ≠ b + 4 by omega), upR_n _ (show b + 5 ≠ b + 6 by omega), upR_n _ (show b + 6 ≠ b by omega), upR_n _ (show b + 6 ≠ b + 1 by omega), upR_n _ (show b + 6 ≠ b + 2 by omega), upR_n _ (show b + 6 ≠ b + 3 by omega), upR_n _ (show b + 6 ≠ b + 4 by omega), upR_n _ (show b + 6 ≠ b + 5 by omega), upR_n _ (show o ≠ b by omega), upR_n _ (show o ≠ b + 1 by omega), upR_n _ (show o ≠ b + 2 by omega), upR_n _ (show o ≠ b + 3 by omega), upR_n _ (show o ≠ b + 4 by omega), upR_n _ (show o ≠ b + 5 by omega), upR_n _ (show o ≠ b + 6 by omega), upR_n _ (show o + 1 ≠ b by omega), upR_n _ (show o + 1 ≠ b + 1 by omega), upR_n _ (show o + 1 ≠ b + 2 by omega), upR_n _ (show o + 1 ≠ b + 3 by omega), upR_n _ (show o + 1 ≠ b + 4 by omega), upR_n _ (show o + 1 ≠ b + 5 by omega), upR_n _ (show o + 1 ≠ b + 6 by omega), upR_n _ (show o + 2 ≠ b by omega), upR_n _ (show o + 2 ≠ b + 1 by omega), upR_n _ (show o + 2 ≠ b + 2 by omega), upR_n _ (show o + 2 ≠ b + 3 by omega), upR_n _ (show o + 2 ≠ b + 4 by omega), upR_n _ (show o + 2 ≠ b + 5 by omega), upR_n _ (show o + 2 ≠ b + 6 by omega), upR_n _ (show o + 3 ≠ b by omega), upR_n _ (show o + 3 ≠ b + 1 by omega), upR_n _ (show o + 3 ≠ b + 2 by omega), upR_n _ (show o + 3 ≠ b + 3 by omega), upR_n _ (show o + 3 ≠ b + 4 by omega), upR_n _ (show o + 3 ≠ b + 5 by omega), upR_n _ (show o + 3 ≠ b + 6 by omega), upR_n _ (show o + 4 ≠ b by omega), upR_n _ (show o + 4 ≠ b + 1 by omega), upR_n _ (show o + 4 ≠ b + 2 by omega), upR_n _ (show o + 4 ≠ b + 3 by omega), upR_n _ (show o + 4 ≠ b + 4 by omega), upR_n _ (show o + 4 ≠ b + 5 by omega), upR_n _ (show o + 4 ≠ b + 6 by omega), upR_n _ (show o + 5 ≠ b by omega), upR_n _ (show o + 5 ≠ b + 1 by omega), upR_n _ (show o + 5 ≠ b + 2 by omega), upR_n _ (show o + 5 ≠ b + 3 by omega), upR_n _ (show o + 5 ≠ b + 4 by omega), upR_n _ (show o + 5 ≠ b + 5 by omega), upR_n _ (show o + 5 ≠ b + 6 by omega), upR_n _ (show o + 6 ≠ b by omega), upR_n _ (show o + 6 ≠ b + 1 by omega), upR_n _ (show o + 6 ≠ b + 2 by omega), upR_n _ (show o + 6 ≠ b + 3 by omega), upR_n _ (show o + 6 ≠ b + 4 by omega), upR_n _ (show o + 6 ≠ b + 5 by omega), upR_n _ (show o + 6 ≠ b + 6 by omega), upR_s]
  · simp only [upR_n _ (show k ≠ b by omega), upR_n _ (show k ≠ b + 1 by omega), upR_n _ (show k ≠ b + 2 by omega), upR_n _ (show k ≠ b + 3 by omega), upR_n _ (show k ≠ b + 4 by omega), upR_n _ (show k ≠ b + 5 by omega), upR_n _ (show k ≠ b + 6 by omega)]

theorem c_handBecome {g : GC} {b o : Nat} {V : MM} (hb : isB b) (ho : isB o) (hne : b ≠ o) : Ct g mX1_become 2 [vr b, vr o] V (RV (fun V' => snC V' b = snC V o ∧ Sm V V' b 7)) :=
  (c_handBecomeM hb ho hne).mono (fun r V' h => by
    obtain ⟨rfl, a0, a4, a6, a1, a2, a3, b4, a5, b6, hS⟩ := h
    refine ⟨rfl, ?_, hS⟩
    show (V' b 0, V' (b + 1), V' (b + 2), V' (b + 3), V' b 4, V' (b + 4), V' b 6, V' (b + 5), V' (b + 6)) = _
    rw [a0, a1, a2, a3, a4, b4, a6, a5, b6])

/-- behind one more row: the first place of the book that is otherwise -/
def lokS (wa : Int → Int) (who wh : Int → Int) : Nat → Int → Int
  | 0, _ => -5
  | n + 1, i => if wa (8 * who i) = wh i then lokS wa who wh n (i + 1) else i

theorem look_loop {g : GC} {X : CX} {Q : Option AV → MM → Prop} {b f : Nat} {V : MM} {xf : Int} (hb : isB b) (hf : isF f) (hn : 0 ≤ V f 0 ∧ V f 0 ≤ 6) (hwa : ∀ i : Int, 0 ≤ i ∧ i < 48 → 0 ≤ V (f + 4) i ∧ V (f + 4) i < 99) (hr : 0 ≤ V b 6 ∧ V b 6 ≤ 8) (hbk : ∀ i, 0 ≤ i ∧ i < V b 6 → (0 ≤ V (b + 5) i ∧ V (b + 5) i < V f 0) ∧ (0 ≤ V (b + 6) i ∧ V (b + 6) i ≤ 98)) (hz : Fi g X (some .int) Q) (hD : Dp X 3) (hQ : Q (some (vi xf)) V) : ∀ (n : Nat) (i : Int), 0 ≤ i → i + n = V b 6 → lokS (V (f + 4)) (V (b + 5)) (V (b + 6)) n i = xf → SW g X RX1 cX1_firstWrongRow 2 [some (vr b), some (vr f), some (vi i)] [] V := by
  intro n
  induction n with
  | zero =>
    intro i h0 h1 hx
    unfold lokS at hx
    subst hx
    refine S_il2 qX1_firstWrongRow_2 ?_
    refine S_al0 qX1_firstWrongRow_3 ?_
    refine S_getI qX1_firstWrongRow_4 fX1_43 (B_6 hb) ?_
    refine S_icmp_ge (d := qX1_firstWrongRow_7) (kt := fun c7 => ?_) (kf := fun c7 => ?_)
    rotate_left
    · omega
    refine S_bipush (d := qX1_firstWrongRow_38) (k := ?_)
    refine S_iret hz qX1_firstWrongRow_40 ?_
    exact hQ
  | succ n ih =>
    intro i h0 h1 hx
    unfold lokS at hx
    have w1 := hbk i (by omega)
    have w2 := hwa (8 * V (b + 5) i) (by omega)
    refine S_il2 qX1_firstWrongRow_2 ?_
    refine S_al0 qX1_firstWrongRow_3 ?_
    refine S_getI qX1_firstWrongRow_4 fX1_43 (B_6 hb) ?_
    refine S_icmp_ge (d := qX1_firstWrongRow_7) (kt := fun c7 => ?_) (kf := fun c7 => ?_)
    · omega
    refine S_al1 qX1_firstWrongRow_10 ?_
    refine S_al0 qX1_firstWrongRow_11 ?_
    refine S_getR qX1_firstWrongRow_12 fX1_24 (B_7 hb) ?_
    refine S_il2 qX1_firstWrongRow_15 ?_
    refine S_iald qX1_firstWrongRow_16 (Ba_5 hb) (K := ?_)
    refine S_iconst qX1_firstWrongRow_17 ?_
    refine S_V2E hD qX1_firstWrongRow_18 lX1_46 vX2_wasOf (F_r hf) (c_was0 hf (by omega) (by omega)) (K := ?_)
    refine S_al0 qX1_firstWrongRow_21 ?_
    refine S_getR qX1_firstWrongRow_22 fX1_27 (B_8 hb) ?_
    refine S_il2 qX1_firstWrongRow_25 ?_
    refine S_iald qX1_firstWrongRow_26 (Ba_6 hb) (K := ?_)
    refine S_icmp_eq (d := qX1_firstWrongRow_27) (kt := fun c27 => ?_) (kf := fun c27 => ?_)
    · refine S_inc2 qX1_firstWrongRow_32 (K := ?_)
      refine S_goto qX1_firstWrongRow_35 ?_
      rw [if_pos c27] at hx
      exact ih (i + 1) (by omega) (by omega) hx
    · refine S_il2 qX1_firstWrongRow_30 ?_
      refine S_iret hz qX1_firstWrongRow_31 ?_
      rw [if_neg c27] at hx
      subst hx
      exact hQ
theorem c_firstWrongRow {g : GC} {b f : Nat} {V : MM} {hs : HS} {s : FS} (hb : isB b) (hF : FlC V f hs s) (hN : NInv s.1 (snC V b)) : Ct g mX1_firstWrongRow 3 [vr b, vr f] V (RE V (lokS s.2.2.2.2.2.1 (V (b + 5)) (V (b + 6)) (V b 6).toNat 0)) := by
  refine Ct.of (ls := [some (vr b), some (vr f), none]) (plainFor_of_name (by decide +kernel)) rfl (by exact Nat.le_of_ble_eq_true rfl) (fun X hz hD => ?_)
  obtain ⟨hf, rfl, hn, hb2, hkv, hfo, hwa, hro, hH, hh0, rfl⟩ := hF.facts
  have hw := hH.2.1
  have hwa9 : ∀ i : Int, 0 ≤ i ∧ i < 48 → 0 ≤ V (f + 4) i ∧ V (f + 4) i < 99 := fun i hi => by have := hwa i hi; omega
  obtain ⟨-, -, -, -, hr, hbk⟩ := hN
  replace hr : 0 ≤ V b 6 ∧ V b 6 ≤ 8 := hr
  refine S_iconst qX1_firstWrongRow_0 ?_
  refine S_is2 qX1_firstWrongRow_1 (K := ?_)
  exact look_loop hb hf hn hwa9 hr hbk hz hD ⟨rfl, rfl⟩ (V b 6).toNat 0 (by omega) (by omega) rfl
end
section
def seeB (N : SN) (k : Int) (s : FS) : Bool := allN (fun i => decide (N.2.2.2.1 i = k → s.2.2.2.2.2.1 (8 * N.2.1 i) = N.2.2.1 i)) N.1.toNat
def seeS (hs : HS) (N : SN) : Nat → Int → FS → Bool
  | 0, _, _ => true
  | n + 1, k, s => seeB N k s && seeS hs N n (k + 1) (goS hs false s)
def rouL (n : Int) (fo : Int → Int) (m : Int) : Int → Int := fun i => if 0 ≤ i ∧ i < m then (if i + 1 < n then i + 1 else 0) else fo i
def rouS (s : FS) : FS := (s.1, s.2.1, s.2.2.1, s.2.2.2.1, rouL s.1 s.2.2.2.2.1 s.1, s.2.2.2.2.2.1, s.2.2.2.2.2.2)
def danS (hs : HS) (row : Int → Int) : Nat → Int → FS → FS
  | 0, _, s => s
  | n + 1, i, s => danS hs row n (i + 1) (if row i = 2 then rouS s else goS hs (decide (row i = 1)) s)
theorem rouL_1 (n : Int) (fo : Int → Int) {m x : Int} (h : 0 ≤ m) (hx : x = if m + 1 < n then m + 1 else 0) : ur (rouL n fo m) m x = rouL n fo (m + 1) := by
  funext i
  subst hx
  unfold ur rouL
  by_cases h1 : i = m
  · subst h1; rw [if_pos rfl, if_pos (show 0 ≤ i ∧ i < i + 1 by omega)]
  · rw [if_neg h1]
    by_cases h2 : 0 ≤ i ∧ i < m
    · rw [if_pos h2, if_pos (show 0 ≤ i ∧ i < m + 1 by omega)]
    · rw [if_neg h2, if_neg (by omega)]
theorem rou_inv {w : Int} {s : FS} (h : FInv w s) : FInv w (rouS s) := by
  obtain ⟨h1, h2, h3, h4, h5, h6⟩ := h
  refine ⟨h1, h2, h3, fun d hd => ?_, h5, h6⟩
  replace hd : 0 ≤ d ∧ d < s.1 := hd
  show 0 ≤ rouL s.1 s.2.2.2.2.1 s.1 d ∧ rouL s.1 s.2.2.2.2.1 s.1 d < s.1
  unfold rouL
  rw [if_pos hd]
  split <;> omega
/-- another row of who goes after whom -/
theorem FlC.fo {V : MM} {f : Nat} {hs : HS} {s : FS} (h : FlC V f hs s) (r : Int → Int) (hr : ∀ d, 0 ≤ d ∧ d < s.1 → 0 ≤ r d ∧ r d < s.1) : FlC (upR V (f + 3) r) f hs (s.1, s.2.1, s.2.2.1, s.2.2.2.1, r, s.2.2.2.2.2.1, s.2.2.2.2.2.2) := by
  obtain ⟨hf, rfl, hH, h0, hI⟩ := h
  have hfb := isF_b hf
  obtain ⟨h1, h2, h3, h4, h5, h6⟩ := hI
  have e : upR V (f + 3) r f = V f := upR_n _ (by omega)
  refine ⟨hf, ?_, ?_, by rw [e]; exact h0, ⟨h1, h2, h3, hr, h5, h6⟩⟩
  · show _ = (upR V (f + 3) r f 0, upR V (f + 3) r f 1, upR V (f + 3) r (f + 1), upR V (f + 3) r (f + 2), upR V (f + 3) r (f + 3), upR V (f + 3) r (f + 4), upR V (f + 3) r (f + 5))
    rw [e, upR_n _ (by omega), upR_n _ (by omega), upR_s, upR_n _ (by omega), upR_n _ (by omega)]
  · rw [e]
    exact HlC_cong hH (fun k h1 h2 => upR_n _ (by omega))

theorem round_loop {g : GC} {X : CX} {Q : Option AV → MM → Prop} {f : Nat} {V : MM} (hf : isF f) (hn : 0 ≤ V f 0 ∧ V f 0 ≤ 6) (hz : Fi g X none Q) (hD : Dp X 3) (hQ : Q none (upR V (f + 3) (rouL (V f 0) (V (f + 3)) (V f 0)))) : ∀ (n : Nat) (d : Int) (V1 : MM), 0 ≤ d → d + n = V f 0 → V1 = upR V (f + 3) (rouL (V f 0) (V (f + 3)) d) → SW g X RX1 cX1_followRound 2 [some (vr f), some (vi d)] [] V1 := by
  have hfb := isF_b hf
  intro n
  induction n with
  | zero =>
    intro d V1 h0 h1 hV
    have e0 : V1 f = V f := by rw [hV, upR_n _ (by omega)]
    have e1 := congrFun e0 0
    have e : d = V f 0 := by omega
    subst e
    refine S_il1 qX1_followRound_2 ?_
    refine S_al0 qX1_followRound_3 ?_
    refine S_getI qX1_followRound_4 fX1_60 (F_0 hf) ?_
    refine S_icmp_ge (d := qX1_followRound_7) (kt := fun c7 => ?_) (kf := fun c7 => ?_)
    rotate_left
    · omega
    refine S_vret hz qX1_followRound_38 ?_
    rw [hV]
    exact hQ
  | succ n ih =>
    intro d V1 h0 h1 hV
    have e0 : V1 f = V f := by rw [hV, upR_n _ (by omega)]
    have e1 := congrFun e0 0
    have e3 : V1 (f + 3) = rouL (V f 0) (V (f + 3)) d := by rw [hV, upR_s]
    refine S_il1 qX1_followRound_2 ?_
    refine S_al0 qX1_followRound_3 ?_
    refine S_getI qX1_followRound_4 fX1_60 (F_0 hf) ?_
    refine S_icmp_ge (d := qX1_followRound_7) (kt := fun c7 => ?_) (kf := fun c7 => ?_)
    · omega
    refine S_al0 qX1_followRound_10 ?_
    refine S_il1 qX1_followRound_11 ?_
    refine S_il1 qX1_followRound_12 ?_
    refine S_iconst qX1_followRound_13 ?_
    refine S_iadd qX1_followRound_14 ?_
    refine S_al0 qX1_followRound_15 ?_
    refine S_getI qX1_followRound_16 fX1_60 (F_0 hf) ?_
    refine S_icmp_ge (d := qX1_followRound_19) (kt := fun c19 => ?_) (kf := fun c19 => ?_)
    · refine S_iconst qX1_followRound_28 ?_
      refine S_V2W hD qX1_followRound_29 lX1_63 vX2_follow (F_r hf) (c_follow hf (by omega) (by omega) (by omega)) (K := ?_)
      refine S_inc1 qX1_followRound_32 (K := ?_)
      refine S_goto qX1_followRound_35 ?_
      refine ih (d + 1) _ (by omega) (by omega) ?_
      rw [e3, rouL_1 _ _ h0 (by first | rw [if_pos (by omega)] | rw [if_neg (by omega)]), hV, upR_u]
    · refine S_il1 qX1_followRound_22 ?_
      refine S_iconst qX1_followRound_23 ?_
      refine S_iadd qX1_followRound_24 ?_
      refine S_goto qX1_followRound_25 ?_
      refine S_V2W hD qX1_followRound_29 lX1_63 vX2_follow (F_r hf) (c_follow hf (by omega) (by omega) (by omega)) (K := ?_)
      refine S_inc1 qX1_followRound_32 (K := ?_)
      refine S_goto qX1_followRound_35 ?_
      refine ih (d + 1) _ (by omega) (by omega) ?_
      rw [e3, rouL_1 _ _ h0 (by first | rw [if_pos (by omega)] | rw [if_neg (by omega)]), hV, upR_u]
theorem c_followRound {g : GC} {f : Nat} {V : MM} {hs : HS} {s : FS} (hF : FlC V f hs s) : Ct g mX1_followRound 3 [vr f] V (RV (fun V' => FlC V' f hs (rouS s) ∧ Sm V V' f 7 ∧ V' f 2 = V f 2)) := by
  refine Ct.of (ls := [some (vr f), none]) (plainFor_of_name (by decide +kernel)) rfl (by exact Nat.le_of_ble_eq_true rfl) (fun X hz hD => ?_)
  have hf := hF.1
  have hfb := isF_b hf
  have hn := hF.n6
  have hr := rou_inv hF.2.2.2.2
  have es : s = fsC V f := hF.2.1
  refine S_iconst qX1_followRound_0 ?_
  refine S_is1 qX1_followRound_1 (K := ?_)
  refine round_loop hf hn.2.2.1 hz hD ⟨rfl, ?_, fun k hk => upR_n _ (by omega), by rw [upR_n _ (by omega)]⟩ (V f 0).toNat 0 V (by omega) (by omega) ?_
  · have h := hF.fo (rouL s.1 s.2.2.2.2.1 s.1) hr.2.2.2.1
    rw [es] at h ⊢
    exact h
  · have e : rouL (V f 0) (V (f + 3)) 0 = V (f + 3) := by
      funext i
      unfold rouL
      rw [if_neg (by omega)]
    rw [e, upR_id]

theorem dance_loop {g : GC} {X : CX} {Q : Option AV → MM → Prop} {b f : Nat} {V : MM} {hs : HS} {sf : FS} (hb : isB b) (hn : 0 ≤ V b 4 ∧ V b 4 ≤ 10) (hrow : ∀ i, 0 ≤ i ∧ i < V b 4 → 0 ≤ V (b + 4) i ∧ V (b + 4) i ≤ 2) (hz : Fi g X none Q) (hD : Dp X 7) (hQ : ∀ V', TrC V V' f hs sf → Q none V') : ∀ (n : Nat) (i : Int) (V1 : MM) (s1 : FS), 0 ≤ i → i + n = V b 4 → TrC V V1 f hs s1 → danS hs (V (b + 4)) n i s1 = sf → s1.2.1 + n ≤ 20000 → SW g X RX1 cX1_danceOn 2 [some (vr b), some (vr f), some (vi i)] [] V1 := by
  have hbb := isB_b hb
  intro n
  induction n with
  | zero =>
    intro i V1 s1 h0 h1 hT hg hbt
    have hf := hT.1.1
    have hfb := isF_b hf
    have e0 : V1 b 4 = V b 4 := by rw [hT.2.1 b (by omega)]
    unfold danS at hg
    subst hg
    refine S_il2 qX1_danceOn_2 ?_
    refine S_al0 qX1_danceOn_3 ?_
    refine S_getI qX1_danceOn_4 fX1_40 (B_4 hb) ?_
    refine S_icmp_ge (d := qX1_danceOn_7) (kt := fun c7 => ?_) (kf := fun c7 => ?_)
    rotate_left
    · omega
    refine S_vret hz qX1_danceOn_52 ?_
    exact hQ V1 hT
  | succ n ih =>
    intro i V1 s1 h0 h1 hT hg hbt
    have hf := hT.1.1
    have hfb := isF_b hf
    have hn6 := hT.1.n6
    have e0 : V1 b 4 = V b 4 := by rw [hT.2.1 b (by omega)]
    have e4 : V1 (b + 4) = V (b + 4) := hT.2.1 (b + 4) (by omega)
    have e5 := congrFun e4 i
    have w1 := hrow i (by omega)
    unfold danS at hg
    refine S_il2 qX1_danceOn_2 ?_
    refine S_al0 qX1_danceOn_3 ?_
    refine S_getI qX1_danceOn_4 fX1_40 (B_4 hb) ?_
    refine S_icmp_ge (d := qX1_danceOn_7) (kt := fun c7 => ?_) (kf := fun c7 => ?_)
    · omega
    refine S_al0 qX1_danceOn_10 ?_
    refine S_getR qX1_danceOn_11 fX1_21 (B_5 hb) ?_
    refine S_il2 qX1_danceOn_14 ?_
    refine S_iald qX1_danceOn_15 (Ba_4 hb) (K := ?_)
    refine S_iconst qX1_danceOn_16 ?_
    refine S_icmp_ne (d := qX1_danceOn_17) (kt := fun c17 => ?_) (kf := fun c17 => ?_)
    · refine S_al1 qX1_danceOn_27 ?_
      refine S_al0 qX1_danceOn_28 ?_
      refine S_getR qX1_danceOn_29 fX1_21 (B_5 hb) ?_
      refine S_il2 qX1_danceOn_32 ?_
      refine S_iald qX1_danceOn_33 (Ba_4 hb) (K := ?_)
      refine S_iconst qX1_danceOn_34 ?_
      refine S_icmp_ne (d := qX1_danceOn_35) (kt := fun c35 => ?_) (kf := fun c35 => ?_)
      · refine S_iconst qX1_danceOn_42 ?_
        refine S_V1V hD qX1_danceOn_43 lX1_52 vX2_goBeat (F_r hf) (c_goBeat false hT.1 (by omega)) (kk := fun V43 h43 => ?_)
        have hT2 := hT.go h43
        refine S_inc2 qX1_danceOn_46 (K := ?_)
        refine S_goto qX1_danceOn_49 ?_
        rw [e5] at c17
        first
          | (rw [if_pos c17] at hg
             exact ih (i + 1) _ _ (by omega) (by omega) hT2 hg (by show s1.2.1 + (n : Int) ≤ 20000; omega))
          | (rw [e5] at c35
             rw [if_neg c17] at hg
             first | rw [decide_eq_true c35] at hg | rw [decide_eq_false c35] at hg
             exact ih (i + 1) _ _ (by omega) (by omega) hT2 hg (by show s1.2.1 + 1 + (n : Int) ≤ 20000; omega))
      · refine S_iconst qX1_danceOn_38 ?_
        refine S_goto qX1_danceOn_39 ?_
        refine S_V1V hD qX1_danceOn_43 lX1_52 vX2_goBeat (F_r hf) (c_goBeat true hT.1 (by omega)) (kk := fun V43 h43 => ?_)
        have hT2 := hT.go h43
        refine S_inc2 qX1_danceOn_46 (K := ?_)
        refine S_goto qX1_danceOn_49 ?_
        rw [e5] at c17
        first
          | (rw [if_pos c17] at hg
             exact ih (i + 1) _ _ (by omega) (by omega) hT2 hg (by show s1.2.1 + (n : Int) ≤ 20000; omega))
          | (rw [e5] at c35
             rw [if_neg c17] at hg
             first | rw [decide_eq_true c35] at hg | rw [decide_eq_false c35] at hg
             exact ih (i + 1) _ _ (by omega) (by omega) hT2 hg (by show s1.2.1 + 1 + (n : Int) ≤ 20000; omega))
    · refine S_al1 qX1_danceOn_20 ?_
      refine S_S1V hD qX1_danceOn_21 lX1_56 sX1_followRound (c_followRound hT.1) (kk := fun V21 h21 => ?_)
      have hT2 := hT.go h21
      refine S_goto qX1_danceOn_24 ?_
      refine S_inc2 qX1_danceOn_46 (K := ?_)
      refine S_goto qX1_danceOn_49 ?_
      rw [e5] at c17
      first
        | (rw [if_pos c17] at hg
           exact ih (i + 1) _ _ (by omega) (by omega) hT2 hg (by show s1.2.1 + (n : Int) ≤ 20000; omega))
        | (rw [e5] at c35
           rw [if_neg c17] at hg
           first | rw [decide_eq_true c35] at hg | rw [decide_eq_false c35] at hg
           exact ih (i + 1) _ _ (by omega) (by omega) hT2 hg (by show s1.2.1 + 1 + (n : Int) ≤ 20000; omega))
theorem c_danceOn {g : GC} {b f : Nat} {V : MM} {hs : HS} {s : FS} (hb : isB b) (hF : FlC V f hs s) (hN : NInv s.1 (snC V b)) (hbt : s.2.1 ≤ 10000) : Ct g mX1_danceOn 7 [vr b, vr f] V (RV (fun V' => TrC V V' f hs (danS hs (V (b + 4)) (V b 4).toNat 0 s))) := by
  refine Ct.of (ls := [some (vr b), some (vr f), none]) (plainFor_of_name (by decide +kernel)) rfl (by exact Nat.le_of_ble_eq_true rfl) (fun X hz hD => ?_)
  have hf := hF.1
  obtain ⟨-, -, hr, hbk, -, -⟩ := hN
  replace hr : 0 ≤ V b 4 ∧ V b 4 ≤ 10 := hr
  refine S_iconst qX1_danceOn_0 ?_
  refine S_is2 qX1_danceOn_1 (K := ?_)
  exact dance_loop hb hr hbk hz hD (fun V1 h => ⟨rfl, h⟩) (V b 4).toNat 0 V s (by omega) (by omega) (TrC.rf hF) rfl (by omega)

theorem seen_in {g : GC} {X : CX} {Q : Option AV → MM → Prop} {b f : Nat} {V : MM} {hs : HS} {s : FS} {k : Int} (hb : isB b) (hF : FlC V f hs s) (hN : NInv s.1 (snC V b)) (rk : 0 ≤ k ∧ k ≤ 12) (hz : Fi g X (some .boolean) Q) (hD : Dp X 7) (hk : seeB (snC V b) k s = true → SW g X RX1 cX1_allSeenOn 56 [some (vr b), some (vr f), some (vi k), none] [] V) (hQ : ¬ seeB (snC V b) k s = true → Q (some (vi 0)) V) : ∀ (n : Nat) (i : Int), 0 ≤ i → i + n = V b 0 → (∀ j : Int, 0 ≤ j ∧ j < i → V (b + 3) j = k → V (f + 4) (8 * V (b + 1) j) = V (b + 2) j) → SW g X RX1 cX1_allSeenOn 10 [some (vr b), some (vr f), some (vi k), some (vi i)] [] V := by
  obtain ⟨hr, hbk, -⟩ := hN
  replace hr : 0 ≤ V b 0 ∧ V b 0 ≤ 5 := hr
  replace hbk : ∀ i, 0 ≤ i ∧ i < V b 0 → (0 ≤ V (b + 1) i ∧ V (b + 1) i < s.1) ∧ (0 ≤ V (b + 2) i ∧ V (b + 2) i ≤ 98) ∧ (0 ≤ V (b + 3) i ∧ V (b + 3) i ≤ 12) := hbk
  have hi : seeB (snC V b) k s = true ↔ ∀ i : Int, 0 ≤ i ∧ i < V b 0 → (V (b + 3) i = k → V (f + 4) (8 * V (b + 1) i) = V (b + 2) i) := by
    unfold seeB
    rw [allN_I hr.1, hF.2.1]
    simp only [decide_eq_true_eq]
  have hn6 := hF.n6
  have hw := hF.w99
  have hwa : ∀ i : Int, 0 ≤ i ∧ i < 48 → 0 ≤ V (f + 4) i ∧ V (f + 4) i < 99 := fun i hi => by
    have h5 := hF.2.2.2.2.2.2.2.2.1 i hi
    rw [hF.2.1] at h5
    replace h5 : 0 ≤ V (f + 4) i ∧ V (f + 4) i < hs.1 := h5
    omega
  have hf := hF.1
  intro n
  induction n with
  | zero =>
    intro i h0 h1 hall
    refine S_il3 qX1_allSeenOn_10 ?_
    refine S_al0 qX1_allSeenOn_11 ?_
    refine S_getI qX1_allSeenOn_12 fX1_30 (B_0 hb) ?_
    refine S_icmp_ge (d := qX1_allSeenOn_15) (kt := fun c15 => ?_) (kf := fun c15 => ?_)
    rotate_left
    · omega
    exact SW.forget 3 (hk (hi.mpr (fun j hj => hall j (by omega))))
  | succ n ih =>
    intro i h0 h1 hall
    have w1 := hbk i (by omega)
    have w2 := hwa (8 * V (b + 1) i) (by omega)
    refine S_il3 qX1_allSeenOn_10 ?_
    refine S_al0 qX1_allSeenOn_11 ?_
    refine S_getI qX1_allSeenOn_12 fX1_30 (B_0 hb) ?_
    refine S_icmp_ge (d := qX1_allSeenOn_15) (kt := fun c15 => ?_) (kf := fun c15 => ?_)
    · omega
    refine S_al0 qX1_allSeenOn_18 ?_
    refine S_getR qX1_allSeenOn_19 fX1_18 (B_3 hb) ?_
    refine S_il3 qX1_allSeenOn_22 ?_
    refine S_iald qX1_allSeenOn_23 (Ba_3 hb) (K := ?_)
    refine S_il2 qX1_allSeenOn_24 ?_
    refine S_icmp_ne (d := qX1_allSeenOn_25) (kt := fun c25 => ?_) (kf := fun c25 => ?_)
    · refine S_inc3 qX1_allSeenOn_50 (K := ?_)
      refine S_goto qX1_allSeenOn_53 ?_
      refine ih (i + 1) (by omega) (by omega) (fun j hj => ?_)
      by_cases e : j = i
      · subst e
        first | (intro h6; exact c45) | (intro h6; exact absurd h6 c25)
      · exact hall j (by omega)
    · refine S_al1 qX1_allSeenOn_28 ?_
      refine S_al0 qX1_allSeenOn_29 ?_
      refine S_getR qX1_allSeenOn_30 fX1_11 (B_1 hb) ?_
      refine S_il3 qX1_allSeenOn_33 ?_
      refine S_iald qX1_allSeenOn_34 (Ba_1 hb) (K := ?_)
      refine S_iconst qX1_allSeenOn_35 ?_
      refine S_V2E hD qX1_allSeenOn_36 lX1_46 vX2_wasOf (F_r hf) (c_was0 hf (by omega) (by omega)) (K := ?_)
      refine S_al0 qX1_allSeenOn_39 ?_
      refine S_getR qX1_allSeenOn_40 fX1_15 (B_2 hb) ?_
      refine S_il3 qX1_allSeenOn_43 ?_
      refine S_iald qX1_allSeenOn_44 (Ba_2 hb) (K := ?_)
      refine S_icmp_eq (d := qX1_allSeenOn_45) (kt := fun c45 => ?_) (kf := fun c45 => ?_)
      · refine S_inc3 qX1_allSeenOn_50 (K := ?_)
        refine S_goto qX1_allSeenOn_53 ?_
        refine ih (i + 1) (by omega) (by omega) (fun j hj => ?_)
        by_cases e : j = i
        · subst e
          first | (intro h6; exact c45) | (intro h6; exact absurd h6 c25)
        · exact hall j (by omega)
      · refine S_iconst qX1_allSeenOn_48 ?_
        refine S_zret hz qX1_allSeenOn_49 (by omega) ?_
        exact hQ (fun h => c45 (hi.mp h i (by omega) c25))
theorem seen_out {g : GC} {X : CX} {Q : Option AV → MM → Prop} {b f : Nat} {V : MM} {hs : HS} {N : SN} {xf : Bool} (hb : isB b) (hbe : snC V b = N) (hz : Fi g X (some .boolean) Q) (hD : Dp X 7) (hQ : ∀ V', Sm V V' f 7 → Q (some (vi (b2i xf))) V') : ∀ (n : Nat) (k : Int) (V1 : MM) (s1 : FS), 0 ≤ k → k + n = 13 → TrC V V1 f hs s1 → NInv s1.1 N → seeS hs N n k s1 = xf → s1.2.1 + n ≤ 20000 → SW g X RX1 cX1_allSeenOn 2 [some (vr b), some (vr f), some (vi k), none] [] V1 := by
  have hbb := isB_b hb
  intro n
  induction n with
  | zero =>
    intro k V1 s1 h0 h1 hT hN hg hbt
    have hf := hT.1.1
    unfold seeS at hg
    subst hg
    refine S_il2 qX1_allSeenOn_2 ?_
    refine S_bipush (d := qX1_allSeenOn_3) (k := ?_)
    refine S_icmp_gt (d := qX1_allSeenOn_5) (kt := fun c5 => ?_) (kf := fun c5 => ?_)
    rotate_left
    · omega
    refine S_iconst qX1_allSeenOn_67 ?_
    refine S_zret hz qX1_allSeenOn_68 (by omega) ?_
    exact hQ V1 hT.2.1
  | succ n ih =>
    intro k V1 s1 h0 h1 hT hN hg hbt
    have hf := hT.1.1
    have hfb := isF_b hf
    have hn6 := hT.1.n6
    have eN : snC V1 b = N := by
      rw [← hbe]
      show (V1 b 0, V1 (b + 1), V1 (b + 2), V1 (b + 3), V1 b 4, V1 (b + 4), V1 b 6, V1 (b + 5), V1 (b + 6)) = _
      rw [hT.2.1 b (by omega), hT.2.1 (b + 1) (by omega), hT.2.1 (b + 2) (by omega), hT.2.1 (b + 3) (by omega), hT.2.1 (b + 4) (by omega), hT.2.1 (b + 5) (by omega), hT.2.1 (b + 6) (by omega)]
    have hr : 0 ≤ V1 b 0 ∧ V1 b 0 ≤ 5 := by
      have := hN.1
      rw [← eN] at this
      exact this
    unfold seeS at hg
    refine S_il2 qX1_allSeenOn_2 ?_
    refine S_bipush (d := qX1_allSeenOn_3) (k := ?_)
    refine S_icmp_gt (d := qX1_allSeenOn_5) (kt := fun c5 => ?_) (kf := fun c5 => ?_)
    · omega
    refine S_iconst qX1_allSeenOn_8 ?_
    refine S_is3 qX1_allSeenOn_9 (K := ?_)
    refine seen_in hb hT.1 (by rw [eN]; exact hN) (by omega) hz hD (fun hs1 => ?_) (fun hs1 => ?_) (V1 b 0).toNat 0 (by omega) (by omega) (fun j hj => by omega)
    · rw [eN] at hs1
      rw [hs1, Bool.true_and] at hg
      refine S_al1 qX1_allSeenOn_56 ?_
      refine S_iconst qX1_allSeenOn_57 ?_
      refine S_V1V hD qX1_allSeenOn_58 lX1_52 vX2_goBeat (F_r hf) (c_goBeat false hT.1 (by omega)) (kk := fun V58 h58 => ?_)
      have hT2 := hT.go h58
      refine S_inc2 qX1_allSeenOn_61 (K := ?_)
      refine S_goto qX1_allSeenOn_64 ?_
      exact ih (k + 1) _ _ (by omega) (by omega) hT2 hN hg (by show s1.2.1 + 1 + (n : Int) ≤ 20000; omega)
    · rw [eN] at hs1
      have e : xf = false := by
        rw [← hg]
        cases hq : seeB N k s1
        · rfl
        · exact absurd hq hs1
      have h := hQ V1 hT.2.1
      rw [e] at h
      exact h
theorem c_allSeenOn {g : GC} {b f : Nat} {V : MM} {hs : HS} {s : FS} (hb : isB b) (hF : FlC V f hs s) (hN : NInv s.1 (snC V b)) (hbt : s.2.1 ≤ 10000) : Ct g mX1_allSeenOn 7 [vr b, vr f] V (RI (fun z V' => (z = 1 ∧ seeS hs (snC V b) 13 0 s = true ∨ z = 0 ∧ ¬ seeS hs (snC V b) 13 0 s = true) ∧ Sm V V' f 7)) := by
  refine Ct.of (ls := [some (vr b), some (vr f), none, none]) (plainFor_of_name (by decide +kernel)) rfl (by exact Nat.le_of_ble_eq_true rfl) (fun X hz hD => ?_)
  have hf := hF.1
  refine S_iconst qX1_allSeenOn_0 ?_
  refine S_is2 qX1_allSeenOn_1 (K := ?_)
  refine seen_out (hs := hs) (xf := seeS hs (snC V b) 13 0 s) hb rfl hz hD (fun V1 h => ⟨_, rfl, ?_, h⟩) 13 0 V s (by omega) (by omega) (TrC.rf hF) hN rfl (by omega)
  cases seeS hs (snC V b) 13 0 s <;> simp [b2i]
end
section
section RS
variable {g : GC} {X : CX} {own : String} {cc : ByteArray} {pc nx tgt : Nat} {ls : List (Option AV)} {st : List AV} {V : MM}
/-- a static field: its link -/
def SL (own : String) (idx : Nat) (C n d : String) : Prop := Cond.fieldLink own idx C n d ∈ Gs ∨ ∃ host, Cond.fieldLinkNest own idx C n d host ∈ Ns
theorem S_gets {idx : Nat} {C n d : String} {v : AV} (dd : DI cc pc (.getstatic idx) 3 nx) (hl0 : SL own idx C n d) (hv : ∀ g' : GC, ∀ U : State, ∀ H : Heap, Ro g' U H → va_Z C n d (cv g' v) g'.2.2.2.1 U H) (K : SW g X own cc nx ls (v :: st) V) : SW g X own cc pc ls st V := by
  obtain ⟨⟨p, e, R, s, m⟩, ⟨args, below, meth, c⟩, ⟨nL, cells, slots, Z⟩⟩ := X
  obtain ⟨hd, rfl⟩ := dd
  intro hC H locs lsA hP hS hl
  obtain ⟨hx, hb, hml, hown, hts, hW, hR⟩ := id hC
  rcases hl0 with hl0 | ⟨host, hl0⟩
  · exact va_gets hx hb (hv g s s.heap hW.2.2.1) hS hown (hts _ hl0) (fun _ h => h) hd (K hC H locs lsA hP hS hl)
  · exact va_getsN hx hb (hv g s s.heap hW.2.2.1) hS hown (va_Nw.use rfl (hW.2.2.2.2 _ hl0)) (fun _ h => h) hd (K hC H locs lsA hP hS hl)
theorem S_tlen {k N : Nat} {f : Nat → Value} {ty : FieldType} (dd : DI cc pc .arraylength 1 nx) (hv : ∀ g' : GC, ∀ U : State, ∀ H : Heap, Ro g' U H → va_T ty (g'.2.2.1 k) N f g'.2.2.2.1 U H) (K : SW g X own cc nx ls (vi (N : Int) :: st) V) : SW g X own cc pc ls (vr k :: st) V := by
  obtain ⟨⟨p, e, R, s, m⟩, ⟨args, below, meth, c⟩, ⟨nL, cells, slots, Z⟩⟩ := X
  obtain ⟨hd, rfl⟩ := dd
  intro hC H locs lsA hP hS hl
  obtain ⟨hx, hb, hml, hown, hts, hW, hR⟩ := id hC
  obtain ⟨cell, h1, h2, h3, h4, h5, h6, h7⟩ := (hv g s s.heap hW.2.2.1).kept hS.2.1
  exact W.alen (n := Int32.ofNat N) hx hb h1 h2 h5 rfl rfl hd (by
    have := K hC H locs lsA hP hS hl
    rw [List.map_cons] at this
    show W p g.1 e R s m args below meth c H locs cells slots Z (F0 m (pc + 1) lsA (.int (Int32.ofNat N) :: st.map (cv g)))
    rw [← Int32.ofInt_eq_ofNat]
    exact this)
theorem S_tild {k N : Nat} {f : Nat → Int32} {i z : Int} (dd : DI cc pc .iaload 1 nx) (hv : ∀ g' : GC, ∀ U : State, ∀ H : Heap, Ro g' U H → va_T .int (g'.2.2.1 k) N (fun j => .int (f j)) g'.2.2.2.1 U H) (hi : 0 ≤ i ∧ i < N ∧ i < 1000) (hz : f i.toNat = Int32.ofInt z) (K : SW g X own cc nx ls (vi z :: st) V) : SW g X own cc pc ls (vi i :: vr k :: st) V := by
  obtain ⟨⟨p, e, R, s, m⟩, ⟨args, below, meth, c⟩, ⟨nL, cells, slots, Z⟩⟩ := X
  obtain ⟨hd, rfl⟩ := dd
  intro hC H locs lsA hP hS hl
  obtain ⟨hx, hb, hml, hown, hts, hW, hR⟩ := id hC
  obtain ⟨cell, h1, h2, h3, h4, h5, h6, h7⟩ := (hv g s s.heap hW.2.2.1).kept hS.2.1
  have hc : (Int32.ofInt i).toNatClampNeg = i.toNat := io_cl (by omega)
  have hin : ¬ (Int32.ofInt i < 0 ∨ cell.slots.size ≤ (Int32.ofInt i).toNatClampNeg) := by
    rintro (q | q)
    · have := (io_lt (a := i) (b := 0) (by omega) (by omega)).mp q
      omega
    · rw [hc] at q
      omega
  refine W.iald (v := .int (Int32.ofInt z)) hx hb h1 h2 h3 hin ?_ rfl rfl hd (K hC H locs lsA hP hS hl)
  rw [hc, h6 i.toNat (by omega)]
  show some (Value.int (f i.toNat)) = _
  rw [hz]
theorem S_tbld {k N : Nat} {f : Nat → Int32} {i z : Int} (dd : DI cc pc .baload 1 nx) (hv : ∀ g' : GC, ∀ U : State, ∀ H : Heap, Ro g' U H → va_T .byte (g'.2.2.1 k) N (fun j => .int (f j)) g'.2.2.2.1 U H) (hi : 0 ≤ i ∧ i < N ∧ i < 1000) (hz : f i.toNat = Int32.ofInt z) (K : SW g X own cc nx ls (vi z :: st) V) : SW g X own cc pc ls (vi i :: vr k :: st) V := by
  obtain ⟨⟨p, e, R, s, m⟩, ⟨args, below, meth, c⟩, ⟨nL, cells, slots, Z⟩⟩ := X
  obtain ⟨hd, rfl⟩ := dd
  intro hC H locs lsA hP hS hl
  obtain ⟨hx, hb, hml, hown, hts, hW, hR⟩ := id hC
  obtain ⟨cell, h1, h2, h3, h4, h5, h6, h7⟩ := (hv g s s.heap hW.2.2.1).kept hS.2.1
  have hc : (Int32.ofInt i).toNatClampNeg = i.toNat := io_cl (by omega)
  have hin : ¬ (Int32.ofInt i < 0 ∨ cell.slots.size ≤ (Int32.ofInt i).toNatClampNeg) := by
    rintro (q | q)
    · have := (io_lt (a := i) (b := 0) (by omega) (by omega)).mp q
      omega
    · rw [hc] at q
      omega
  refine W.bald (v := .int (Int32.ofInt z)) hx hb h1 h2 h3 hin ?_ rfl rfl hd (K hC H locs lsA hP hS hl)
  rw [hc, h6 i.toNat (by omega)]
  show some (Value.int (f i.toNat)) = _
  rw [hz]
theorem ro_above {g' : GC} {U : State} {H : Heap} (h : Ro g' U H) : va_T .int (g'.2.2.1 220) 7 (fun j => .int (roAbove.getD j 0)) g'.2.2.2.1 U H := h.2.1.2
theorem ro_bodies {g' : GC} {U : State} {H : Heap} (h : Ro g' U H) : va_T .int (g'.2.2.1 221) 21 (fun j => .int (roBodies.getD j 0)) g'.2.2.2.1 U H := h.2.2.2
theorem S_ldcS {idx k : Nat} {tx : String} (dd : DI cc pc (.ldc idx) 2 nx) (hv : ∀ g' : GC, ∀ U : State, roRef g' U → vk_R own idx tx (g'.2.2.1 k) U) (K : SW g X own cc nx ls (vr k :: st) V) : SW g X own cc pc ls st V := by
  obtain ⟨⟨p, e, R, s, m⟩, ⟨args, below, meth, c⟩, ⟨nL, cells, slots, Z⟩⟩ := X
  obtain ⟨hd, rfl⟩ := dd
  intro hC H locs lsA hP hS hl
  obtain ⟨hx, hb, hml, hown, hts, hW, hR⟩ := id hC
  exact va_ldcS hx hb hown (hv g s hW.2.2.2) hd (K hC H locs lsA hP hS hl)
end RS
theorem sX6_265 : SL RX6 265 "TwoBeatsAgo" "KIND_ABOVE" "[I" := Or.inl (Gs_of (tb_4 (i := 37) (by decide +kernel)) rfl)
theorem sX0_53 : SL RX0 53 "TwoBeatsAgo" "KIND_ABOVE" "[I" := Or.inr ⟨"TwoBeatsAgo", (Ns_of (tb_4 (i := 23) (by decide +kernel)) rfl)⟩
theorem sX0_50 : SL RX0 50 "TwoBeatsAgo$Acts" "BODIES" "[I" := Or.inl (Gs_of (tb_4 (i := 21) (by decide +kernel)) rfl)
theorem sJ0_38 : SL RJ0 38 "java/lang/String" "COMPACT_STRINGS" "Z" := Or.inl (Gs_of (tb_2 (i := 126) (by decide +kernel)) rfl)
theorem eq_if {a b : Int} {x y : Int} : (if a < b then x else y) = (if a < b then x else y) := rfl
theorem fill_loop {g : GC} {X : CX} {Q : Option AV → MM → Prop} {k n0 : Nat} {V : MM} {z : Int} (hk : ak k = some (1, n0)) (hn0 : n0 ≤ 1000) (hz : Fi g X none Q) (hQ : Q none (upR V k (lz (V k) 0 z n0))) : ∀ (n : Nat) (i : Int) (V1 : MM), 0 ≤ i → i + n = n0 → V1 = upR V k (lz (V k) 0 z i) → SW g X RJ7 cJ7_fill_d0a16 6 [some (vr k), some (vl z), none, some (vi i), some (vi (n0 : Int))] [] V1 := by
  intro n
  induction n with
  | zero =>
    intro i V1 h0 h1 hV
    have e : i = n0 := by omega
    subst e
    refine S_il3 qJ7_fill_d0a16_6 ?_
    refine S_il4 qJ7_fill_d0a16_7 ?_
    refine S_icmp_ge (d := qJ7_fill_d0a16_9) (kt := fun c9 => ?_) (kf := fun c9 => ?_)
    rotate_left
    · omega
    refine S_vret hz qJ7_fill_d0a16_22 ?_
    rw [hV]
    exact hQ
  | succ n ih =>
    intro i V1 h0 h1 hV
    have e4 : V1 k = lz (V k) 0 z i := by rw [hV, upR_s]
    refine S_il3 qJ7_fill_d0a16_6 ?_
    refine S_il4 qJ7_fill_d0a16_7 ?_
    refine S_icmp_ge (d := qJ7_fill_d0a16_9) (kt := fun c9 => ?_) (kf := fun c9 => ?_)
    · omega
    refine S_al0 qJ7_fill_d0a16_12 ?_
    refine S_il3 qJ7_fill_d0a16_13 ?_
    refine S_ll1 qJ7_fill_d0a16_14 ?_
    refine S_last qJ7_fill_d0a16_15 hk (K := ?_)
    refine S_inc3 qJ7_fill_d0a16_16 (K := ?_)
    refine S_goto qJ7_fill_d0a16_19 ?_
    refine ih (i + 1) _ (by omega) (by omega) ?_
    rw [e4, lz_1 _ h0 (by omega), hV, upR_u]
theorem c_fillL {g : GC} {k n0 : Nat} {V : MM} {z : Int} (hk : ak k = some (1, n0)) (hn0 : n0 ≤ 1000) : Ct g mJ7_fill_d0a16 1 [vr k, vl z] V (RW (upR V k (lz (V k) 0 z n0))) := by
  refine Ct.of (ls := [some (vr k), some (vl z), none, none, none]) (plainFor_of_name (by decide +kernel)) rfl (by exact Nat.le_of_ble_eq_true rfl) (fun X hz hD => ?_)
  refine S_iconst qJ7_fill_d0a16_0 ?_
  refine S_is3 qJ7_fill_d0a16_1 (K := ?_)
  refine S_al0 qJ7_fill_d0a16_2 ?_
  refine S_alen qJ7_fill_d0a16_3 hk ?_
  refine S_is4 qJ7_fill_d0a16_4 (K := ?_)
  exact fill_loop hk hn0 hz ⟨rfl, rfl⟩ n0 0 V (by omega) (by omega) (by rw [lz_0, upR_id])

theorem filI_loop {g : GC} {X : CX} {Q : Option AV → MM → Prop} {k n0 : Nat} {V : MM} {z : Int} (hk : ak k = some (0, n0)) (hn0 : n0 ≤ 1000) (hz : Fi g X none Q) (hQ : Q none (upR V k (lz (V k) 0 z n0))) : ∀ (n : Nat) (i : Int) (V1 : MM), 0 ≤ i → i + n = n0 → V1 = upR V k (lz (V k) 0 z i) → SW g X RJ7 cJ7_fill_53178 5 [some (vr k), some (vi z), some (vi i), some (vi (n0 : Int))] [] V1 := by
  intro n
  induction n with
  | zero =>
    intro i V1 h0 h1 hV
    have e : i = n0 := by omega
    subst e
    refine S_il2 qJ7_fill_53178_5 ?_
    refine S_il3 qJ7_fill_53178_6 ?_
    refine S_icmp_ge (d := qJ7_fill_53178_7) (kt := fun c7 => ?_) (kf := fun c7 => ?_)
    rotate_left
    · omega
    refine S_vret hz qJ7_fill_53178_20 ?_
    rw [hV]
    exact hQ
  | succ n ih =>
    intro i V1 h0 h1 hV
    have e4 : V1 k = lz (V k) 0 z i := by rw [hV, upR_s]
    refine S_il2 qJ7_fill_53178_5 ?_
    refine S_il3 qJ7_fill_53178_6 ?_
    refine S_icmp_ge (d := qJ7_fill_53178_7) (kt := fun c7 => ?_) (kf := fun c7 => ?_)
    · omega
    refine S_al0 qJ7_fill_53178_10 ?_
    refine S_il2 qJ7_fill_53178_11 ?_
    refine S_il1 qJ7_fill_53178_12 ?_
    refine S_iast qJ7_fill_53178_13 hk (K := ?_)
    refine S_inc2 qJ7_fill_53178_14 (K := ?_)
    refine S_goto qJ7_fill_53178_17 ?_
    refine ih (i + 1) _ (by omega) (by omega) ?_
    rw [e4, lz_1 _ h0 (by omega), hV, upR_u]
theorem c_fillI {g : GC} {k n0 : Nat} {V : MM} {z : Int} (hk : ak k = some (0, n0)) (hn0 : n0 ≤ 1000) : Ct g mJ7_fill_53178 1 [vr k, vi z] V (RW (upR V k (lz (V k) 0 z n0))) := by
  refine Ct.of (ls := [some (vr k), some (vi z), none, none]) (plainFor_of_name (by decide +kernel)) rfl (by exact Nat.le_of_ble_eq_true rfl) (fun X hz hD => ?_)
  refine S_iconst qJ7_fill_53178_0 ?_
  refine S_is2 qJ7_fill_53178_1 (K := ?_)
  refine S_al0 qJ7_fill_53178_2 ?_
  refine S_alen qJ7_fill_53178_3 hk ?_
  refine S_is3 qJ7_fill_53178_4 (K := ?_)
  exact filI_loop hk hn0 hz ⟨rfl, rfl⟩ n0 0 V (by omega) (by omega) (by rw [lz_0, upR_id])

theorem c_tapeBecome {g : GC} {t : Nat} {V : MM} {s n : Int} (ht : isT t) (rn : 0 ≤ n ∧ n ≤ 60) : Ct g mX5_become 2 [vr t, vi s, vi n] V (RW (upR (upR V t (ur (ur (V t) 0 s) 1 n)) (t + 1) (lz (V (t + 1)) 0 0 60))) := by
  refine Ct.of (ls := [some (vr t), some (vi s), some (vi n)]) (plainFor_of_name (by decide +kernel)) rfl (by exact Nat.le_of_ble_eq_true rfl) (fun X hz hD => ?_)
  refine S_al0 qX5_become_0 ?_
  refine S_il1 qX5_become_1 ?_
  refine S_putI qX5_become_2 fX5_9 (T_0 ht) tX5_0 ?_
  refine S_al0 qX5_become_5 ?_
  refine S_iconst qX5_become_6 ?_
  refine S_il2 qX5_become_7 ?_
  refine S_bipush (d := qX5_become_8) (k := ?_)
  refine S_S2E hD qX5_become_10 lX5_17 sJ9_min_7cf53 (c_min (by omega) (by omega)) (K := ?_)
  refine S_S2E hD qX5_become_13 lX5_23 sJ9_max_7cf53 (c_max (by omega) (by first | omega | (split <;> omega))) (K := ?_)
  refine S_putI qX5_become_16 fX5_26 (T_1 ht) tX5_1 ?_
  refine S_al0 qX5_become_19 ?_
  refine S_getR qX5_become_20 fX5_13 (T_2 ht) ?_
  refine S_lconst qX5_become_23 ?_
  refine S_S2W hD qX5_become_24 lX5_29 sJ7_fill_d0a16 (c_fillL (Ta_1 ht) (by omega)) (K := ?_)
  refine S_vret hz qX5_become_27 ?_
  refine RW.mk ?_
  have e1 : (if (60 : Int) < n then 60 else n) = n := if_neg (by omega)
  have e2 : (if (0 : Int) < n then n else 0) = n := by split <;> omega
  simp only [upR_n _ (show t + 1 ≠ t by omega), upR_n _ (show t ≠ t + 1 by omega), upR_s, upR_u, e1, e2]
  rfl

/-- an item cut to its sort -/
def fitS (s z : Int) : Int :=
  if s = 0 then (Int32.ofInt (((Int64.ofInt z).toInt32).toInt)).toInt8.toInt32.toInt
  else if s = 1 then (Int32.ofInt (((Int64.ofInt z).toInt32).toInt)).toInt16.toInt32.toInt
  else if s = 2 then ((Int64.ofInt z).toInt32).toInt
  else if s = 4 then (if Int64.ofInt z = Int64.ofInt 0 then 0 else 1) else z
theorem i32_rg (x : Int32) : -2147483648 ≤ x.toInt ∧ x.toInt ≤ 2147483647 := io_rg x

theorem c_fitted {g : GC} {t : Nat} {V : MM} {z : Int} (ht : isT t) (rs : -1 ≤ V t 0 ∧ V t 0 ≤ 4) : Ct g mX5_fitted 1 [vr t, vl z] V (REL V (fitS (V t 0) z)) := by
  refine Ct.of (ls := [some (vr t), some (vl z), none]) (plainFor_of_name (by decide +kernel)) rfl (by exact Nat.le_of_ble_eq_true rfl) (fun X hz hD => ?_)
  have g1 := io_rg ((Int64.ofInt z).toInt32)
  have g2 := io_rg ((Int32.ofInt (((Int64.ofInt z).toInt32).toInt)).toInt8.toInt32)
  have g3 := io_rg ((Int32.ofInt (((Int64.ofInt z).toInt32).toInt)).toInt16.toInt32)
  have g4 : (lg_cmp (Int64.ofInt z) (Int64.ofInt ((0 : Fin 2) : Nat))).toInt = 0 ↔ Int64.ofInt z = Int64.ofInt 0 := lg_eq
  refine S_al0 qX5_fitted_0 ?_
  refine S_getI qX5_fitted_1 fX5_9 (T_0 ht) ?_
  by_cases s4_0 : V t 0 = 0
  · refine S_tabIn (tgt := 40) (off := 36) qX5_fitted_4 (by omega) (by omega) (by rw [s4_0]; rfl) (by decide) ?_
    refine S_ll1 qX5_fitted_40 ?_
    refine S_l2i qX5_fitted_41 ?_
    refine S_i2b qX5_fitted_42 ?_
    refine S_i2l (d := qX5_fitted_43) (k := ?_)
    refine S_lret hz qX5_fitted_44 ?_
    refine REL.mk ?_
    unfold fitS
    first
      | (rw [if_pos (by omega)]; done)
      | (rw [if_neg (by omega), if_pos (by omega)]; done)
      | (rw [if_neg (by omega), if_neg (by omega), if_pos (by omega)]; done)
      | (rw [if_neg (by omega), if_neg (by omega), if_neg (by omega), if_neg (by omega)]; done)
      | (rw [if_neg (by omega), if_neg (by omega), if_neg (by omega), if_pos (by omega), if_pos (g4.mp c57)]; done)
      | (rw [if_neg (by omega), if_neg (by omega), if_neg (by omega), if_pos (by omega), if_neg (fun q => c57 (g4.mpr q))]; done)
      | (rw [if_neg (by omega), if_neg (by omega), if_neg (by omega), if_pos (by omega), if_pos (g4.mp c57)]; rfl)
      | (rw [if_neg (by omega), if_neg (by omega), if_neg (by omega), if_pos (by omega), if_neg (fun q => c57 (g4.mpr q))]; rfl)
  by_cases s4_1 : V t 0 = 1
  · refine S_tabIn (tgt := 45) (off := 41) qX5_fitted_4 (by omega) (by omega) (by rw [s4_1]; rfl) (by decide) ?_
    refine S_ll1 qX5_fitted_45 ?_
    refine S_l2i qX5_fitted_46 ?_
    refine S_i2s qX5_fitted_47 ?_
    refine S_i2l (d := qX5_fitted_48) (k := ?_)
    refine S_lret hz qX5_fitted_49 ?_
    refine REL.mk ?_
    unfold fitS
    first
      | (rw [if_pos (by omega)]; done)
      | (rw [if_neg (by omega), if_pos (by omega)]; done)
      | (rw [if_neg (by omega), if_neg (by omega), if_pos (by omega)]; done)
      | (rw [if_neg (by omega), if_neg (by omega), if_neg (by omega), if_neg (by omega)]; done)
      | (rw [if_neg (by omega), if_neg (by omega), if_neg (by omega), if_pos (by omega), if_pos (g4.mp c57)]; done)
      | (rw [if_neg (by omega), if_neg (by omega), if_neg (by omega), if_pos (by omega), if_neg (fun q => c57 (g4.mpr q))]; done)
      | (rw [if_neg (by omega), if_neg (by omega), if_neg (by omega), if_pos (by omega), if_pos (g4.mp c57)]; rfl)
      | (rw [if_neg (by omega), if_neg (by omega), if_neg (by omega), if_pos (by omega), if_neg (fun q => c57 (g4.mpr q))]; rfl)
  by_cases s4_2 : V t 0 = 2
  · refine S_tabIn (tgt := 50) (off := 46) qX5_fitted_4 (by omega) (by omega) (by rw [s4_2]; rfl) (by decide) ?_
    refine S_ll1 qX5_fitted_50 ?_
    refine S_l2i qX5_fitted_51 ?_
    refine S_i2l (d := qX5_fitted_52) (k := ?_)
    refine S_lret hz qX5_fitted_53 ?_
    refine REL.mk ?_
    unfold fitS
    first
      | (rw [if_pos (by omega)]; done)
      | (rw [if_neg (by omega), if_pos (by omega)]; done)
      | (rw [if_neg (by omega), if_neg (by omega), if_pos (by omega)]; done)
      | (rw [if_neg (by omega), if_neg (by omega), if_neg (by omega), if_neg (by omega)]; done)
      | (rw [if_neg (by omega), if_neg (by omega), if_neg (by omega), if_pos (by omega), if_pos (g4.mp c57)]; done)
      | (rw [if_neg (by omega), if_neg (by omega), if_neg (by omega), if_pos (by omega), if_neg (fun q => c57 (g4.mpr q))]; done)
      | (rw [if_neg (by omega), if_neg (by omega), if_neg (by omega), if_pos (by omega), if_pos (g4.mp c57)]; rfl)
      | (rw [if_neg (by omega), if_neg (by omega), if_neg (by omega), if_pos (by omega), if_neg (fun q => c57 (g4.mpr q))]; rfl)
  by_cases s4_3 : V t 0 = 3
  · refine S_tabIn (tgt := 66) (off := 62) qX5_fitted_4 (by omega) (by omega) (by rw [s4_3]; rfl) (by decide) ?_
    refine S_ll1 qX5_fitted_66 ?_
    refine S_lret hz qX5_fitted_67 ?_
    refine REL.mk ?_
    unfold fitS
    first
      | (rw [if_pos (by omega)]; done)
      | (rw [if_neg (by omega), if_pos (by omega)]; done)
      | (rw [if_neg (by omega), if_neg (by omega), if_pos (by omega)]; done)
      | (rw [if_neg (by omega), if_neg (by omega), if_neg (by omega), if_neg (by omega)]; done)
      | (rw [if_neg (by omega), if_neg (by omega), if_neg (by omega), if_pos (by omega), if_pos (g4.mp c57)]; done)
      | (rw [if_neg (by omega), if_neg (by omega), if_neg (by omega), if_pos (by omega), if_neg (fun q => c57 (g4.mpr q))]; done)
      | (rw [if_neg (by omega), if_neg (by omega), if_neg (by omega), if_pos (by omega), if_pos (g4.mp c57)]; rfl)
      | (rw [if_neg (by omega), if_neg (by omega), if_neg (by omega), if_pos (by omega), if_neg (fun q => c57 (g4.mpr q))]; rfl)
  by_cases s4_4 : V t 0 = 4
  · refine S_tabIn (tgt := 54) (off := 50) qX5_fitted_4 (by omega) (by omega) (by rw [s4_4]; rfl) (by decide) ?_
    refine S_ll1 qX5_fitted_54 ?_
    refine S_lconst qX5_fitted_55 ?_
    refine S_lcmp qX5_fitted_56 ?_
    refine S_if_eq (d := qX5_fitted_57) (ha := io_rg _) (kt := fun c57 => ?_) (kf := fun c57 => ?_)
    · refine S_lconst qX5_fitted_64 ?_
      refine S_lret hz qX5_fitted_65 ?_
      refine REL.mk ?_
      unfold fitS
      first
        | (rw [if_pos (by omega)]; done)
        | (rw [if_neg (by omega), if_pos (by omega)]; done)
        | (rw [if_neg (by omega), if_neg (by omega), if_pos (by omega)]; done)
        | (rw [if_neg (by omega), if_neg (by omega), if_neg (by omega), if_neg (by omega)]; done)
        | (rw [if_neg (by omega), if_neg (by omega), if_neg (by omega), if_pos (by omega), if_pos (g4.mp c57)]; done)
        | (rw [if_neg (by omega), if_neg (by omega), if_neg (by omega), if_pos (by omega), if_neg (fun q => c57 (g4.mpr q))]; done)
        | (rw [if_neg (by omega), if_neg (by omega), if_neg (by omega), if_pos (by omega), if_pos (g4.mp c57)]; rfl)
        | (rw [if_neg (by omega), if_neg (by omega), if_neg (by omega), if_pos (by omega), if_neg (fun q => c57 (g4.mpr q))]; rfl)
    · refine S_lconst qX5_fitted_60 ?_
      refine S_goto qX5_fitted_61 ?_
      refine S_lret hz qX5_fitted_65 ?_
      refine REL.mk ?_
      unfold fitS
      first
        | (rw [if_pos (by omega)]; done)
        | (rw [if_neg (by omega), if_pos (by omega)]; done)
        | (rw [if_neg (by omega), if_neg (by omega), if_pos (by omega)]; done)
        | (rw [if_neg (by omega), if_neg (by omega), if_neg (by omega), if_neg (by omega)]; done)
        | (rw [if_neg (by omega), if_neg (by omega), if_neg (by omega), if_pos (by omega), if_pos (g4.mp c57)]; done)
        | (rw [if_neg (by omega), if_neg (by omega), if_neg (by omega), if_pos (by omega), if_neg (fun q => c57 (g4.mpr q))]; done)
        | (rw [if_neg (by omega), if_neg (by omega), if_neg (by omega), if_pos (by omega), if_pos (g4.mp c57)]; rfl)
        | (rw [if_neg (by omega), if_neg (by omega), if_neg (by omega), if_pos (by omega), if_neg (fun q => c57 (g4.mpr q))]; rfl)
  refine S_tabOut (tgt := 66) qX5_fitted_4 (by omega) (by omega) (by decide) ?_
  refine S_ll1 qX5_fitted_66 ?_
  refine S_lret hz qX5_fitted_67 ?_
  refine REL.mk ?_
  unfold fitS
  first
    | (rw [if_pos (by omega)]; done)
    | (rw [if_neg (by omega), if_pos (by omega)]; done)
    | (rw [if_neg (by omega), if_neg (by omega), if_pos (by omega)]; done)
    | (rw [if_neg (by omega), if_neg (by omega), if_neg (by omega), if_neg (by omega)]; done)
    | (rw [if_neg (by omega), if_neg (by omega), if_neg (by omega), if_pos (by omega), if_pos (g4.mp c57)]; done)
    | (rw [if_neg (by omega), if_neg (by omega), if_neg (by omega), if_pos (by omega), if_neg (fun q => c57 (g4.mpr q))]; done)
    | (rw [if_neg (by omega), if_neg (by omega), if_neg (by omega), if_pos (by omega), if_pos (g4.mp c57)]; rfl)
    | (rw [if_neg (by omega), if_neg (by omega), if_neg (by omega), if_pos (by omega), if_neg (fun q => c57 (g4.mpr q))]; rfl)

theorem c_hasStretch {g : GC} {t : Nat} {V : MM} {a n : Int} (ht : isT t) (rl : 0 ≤ V t 1 ∧ V t 1 ≤ 60) (ra : -2147483648 ≤ a ∧ a ≤ 2147483647) (rn : -2147483648 ≤ n ∧ n ≤ 2147483647) : Ct g mX5_hasStretch 1 [vr t, vi a, vi n] V (RB V (0 ≤ n ∧ 0 ≤ a ∧ a ≤ V t 1 - n)) := by
  refine Ct.of (ls := [some (vr t), some (vi a), some (vi n)]) (plainFor_of_name (by decide +kernel)) rfl (by exact Nat.le_of_ble_eq_true rfl) (fun X hz hD => ?_)
  refine S_il2 qX5_hasStretch_0 ?_
  refine S_if_lt (d := qX5_hasStretch_1) (kt := fun c1 => ?_) (kf := fun c1 => ?_)
  · refine S_iconst qX5_hasStretch_22 ?_
    refine S_zret hz qX5_hasStretch_23 (by omega) ?_
    exact RB.mk (by omega)
  · refine S_il1 qX5_hasStretch_4 ?_
    refine S_if_lt (d := qX5_hasStretch_5) (kt := fun c5 => ?_) (kf := fun c5 => ?_)
    · refine S_iconst qX5_hasStretch_22 ?_
      refine S_zret hz qX5_hasStretch_23 (by omega) ?_
      exact RB.mk (by omega)
    · refine S_il1 qX5_hasStretch_8 ?_
      refine S_al0 qX5_hasStretch_9 ?_
      refine S_getI qX5_hasStretch_10 fX5_26 (T_1 ht) ?_
      refine S_il2 qX5_hasStretch_13 ?_
      refine S_isub qX5_hasStretch_14 ?_
      refine S_icmp_gt (d := qX5_hasStretch_15) (kt := fun c15 => ?_) (kf := fun c15 => ?_)
      · refine S_iconst qX5_hasStretch_22 ?_
        refine S_zret hz qX5_hasStretch_23 (by omega) ?_
        exact RB.mk (by omega)
      · refine S_iconst qX5_hasStretch_18 ?_
        refine S_goto qX5_hasStretch_19 ?_
        refine S_zret hz qX5_hasStretch_23 (by omega) ?_
        exact RB.mk (by omega)
end
section
theorem c_bodyOf_0_0 {g : GC} {V : MM} : Ct g mX0_bodyOf 1 [vi 0, vi 0] V (RE V (10)) := by
  refine Ct.of (ls := [some (vi 0), some (vi 0), none, none, none]) (plainFor_of_name (by decide +kernel)) rfl (by exact Nat.le_of_ble_eq_true rfl) (fun X hz hD => ?_)
  refine S_il1 qX0_bodyOf_0 ?_
  refine S_is2 qX0_bodyOf_1 (K := ?_)
  refine S_iconst qX0_bodyOf_2 ?_
  refine S_is3 qX0_bodyOf_3 (K := ?_)
  refine S_il3 qX0_bodyOf_4 ?_
  refine S_bipush (d := qX0_bodyOf_5) (k := ?_)
  refine S_icmp_ge (d := qX0_bodyOf_7) (kt := fun c => absurd c (by decide)) (kf := fun _ => ?_)
  refine S_il2 qX0_bodyOf_10 ?_
  refine S_if_lt (d := qX0_bodyOf_11) (kt := fun c => absurd c (by decide)) (kf := fun _ => ?_)
  refine S_il2 qX0_bodyOf_14 ?_
  refine S_bipush (d := qX0_bodyOf_15) (k := ?_)
  refine S_icmp_ge (d := qX0_bodyOf_17) (kt := fun c => absurd c (by decide)) (kf := fun _ => ?_)
  refine S_il2 qX0_bodyOf_20 ?_
  refine S_iconst qX0_bodyOf_21 ?_
  refine S_imul qX0_bodyOf_22 ?_
  refine S_il0 qX0_bodyOf_23 ?_
  refine S_iadd qX0_bodyOf_24 ?_
  refine S_is4 qX0_bodyOf_25 (K := ?_)
  refine S_il4 qX0_bodyOf_27 ?_
  refine S_if_lt (d := qX0_bodyOf_29) (kt := fun c => absurd c (by decide)) (kf := fun _ => ?_)
  refine S_il4 qX0_bodyOf_32 ?_
  refine S_gets (v := vr 221) qX0_bodyOf_34 sX0_50 (fun g2 U H h => h.2.2.1) ?_
  refine S_tlen qX0_bodyOf_37 (fun g2 U H h => ro_bodies h) ?_
  refine S_icmp_ge (d := qX0_bodyOf_38) (kt := fun c => absurd c (by decide)) (kf := fun _ => ?_)
  refine S_gets (v := vr 221) qX0_bodyOf_41 sX0_50 (fun g2 U H h => h.2.2.1) ?_
  refine S_il4 qX0_bodyOf_44 ?_
  refine S_tild (z := 10) qX0_bodyOf_46 (fun g2 U H h => ro_bodies h) (by decide) (by decide) ?_
  refine S_if_eq (d := qX0_bodyOf_47) (kt := fun c => absurd c (by decide)) (kf := fun _ => ?_)
  refine S_gets (v := vr 221) qX0_bodyOf_50 sX0_50 (fun g2 U H h => h.2.2.1) ?_
  refine S_il4 qX0_bodyOf_53 ?_
  refine S_tild (z := 10) qX0_bodyOf_55 (fun g2 U H h => ro_bodies h) (by decide) (by decide) ?_
  refine S_iret hz qX0_bodyOf_56 ?_
  exact ⟨rfl, rfl⟩

theorem c_bodyOf_0_1 {g : GC} {V : MM} : Ct g mX0_bodyOf 1 [vi 1, vi 0] V (RE V (11)) := by
  refine Ct.of (ls := [some (vi 1), some (vi 0), none, none, none]) (plainFor_of_name (by decide +kernel)) rfl (by exact Nat.le_of_ble_eq_true rfl) (fun X hz hD => ?_)
  refine S_il1 qX0_bodyOf_0 ?_
  refine S_is2 qX0_bodyOf_1 (K := ?_)
  refine S_iconst qX0_bodyOf_2 ?_
  refine S_is3 qX0_bodyOf_3 (K := ?_)
  refine S_il3 qX0_bodyOf_4 ?_
  refine S_bipush (d := qX0_bodyOf_5) (k := ?_)
  refine S_icmp_ge (d := qX0_bodyOf_7) (kt := fun c => absurd c (by decide)) (kf := fun _ => ?_)
  refine S_il2 qX0_bodyOf_10 ?_
  refine S_if_lt (d := qX0_bodyOf_11) (kt := fun c => absurd c (by decide)) (kf := fun _ => ?_)
  refine S_il2 qX0_bodyOf_14 ?_
  refine S_bipush (d := qX0_bodyOf_15) (k := ?_)
  refine S_icmp_ge (d := qX0_bodyOf_17) (kt := fun c => absurd c (by decide)) (kf := fun _ => ?_)
  refine S_il2 qX0_bodyOf_20 ?_
  refine S_iconst qX0_bodyOf_21 ?_
  refine S_imul qX0_bodyOf_22 ?_
  refine S_il0 qX0_bodyOf_23 ?_
  refine S_iadd qX0_bodyOf_24 ?_
  refine S_is4 qX0_bodyOf_25 (K := ?_)
  refine S_il4 qX0_bodyOf_27 ?_
  refine S_if_lt (d := qX0_bodyOf_29) (kt := fun c => absurd c (by decide)) (kf := fun _ => ?_)
  refine S_il4 qX0_bodyOf_32 ?_
  refine S_gets (v := vr 221) qX0_bodyOf_34 sX0_50 (fun g2 U H h => h.2.2.1) ?_
  refine S_tlen qX0_bodyOf_37 (fun g2 U H h => ro_bodies h) ?_
  refine S_icmp_ge (d := qX0_bodyOf_38) (kt := fun c => absurd c (by decide)) (kf := fun _ => ?_)
  refine S_gets (v := vr 221) qX0_bodyOf_41 sX0_50 (fun g2 U H h => h.2.2.1) ?_
  refine S_il4 qX0_bodyOf_44 ?_
  refine S_tild (z := 11) qX0_bodyOf_46 (fun g2 U H h => ro_bodies h) (by decide) (by decide) ?_
  refine S_if_eq (d := qX0_bodyOf_47) (kt := fun c => absurd c (by decide)) (kf := fun _ => ?_)
  refine S_gets (v := vr 221) qX0_bodyOf_50 sX0_50 (fun g2 U H h => h.2.2.1) ?_
  refine S_il4 qX0_bodyOf_53 ?_
  refine S_tild (z := 11) qX0_bodyOf_55 (fun g2 U H h => ro_bodies h) (by decide) (by decide) ?_
  refine S_iret hz qX0_bodyOf_56 ?_
  exact ⟨rfl, rfl⟩

theorem c_bodyOf_0_2 {g : GC} {V : MM} : Ct g mX0_bodyOf 1 [vi 2, vi 0] V (RE V (12)) := by
  refine Ct.of (ls := [some (vi 2), some (vi 0), none, none, none]) (plainFor_of_name (by decide +kernel)) rfl (by exact Nat.le_of_ble_eq_true rfl) (fun X hz hD => ?_)
  refine S_il1 qX0_bodyOf_0 ?_
  refine S_is2 qX0_bodyOf_1 (K := ?_)
  refine S_iconst qX0_bodyOf_2 ?_
  refine S_is3 qX0_bodyOf_3 (K := ?_)
  refine S_il3 qX0_bodyOf_4 ?_
  refine S_bipush (d := qX0_bodyOf_5) (k := ?_)
  refine S_icmp_ge (d := qX0_bodyOf_7) (kt := fun c => absurd c (by decide)) (kf := fun _ => ?_)
  refine S_il2 qX0_bodyOf_10 ?_
  refine S_if_lt (d := qX0_bodyOf_11) (kt := fun c => absurd c (by decide)) (kf := fun _ => ?_)
  refine S_il2 qX0_bodyOf_14 ?_
  refine S_bipush (d := qX0_bodyOf_15) (k := ?_)
  refine S_icmp_ge (d := qX0_bodyOf_17) (kt := fun c => absurd c (by decide)) (kf := fun _ => ?_)
  refine S_il2 qX0_bodyOf_20 ?_
  refine S_iconst qX0_bodyOf_21 ?_
  refine S_imul qX0_bodyOf_22 ?_
  refine S_il0 qX0_bodyOf_23 ?_
  refine S_iadd qX0_bodyOf_24 ?_
  refine S_is4 qX0_bodyOf_25 (K := ?_)
  refine S_il4 qX0_bodyOf_27 ?_
  refine S_if_lt (d := qX0_bodyOf_29) (kt := fun c => absurd c (by decide)) (kf := fun _ => ?_)
  refine S_il4 qX0_bodyOf_32 ?_
  refine S_gets (v := vr 221) qX0_bodyOf_34 sX0_50 (fun g2 U H h => h.2.2.1) ?_
  refine S_tlen qX0_bodyOf_37 (fun g2 U H h => ro_bodies h) ?_
  refine S_icmp_ge (d := qX0_bodyOf_38) (kt := fun c => absurd c (by decide)) (kf := fun _ => ?_)
  refine S_gets (v := vr 221) qX0_bodyOf_41 sX0_50 (fun g2 U H h => h.2.2.1) ?_
  refine S_il4 qX0_bodyOf_44 ?_
  refine S_tild (z := 12) qX0_bodyOf_46 (fun g2 U H h => ro_bodies h) (by decide) (by decide) ?_
  refine S_if_eq (d := qX0_bodyOf_47) (kt := fun c => absurd c (by decide)) (kf := fun _ => ?_)
  refine S_gets (v := vr 221) qX0_bodyOf_50 sX0_50 (fun g2 U H h => h.2.2.1) ?_
  refine S_il4 qX0_bodyOf_53 ?_
  refine S_tild (z := 12) qX0_bodyOf_55 (fun g2 U H h => ro_bodies h) (by decide) (by decide) ?_
  refine S_iret hz qX0_bodyOf_56 ?_
  exact ⟨rfl, rfl⟩

theorem c_bodyOf_1_0 {g : GC} {V : MM} : Ct g mX0_bodyOf 1 [vi 0, vi 1] V (RE V (10)) := by
  refine Ct.of (ls := [some (vi 0), some (vi 1), none, none, none]) (plainFor_of_name (by decide +kernel)) rfl (by exact Nat.le_of_ble_eq_true rfl) (fun X hz hD => ?_)
  refine S_il1 qX0_bodyOf_0 ?_
  refine S_is2 qX0_bodyOf_1 (K := ?_)
  refine S_iconst qX0_bodyOf_2 ?_
  refine S_is3 qX0_bodyOf_3 (K := ?_)
  refine S_il3 qX0_bodyOf_4 ?_
  refine S_bipush (d := qX0_bodyOf_5) (k := ?_)
  refine S_icmp_ge (d := qX0_bodyOf_7) (kt := fun c => absurd c (by decide)) (kf := fun _ => ?_)
  refine S_il2 qX0_bodyOf_10 ?_
  refine S_if_lt (d := qX0_bodyOf_11) (kt := fun c => absurd c (by decide)) (kf := fun _ => ?_)
  refine S_il2 qX0_bodyOf_14 ?_
  refine S_bipush (d := qX0_bodyOf_15) (k := ?_)
  refine S_icmp_ge (d := qX0_bodyOf_17) (kt := fun c => absurd c (by decide)) (kf := fun _ => ?_)
  refine S_il2 qX0_bodyOf_20 ?_
  refine S_iconst qX0_bodyOf_21 ?_
  refine S_imul qX0_bodyOf_22 ?_
  refine S_il0 qX0_bodyOf_23 ?_
  refine S_iadd qX0_bodyOf_24 ?_
  refine S_is4 qX0_bodyOf_25 (K := ?_)
  refine S_il4 qX0_bodyOf_27 ?_
  refine S_if_lt (d := qX0_bodyOf_29) (kt := fun c => absurd c (by decide)) (kf := fun _ => ?_)
  refine S_il4 qX0_bodyOf_32 ?_
  refine S_gets (v := vr 221) qX0_bodyOf_34 sX0_50 (fun g2 U H h => h.2.2.1) ?_
  refine S_tlen qX0_bodyOf_37 (fun g2 U H h => ro_bodies h) ?_
  refine S_icmp_ge (d := qX0_bodyOf_38) (kt := fun c => absurd c (by decide)) (kf := fun _ => ?_)
  refine S_gets (v := vr 221) qX0_bodyOf_41 sX0_50 (fun g2 U H h => h.2.2.1) ?_
  refine S_il4 qX0_bodyOf_44 ?_
  refine S_tild (z := 0) qX0_bodyOf_46 (fun g2 U H h => ro_bodies h) (by decide) (by decide) ?_
  refine S_if_eq (d := qX0_bodyOf_47) (kt := fun _ => ?_) (kf := fun c => absurd c (by decide))
  refine S_gets (v := vr 220) qX0_bodyOf_57 sX0_53 (fun g2 U H h => h.2.1.1) ?_
  refine S_il2 qX0_bodyOf_60 ?_
  refine S_tild (z := 0) qX0_bodyOf_61 (fun g2 U H h => ro_above h) (by decide) (by decide) ?_
  refine S_is2 qX0_bodyOf_62 (K := ?_)
  refine S_inc3 qX0_bodyOf_63 (K := ?_)
  refine S_goto qX0_bodyOf_66 ?_
  refine S_il3 qX0_bodyOf_4 ?_
  refine S_bipush (d := qX0_bodyOf_5) (k := ?_)
  refine S_icmp_ge (d := qX0_bodyOf_7) (kt := fun c => absurd c (by decide)) (kf := fun _ => ?_)
  refine S_il2 qX0_bodyOf_10 ?_
  refine S_if_lt (d := qX0_bodyOf_11) (kt := fun c => absurd c (by decide)) (kf := fun _ => ?_)
  refine S_il2 qX0_bodyOf_14 ?_
  refine S_bipush (d := qX0_bodyOf_15) (k := ?_)
  refine S_icmp_ge (d := qX0_bodyOf_17) (kt := fun c => absurd c (by decide)) (kf := fun _ => ?_)
  refine S_il2 qX0_bodyOf_20 ?_
  refine S_iconst qX0_bodyOf_21 ?_
  refine S_imul qX0_bodyOf_22 ?_
  refine S_il0 qX0_bodyOf_23 ?_
  refine S_iadd qX0_bodyOf_24 ?_
  refine S_is4 qX0_bodyOf_25 (K := ?_)
  refine S_il4 qX0_bodyOf_27 ?_
  refine S_if_lt (d := qX0_bodyOf_29) (kt := fun c => absurd c (by decide)) (kf := fun _ => ?_)
  refine S_il4 qX0_bodyOf_32 ?_
  refine S_gets (v := vr 221) qX0_bodyOf_34 sX0_50 (fun g2 U H h => h.2.2.1) ?_
  refine S_tlen qX0_bodyOf_37 (fun g2 U H h => ro_bodies h) ?_
  refine S_icmp_ge (d := qX0_bodyOf_38) (kt := fun c => absurd c (by decide)) (kf := fun _ => ?_)
  refine S_gets (v := vr 221) qX0_bodyOf_41 sX0_50 (fun g2 U H h => h.2.2.1) ?_
  refine S_il4 qX0_bodyOf_44 ?_
  refine S_tild (z := 10) qX0_bodyOf_46 (fun g2 U H h => ro_bodies h) (by decide) (by decide) ?_
  refine S_if_eq (d := qX0_bodyOf_47) (kt := fun c => absurd c (by decide)) (kf := fun _ => ?_)
  refine S_gets (v := vr 221) qX0_bodyOf_50 sX0_50 (fun g2 U H h => h.2.2.1) ?_
  refine S_il4 qX0_bodyOf_53 ?_
  refine S_tild (z := 10) qX0_bodyOf_55 (fun g2 U H h => ro_bodies h) (by decide) (by decide) ?_
  refine S_iret hz qX0_bodyOf_56 ?_
  exact ⟨rfl, rfl⟩

theorem c_bodyOf_1_1 {g : GC} {V : MM} : Ct g mX0_bodyOf 1 [vi 1, vi 1] V (RE V (20)) := by
  refine Ct.of (ls := [some (vi 1), some (vi 1), none, none, none]) (plainFor_of_name (by decide +kernel)) rfl (by exact Nat.le_of_ble_eq_true rfl) (fun X hz hD => ?_)
  refine S_il1 qX0_bodyOf_0 ?_
  refine S_is2 qX0_bodyOf_1 (K := ?_)
  refine S_iconst qX0_bodyOf_2 ?_
  refine S_is3 qX0_bodyOf_3 (K := ?_)
  refine S_il3 qX0_bodyOf_4 ?_
  refine S_bipush (d := qX0_bodyOf_5) (k := ?_)
  refine S_icmp_ge (d := qX0_bodyOf_7) (kt := fun c => absurd c (by decide)) (kf := fun _ => ?_)
  refine S_il2 qX0_bodyOf_10 ?_
  refine S_if_lt (d := qX0_bodyOf_11) (kt := fun c => absurd c (by decide)) (kf := fun _ => ?_)
  refine S_il2 qX0_bodyOf_14 ?_
  refine S_bipush (d := qX0_bodyOf_15) (k := ?_)
  refine S_icmp_ge (d := qX0_bodyOf_17) (kt := fun c => absurd c (by decide)) (kf := fun _ => ?_)
  refine S_il2 qX0_bodyOf_20 ?_
  refine S_iconst qX0_bodyOf_21 ?_
  refine S_imul qX0_bodyOf_22 ?_
  refine S_il0 qX0_bodyOf_23 ?_
  refine S_iadd qX0_bodyOf_24 ?_
  refine S_is4 qX0_bodyOf_25 (K := ?_)
  refine S_il4 qX0_bodyOf_27 ?_
  refine S_if_lt (d := qX0_bodyOf_29) (kt := fun c => absurd c (by decide)) (kf := fun _ => ?_)
  refine S_il4 qX0_bodyOf_32 ?_
  refine S_gets (v := vr 221) qX0_bodyOf_34 sX0_50 (fun g2 U H h => h.2.2.1) ?_
  refine S_tlen qX0_bodyOf_37 (fun g2 U H h => ro_bodies h) ?_
  refine S_icmp_ge (d := qX0_bodyOf_38) (kt := fun c => absurd c (by decide)) (kf := fun _ => ?_)
  refine S_gets (v := vr 221) qX0_bodyOf_41 sX0_50 (fun g2 U H h => h.2.2.1) ?_
  refine S_il4 qX0_bodyOf_44 ?_
  refine S_tild (z := 20) qX0_bodyOf_46 (fun g2 U H h => ro_bodies h) (by decide) (by decide) ?_
  refine S_if_eq (d := qX0_bodyOf_47) (kt := fun c => absurd c (by decide)) (kf := fun _ => ?_)
  refine S_gets (v := vr 221) qX0_bodyOf_50 sX0_50 (fun g2 U H h => h.2.2.1) ?_
  refine S_il4 qX0_bodyOf_53 ?_
  refine S_tild (z := 20) qX0_bodyOf_55 (fun g2 U H h => ro_bodies h) (by decide) (by decide) ?_
  refine S_iret hz qX0_bodyOf_56 ?_
  exact ⟨rfl, rfl⟩

theorem c_bodyOf_1_2 {g : GC} {V : MM} : Ct g mX0_bodyOf 1 [vi 2, vi 1] V (RE V (12)) := by
  refine Ct.of (ls := [some (vi 2), some (vi 1), none, none, none]) (plainFor_of_name (by decide +kernel)) rfl (by exact Nat.le_of_ble_eq_true rfl) (fun X hz hD => ?_)
  refine S_il1 qX0_bodyOf_0 ?_
  refine S_is2 qX0_bodyOf_1 (K := ?_)
  refine S_iconst qX0_bodyOf_2 ?_
  refine S_is3 qX0_bodyOf_3 (K := ?_)
  refine S_il3 qX0_bodyOf_4 ?_
  refine S_bipush (d := qX0_bodyOf_5) (k := ?_)
  refine S_icmp_ge (d := qX0_bodyOf_7) (kt := fun c => absurd c (by decide)) (kf := fun _ => ?_)
  refine S_il2 qX0_bodyOf_10 ?_
  refine S_if_lt (d := qX0_bodyOf_11) (kt := fun c => absurd c (by decide)) (kf := fun _ => ?_)
  refine S_il2 qX0_bodyOf_14 ?_
  refine S_bipush (d := qX0_bodyOf_15) (k := ?_)
  refine S_icmp_ge (d := qX0_bodyOf_17) (kt := fun c => absurd c (by decide)) (kf := fun _ => ?_)
  refine S_il2 qX0_bodyOf_20 ?_
  refine S_iconst qX0_bodyOf_21 ?_
  refine S_imul qX0_bodyOf_22 ?_
  refine S_il0 qX0_bodyOf_23 ?_
  refine S_iadd qX0_bodyOf_24 ?_
  refine S_is4 qX0_bodyOf_25 (K := ?_)
  refine S_il4 qX0_bodyOf_27 ?_
  refine S_if_lt (d := qX0_bodyOf_29) (kt := fun c => absurd c (by decide)) (kf := fun _ => ?_)
  refine S_il4 qX0_bodyOf_32 ?_
  refine S_gets (v := vr 221) qX0_bodyOf_34 sX0_50 (fun g2 U H h => h.2.2.1) ?_
  refine S_tlen qX0_bodyOf_37 (fun g2 U H h => ro_bodies h) ?_
  refine S_icmp_ge (d := qX0_bodyOf_38) (kt := fun c => absurd c (by decide)) (kf := fun _ => ?_)
  refine S_gets (v := vr 221) qX0_bodyOf_41 sX0_50 (fun g2 U H h => h.2.2.1) ?_
  refine S_il4 qX0_bodyOf_44 ?_
  refine S_tild (z := 0) qX0_bodyOf_46 (fun g2 U H h => ro_bodies h) (by decide) (by decide) ?_
  refine S_if_eq (d := qX0_bodyOf_47) (kt := fun _ => ?_) (kf := fun c => absurd c (by decide))
  refine S_gets (v := vr 220) qX0_bodyOf_57 sX0_53 (fun g2 U H h => h.2.1.1) ?_
  refine S_il2 qX0_bodyOf_60 ?_
  refine S_tild (z := 0) qX0_bodyOf_61 (fun g2 U H h => ro_above h) (by decide) (by decide) ?_
  refine S_is2 qX0_bodyOf_62 (K := ?_)
  refine S_inc3 qX0_bodyOf_63 (K := ?_)
  refine S_goto qX0_bodyOf_66 ?_
  refine S_il3 qX0_bodyOf_4 ?_
  refine S_bipush (d := qX0_bodyOf_5) (k := ?_)
  refine S_icmp_ge (d := qX0_bodyOf_7) (kt := fun c => absurd c (by decide)) (kf := fun _ => ?_)
  refine S_il2 qX0_bodyOf_10 ?_
  refine S_if_lt (d := qX0_bodyOf_11) (kt := fun c => absurd c (by decide)) (kf := fun _ => ?_)
  refine S_il2 qX0_bodyOf_14 ?_
  refine S_bipush (d := qX0_bodyOf_15) (k := ?_)
  refine S_icmp_ge (d := qX0_bodyOf_17) (kt := fun c => absurd c (by decide)) (kf := fun _ => ?_)
  refine S_il2 qX0_bodyOf_20 ?_
  refine S_iconst qX0_bodyOf_21 ?_
  refine S_imul qX0_bodyOf_22 ?_
  refine S_il0 qX0_bodyOf_23 ?_
  refine S_iadd qX0_bodyOf_24 ?_
  refine S_is4 qX0_bodyOf_25 (K := ?_)
  refine S_il4 qX0_bodyOf_27 ?_
  refine S_if_lt (d := qX0_bodyOf_29) (kt := fun c => absurd c (by decide)) (kf := fun _ => ?_)
  refine S_il4 qX0_bodyOf_32 ?_
  refine S_gets (v := vr 221) qX0_bodyOf_34 sX0_50 (fun g2 U H h => h.2.2.1) ?_
  refine S_tlen qX0_bodyOf_37 (fun g2 U H h => ro_bodies h) ?_
  refine S_icmp_ge (d := qX0_bodyOf_38) (kt := fun c => absurd c (by decide)) (kf := fun _ => ?_)
  refine S_gets (v := vr 221) qX0_bodyOf_41 sX0_50 (fun g2 U H h => h.2.2.1) ?_
  refine S_il4 qX0_bodyOf_44 ?_
  refine S_tild (z := 12) qX0_bodyOf_46 (fun g2 U H h => ro_bodies h) (by decide) (by decide) ?_
  refine S_if_eq (d := qX0_bodyOf_47) (kt := fun c => absurd c (by decide)) (kf := fun _ => ?_)
  refine S_gets (v := vr 221) qX0_bodyOf_50 sX0_50 (fun g2 U H h => h.2.2.1) ?_
  refine S_il4 qX0_bodyOf_53 ?_
  refine S_tild (z := 12) qX0_bodyOf_55 (fun g2 U H h => ro_bodies h) (by decide) (by decide) ?_
  refine S_iret hz qX0_bodyOf_56 ?_
  exact ⟨rfl, rfl⟩

theorem c_bodyOf_2_0 {g : GC} {V : MM} : Ct g mX0_bodyOf 1 [vi 0, vi 2] V (RE V (30)) := by
  refine Ct.of (ls := [some (vi 0), some (vi 2), none, none, none]) (plainFor_of_name (by decide +kernel)) rfl (by exact Nat.le_of_ble_eq_true rfl) (fun X hz hD => ?_)
  refine S_il1 qX0_bodyOf_0 ?_
  refine S_is2 qX0_bodyOf_1 (K := ?_)
  refine S_iconst qX0_bodyOf_2 ?_
  refine S_is3 qX0_bodyOf_3 (K := ?_)
  refine S_il3 qX0_bodyOf_4 ?_
  refine S_bipush (d := qX0_bodyOf_5) (k := ?_)
  refine S_icmp_ge (d := qX0_bodyOf_7) (kt := fun c => absurd c (by decide)) (kf := fun _ => ?_)
  refine S_il2 qX0_bodyOf_10 ?_
  refine S_if_lt (d := qX0_bodyOf_11) (kt := fun c => absurd c (by decide)) (kf := fun _ => ?_)
  refine S_il2 qX0_bodyOf_14 ?_
  refine S_bipush (d := qX0_bodyOf_15) (k := ?_)
  refine S_icmp_ge (d := qX0_bodyOf_17) (kt := fun c => absurd c (by decide)) (kf := fun _ => ?_)
  refine S_il2 qX0_bodyOf_20 ?_
  refine S_iconst qX0_bodyOf_21 ?_
  refine S_imul qX0_bodyOf_22 ?_
  refine S_il0 qX0_bodyOf_23 ?_
  refine S_iadd qX0_bodyOf_24 ?_
  refine S_is4 qX0_bodyOf_25 (K := ?_)
  refine S_il4 qX0_bodyOf_27 ?_
  refine S_if_lt (d := qX0_bodyOf_29) (kt := fun c => absurd c (by decide)) (kf := fun _ => ?_)
  refine S_il4 qX0_bodyOf_32 ?_
  refine S_gets (v := vr 221) qX0_bodyOf_34 sX0_50 (fun g2 U H h => h.2.2.1) ?_
  refine S_tlen qX0_bodyOf_37 (fun g2 U H h => ro_bodies h) ?_
  refine S_icmp_ge (d := qX0_bodyOf_38) (kt := fun c => absurd c (by decide)) (kf := fun _ => ?_)
  refine S_gets (v := vr 221) qX0_bodyOf_41 sX0_50 (fun g2 U H h => h.2.2.1) ?_
  refine S_il4 qX0_bodyOf_44 ?_
  refine S_tild (z := 30) qX0_bodyOf_46 (fun g2 U H h => ro_bodies h) (by decide) (by decide) ?_
  refine S_if_eq (d := qX0_bodyOf_47) (kt := fun c => absurd c (by decide)) (kf := fun _ => ?_)
  refine S_gets (v := vr 221) qX0_bodyOf_50 sX0_50 (fun g2 U H h => h.2.2.1) ?_
  refine S_il4 qX0_bodyOf_53 ?_
  refine S_tild (z := 30) qX0_bodyOf_55 (fun g2 U H h => ro_bodies h) (by decide) (by decide) ?_
  refine S_iret hz qX0_bodyOf_56 ?_
  exact ⟨rfl, rfl⟩

theorem c_bodyOf_2_1 {g : GC} {V : MM} : Ct g mX0_bodyOf 1 [vi 1, vi 2] V (RE V (11)) := by
  refine Ct.of (ls := [some (vi 1), some (vi 2), none, none, none]) (plainFor_of_name (by decide +kernel)) rfl (by exact Nat.le_of_ble_eq_true rfl) (fun X hz hD => ?_)
  refine S_il1 qX0_bodyOf_0 ?_
  refine S_is2 qX0_bodyOf_1 (K := ?_)
  refine S_iconst qX0_bodyOf_2 ?_
  refine S_is3 qX0_bodyOf_3 (K := ?_)
  refine S_il3 qX0_bodyOf_4 ?_
  refine S_bipush (d := qX0_bodyOf_5) (k := ?_)
  refine S_icmp_ge (d := qX0_bodyOf_7) (kt := fun c => absurd c (by decide)) (kf := fun _ => ?_)
  refine S_il2 qX0_bodyOf_10 ?_
  refine S_if_lt (d := qX0_bodyOf_11) (kt := fun c => absurd c (by decide)) (kf := fun _ => ?_)
  refine S_il2 qX0_bodyOf_14 ?_
  refine S_bipush (d := qX0_bodyOf_15) (k := ?_)
  refine S_icmp_ge (d := qX0_bodyOf_17) (kt := fun c => absurd c (by decide)) (kf := fun _ => ?_)
  refine S_il2 qX0_bodyOf_20 ?_
  refine S_iconst qX0_bodyOf_21 ?_
  refine S_imul qX0_bodyOf_22 ?_
  refine S_il0 qX0_bodyOf_23 ?_
  refine S_iadd qX0_bodyOf_24 ?_
  refine S_is4 qX0_bodyOf_25 (K := ?_)
  refine S_il4 qX0_bodyOf_27 ?_
  refine S_if_lt (d := qX0_bodyOf_29) (kt := fun c => absurd c (by decide)) (kf := fun _ => ?_)
  refine S_il4 qX0_bodyOf_32 ?_
  refine S_gets (v := vr 221) qX0_bodyOf_34 sX0_50 (fun g2 U H h => h.2.2.1) ?_
  refine S_tlen qX0_bodyOf_37 (fun g2 U H h => ro_bodies h) ?_
  refine S_icmp_ge (d := qX0_bodyOf_38) (kt := fun c => absurd c (by decide)) (kf := fun _ => ?_)
  refine S_gets (v := vr 221) qX0_bodyOf_41 sX0_50 (fun g2 U H h => h.2.2.1) ?_
  refine S_il4 qX0_bodyOf_44 ?_
  refine S_tild (z := 0) qX0_bodyOf_46 (fun g2 U H h => ro_bodies h) (by decide) (by decide) ?_
  refine S_if_eq (d := qX0_bodyOf_47) (kt := fun _ => ?_) (kf := fun c => absurd c (by decide))
  refine S_gets (v := vr 220) qX0_bodyOf_57 sX0_53 (fun g2 U H h => h.2.1.1) ?_
  refine S_il2 qX0_bodyOf_60 ?_
  refine S_tild (z := 0) qX0_bodyOf_61 (fun g2 U H h => ro_above h) (by decide) (by decide) ?_
  refine S_is2 qX0_bodyOf_62 (K := ?_)
  refine S_inc3 qX0_bodyOf_63 (K := ?_)
  refine S_goto qX0_bodyOf_66 ?_
  refine S_il3 qX0_bodyOf_4 ?_
  refine S_bipush (d := qX0_bodyOf_5) (k := ?_)
  refine S_icmp_ge (d := qX0_bodyOf_7) (kt := fun c => absurd c (by decide)) (kf := fun _ => ?_)
  refine S_il2 qX0_bodyOf_10 ?_
  refine S_if_lt (d := qX0_bodyOf_11) (kt := fun c => absurd c (by decide)) (kf := fun _ => ?_)
  refine S_il2 qX0_bodyOf_14 ?_
  refine S_bipush (d := qX0_bodyOf_15) (k := ?_)
  refine S_icmp_ge (d := qX0_bodyOf_17) (kt := fun c => absurd c (by decide)) (kf := fun _ => ?_)
  refine S_il2 qX0_bodyOf_20 ?_
  refine S_iconst qX0_bodyOf_21 ?_
  refine S_imul qX0_bodyOf_22 ?_
  refine S_il0 qX0_bodyOf_23 ?_
  refine S_iadd qX0_bodyOf_24 ?_
  refine S_is4 qX0_bodyOf_25 (K := ?_)
  refine S_il4 qX0_bodyOf_27 ?_
  refine S_if_lt (d := qX0_bodyOf_29) (kt := fun c => absurd c (by decide)) (kf := fun _ => ?_)
  refine S_il4 qX0_bodyOf_32 ?_
  refine S_gets (v := vr 221) qX0_bodyOf_34 sX0_50 (fun g2 U H h => h.2.2.1) ?_
  refine S_tlen qX0_bodyOf_37 (fun g2 U H h => ro_bodies h) ?_
  refine S_icmp_ge (d := qX0_bodyOf_38) (kt := fun c => absurd c (by decide)) (kf := fun _ => ?_)
  refine S_gets (v := vr 221) qX0_bodyOf_41 sX0_50 (fun g2 U H h => h.2.2.1) ?_
  refine S_il4 qX0_bodyOf_44 ?_
  refine S_tild (z := 11) qX0_bodyOf_46 (fun g2 U H h => ro_bodies h) (by decide) (by decide) ?_
  refine S_if_eq (d := qX0_bodyOf_47) (kt := fun c => absurd c (by decide)) (kf := fun _ => ?_)
  refine S_gets (v := vr 221) qX0_bodyOf_50 sX0_50 (fun g2 U H h => h.2.2.1) ?_
  refine S_il4 qX0_bodyOf_53 ?_
  refine S_tild (z := 11) qX0_bodyOf_55 (fun g2 U H h => ro_bodies h) (by decide) (by decide) ?_
  refine S_iret hz qX0_bodyOf_56 ?_
  exact ⟨rfl, rfl⟩

theorem c_bodyOf_2_2 {g : GC} {V : MM} : Ct g mX0_bodyOf 1 [vi 2, vi 2] V (RE V (12)) := by
  refine Ct.of (ls := [some (vi 2), some (vi 2), none, none, none]) (plainFor_of_name (by decide +kernel)) rfl (by exact Nat.le_of_ble_eq_true rfl) (fun X hz hD => ?_)
  refine S_il1 qX0_bodyOf_0 ?_
  refine S_is2 qX0_bodyOf_1 (K := ?_)
  refine S_iconst qX0_bodyOf_2 ?_
  refine S_is3 qX0_bodyOf_3 (K := ?_)
  refine S_il3 qX0_bodyOf_4 ?_
  refine S_bipush (d := qX0_bodyOf_5) (k := ?_)
  refine S_icmp_ge (d := qX0_bodyOf_7) (kt := fun c => absurd c (by decide)) (kf := fun _ => ?_)
  refine S_il2 qX0_bodyOf_10 ?_
  refine S_if_lt (d := qX0_bodyOf_11) (kt := fun c => absurd c (by decide)) (kf := fun _ => ?_)
  refine S_il2 qX0_bodyOf_14 ?_
  refine S_bipush (d := qX0_bodyOf_15) (k := ?_)
  refine S_icmp_ge (d := qX0_bodyOf_17) (kt := fun c => absurd c (by decide)) (kf := fun _ => ?_)
  refine S_il2 qX0_bodyOf_20 ?_
  refine S_iconst qX0_bodyOf_21 ?_
  refine S_imul qX0_bodyOf_22 ?_
  refine S_il0 qX0_bodyOf_23 ?_
  refine S_iadd qX0_bodyOf_24 ?_
  refine S_is4 qX0_bodyOf_25 (K := ?_)
  refine S_il4 qX0_bodyOf_27 ?_
  refine S_if_lt (d := qX0_bodyOf_29) (kt := fun c => absurd c (by decide)) (kf := fun _ => ?_)
  refine S_il4 qX0_bodyOf_32 ?_
  refine S_gets (v := vr 221) qX0_bodyOf_34 sX0_50 (fun g2 U H h => h.2.2.1) ?_
  refine S_tlen qX0_bodyOf_37 (fun g2 U H h => ro_bodies h) ?_
  refine S_icmp_ge (d := qX0_bodyOf_38) (kt := fun c => absurd c (by decide)) (kf := fun _ => ?_)
  refine S_gets (v := vr 221) qX0_bodyOf_41 sX0_50 (fun g2 U H h => h.2.2.1) ?_
  refine S_il4 qX0_bodyOf_44 ?_
  refine S_tild (z := 0) qX0_bodyOf_46 (fun g2 U H h => ro_bodies h) (by decide) (by decide) ?_
  refine S_if_eq (d := qX0_bodyOf_47) (kt := fun _ => ?_) (kf := fun c => absurd c (by decide))
  refine S_gets (v := vr 220) qX0_bodyOf_57 sX0_53 (fun g2 U H h => h.2.1.1) ?_
  refine S_il2 qX0_bodyOf_60 ?_
  refine S_tild (z := 0) qX0_bodyOf_61 (fun g2 U H h => ro_above h) (by decide) (by decide) ?_
  refine S_is2 qX0_bodyOf_62 (K := ?_)
  refine S_inc3 qX0_bodyOf_63 (K := ?_)
  refine S_goto qX0_bodyOf_66 ?_
  refine S_il3 qX0_bodyOf_4 ?_
  refine S_bipush (d := qX0_bodyOf_5) (k := ?_)
  refine S_icmp_ge (d := qX0_bodyOf_7) (kt := fun c => absurd c (by decide)) (kf := fun _ => ?_)
  refine S_il2 qX0_bodyOf_10 ?_
  refine S_if_lt (d := qX0_bodyOf_11) (kt := fun c => absurd c (by decide)) (kf := fun _ => ?_)
  refine S_il2 qX0_bodyOf_14 ?_
  refine S_bipush (d := qX0_bodyOf_15) (k := ?_)
  refine S_icmp_ge (d := qX0_bodyOf_17) (kt := fun c => absurd c (by decide)) (kf := fun _ => ?_)
  refine S_il2 qX0_bodyOf_20 ?_
  refine S_iconst qX0_bodyOf_21 ?_
  refine S_imul qX0_bodyOf_22 ?_
  refine S_il0 qX0_bodyOf_23 ?_
  refine S_iadd qX0_bodyOf_24 ?_
  refine S_is4 qX0_bodyOf_25 (K := ?_)
  refine S_il4 qX0_bodyOf_27 ?_
  refine S_if_lt (d := qX0_bodyOf_29) (kt := fun c => absurd c (by decide)) (kf := fun _ => ?_)
  refine S_il4 qX0_bodyOf_32 ?_
  refine S_gets (v := vr 221) qX0_bodyOf_34 sX0_50 (fun g2 U H h => h.2.2.1) ?_
  refine S_tlen qX0_bodyOf_37 (fun g2 U H h => ro_bodies h) ?_
  refine S_icmp_ge (d := qX0_bodyOf_38) (kt := fun c => absurd c (by decide)) (kf := fun _ => ?_)
  refine S_gets (v := vr 221) qX0_bodyOf_41 sX0_50 (fun g2 U H h => h.2.2.1) ?_
  refine S_il4 qX0_bodyOf_44 ?_
  refine S_tild (z := 12) qX0_bodyOf_46 (fun g2 U H h => ro_bodies h) (by decide) (by decide) ?_
  refine S_if_eq (d := qX0_bodyOf_47) (kt := fun c => absurd c (by decide)) (kf := fun _ => ?_)
  refine S_gets (v := vr 221) qX0_bodyOf_50 sX0_50 (fun g2 U H h => h.2.2.1) ?_
  refine S_il4 qX0_bodyOf_53 ?_
  refine S_tild (z := 12) qX0_bodyOf_55 (fun g2 U H h => ro_bodies h) (by decide) (by decide) ?_
  refine S_iret hz qX0_bodyOf_56 ?_
  exact ⟨rfl, rfl⟩

theorem c_bodyOf_3_0 {g : GC} {V : MM} : Ct g mX0_bodyOf 1 [vi 0, vi 3] V (RE V (10)) := by
  refine Ct.of (ls := [some (vi 0), some (vi 3), none, none, none]) (plainFor_of_name (by decide +kernel)) rfl (by exact Nat.le_of_ble_eq_true rfl) (fun X hz hD => ?_)
  refine S_il1 qX0_bodyOf_0 ?_
  refine S_is2 qX0_bodyOf_1 (K := ?_)
  refine S_iconst qX0_bodyOf_2 ?_
  refine S_is3 qX0_bodyOf_3 (K := ?_)
  refine S_il3 qX0_bodyOf_4 ?_
  refine S_bipush (d := qX0_bodyOf_5) (k := ?_)
  refine S_icmp_ge (d := qX0_bodyOf_7) (kt := fun c => absurd c (by decide)) (kf := fun _ => ?_)
  refine S_il2 qX0_bodyOf_10 ?_
  refine S_if_lt (d := qX0_bodyOf_11) (kt := fun c => absurd c (by decide)) (kf := fun _ => ?_)
  refine S_il2 qX0_bodyOf_14 ?_
  refine S_bipush (d := qX0_bodyOf_15) (k := ?_)
  refine S_icmp_ge (d := qX0_bodyOf_17) (kt := fun c => absurd c (by decide)) (kf := fun _ => ?_)
  refine S_il2 qX0_bodyOf_20 ?_
  refine S_iconst qX0_bodyOf_21 ?_
  refine S_imul qX0_bodyOf_22 ?_
  refine S_il0 qX0_bodyOf_23 ?_
  refine S_iadd qX0_bodyOf_24 ?_
  refine S_is4 qX0_bodyOf_25 (K := ?_)
  refine S_il4 qX0_bodyOf_27 ?_
  refine S_if_lt (d := qX0_bodyOf_29) (kt := fun c => absurd c (by decide)) (kf := fun _ => ?_)
  refine S_il4 qX0_bodyOf_32 ?_
  refine S_gets (v := vr 221) qX0_bodyOf_34 sX0_50 (fun g2 U H h => h.2.2.1) ?_
  refine S_tlen qX0_bodyOf_37 (fun g2 U H h => ro_bodies h) ?_
  refine S_icmp_ge (d := qX0_bodyOf_38) (kt := fun c => absurd c (by decide)) (kf := fun _ => ?_)
  refine S_gets (v := vr 221) qX0_bodyOf_41 sX0_50 (fun g2 U H h => h.2.2.1) ?_
  refine S_il4 qX0_bodyOf_44 ?_
  refine S_tild (z := 0) qX0_bodyOf_46 (fun g2 U H h => ro_bodies h) (by decide) (by decide) ?_
  refine S_if_eq (d := qX0_bodyOf_47) (kt := fun _ => ?_) (kf := fun c => absurd c (by decide))
  refine S_gets (v := vr 220) qX0_bodyOf_57 sX0_53 (fun g2 U H h => h.2.1.1) ?_
  refine S_il2 qX0_bodyOf_60 ?_
  refine S_tild (z := 0) qX0_bodyOf_61 (fun g2 U H h => ro_above h) (by decide) (by decide) ?_
  refine S_is2 qX0_bodyOf_62 (K := ?_)
  refine S_inc3 qX0_bodyOf_63 (K := ?_)
  refine S_goto qX0_bodyOf_66 ?_
  refine S_il3 qX0_bodyOf_4 ?_
  refine S_bipush (d := qX0_bodyOf_5) (k := ?_)
  refine S_icmp_ge (d := qX0_bodyOf_7) (kt := fun c => absurd c (by decide)) (kf := fun _ => ?_)
  refine S_il2 qX0_bodyOf_10 ?_
  refine S_if_lt (d := qX0_bodyOf_11) (kt := fun c => absurd c (by decide)) (kf := fun _ => ?_)
  refine S_il2 qX0_bodyOf_14 ?_
  refine S_bipush (d := qX0_bodyOf_15) (k := ?_)
  refine S_icmp_ge (d := qX0_bodyOf_17) (kt := fun c => absurd c (by decide)) (kf := fun _ => ?_)
  refine S_il2 qX0_bodyOf_20 ?_
  refine S_iconst qX0_bodyOf_21 ?_
  refine S_imul qX0_bodyOf_22 ?_
  refine S_il0 qX0_bodyOf_23 ?_
  refine S_iadd qX0_bodyOf_24 ?_
  refine S_is4 qX0_bodyOf_25 (K := ?_)
  refine S_il4 qX0_bodyOf_27 ?_
  refine S_if_lt (d := qX0_bodyOf_29) (kt := fun c => absurd c (by decide)) (kf := fun _ => ?_)
  refine S_il4 qX0_bodyOf_32 ?_
  refine S_gets (v := vr 221) qX0_bodyOf_34 sX0_50 (fun g2 U H h => h.2.2.1) ?_
  refine S_tlen qX0_bodyOf_37 (fun g2 U H h => ro_bodies h) ?_
  refine S_icmp_ge (d := qX0_bodyOf_38) (kt := fun c => absurd c (by decide)) (kf := fun _ => ?_)
  refine S_gets (v := vr 221) qX0_bodyOf_41 sX0_50 (fun g2 U H h => h.2.2.1) ?_
  refine S_il4 qX0_bodyOf_44 ?_
  refine S_tild (z := 10) qX0_bodyOf_46 (fun g2 U H h => ro_bodies h) (by decide) (by decide) ?_
  refine S_if_eq (d := qX0_bodyOf_47) (kt := fun c => absurd c (by decide)) (kf := fun _ => ?_)
  refine S_gets (v := vr 221) qX0_bodyOf_50 sX0_50 (fun g2 U H h => h.2.2.1) ?_
  refine S_il4 qX0_bodyOf_53 ?_
  refine S_tild (z := 10) qX0_bodyOf_55 (fun g2 U H h => ro_bodies h) (by decide) (by decide) ?_
  refine S_iret hz qX0_bodyOf_56 ?_
  exact ⟨rfl, rfl⟩

theorem c_bodyOf_3_1 {g : GC} {V : MM} : Ct g mX0_bodyOf 1 [vi 1, vi 3] V (RE V (11)) := by
  refine Ct.of (ls := [some (vi 1), some (vi 3), none, none, none]) (plainFor_of_name (by decide +kernel)) rfl (by exact Nat.le_of_ble_eq_true rfl) (fun X hz hD => ?_)
  refine S_il1 qX0_bodyOf_0 ?_
  refine S_is2 qX0_bodyOf_1 (K := ?_)
  refine S_iconst qX0_bodyOf_2 ?_
  refine S_is3 qX0_bodyOf_3 (K := ?_)
  refine S_il3 qX0_bodyOf_4 ?_
  refine S_bipush (d := qX0_bodyOf_5) (k := ?_)
  refine S_icmp_ge (d := qX0_bodyOf_7) (kt := fun c => absurd c (by decide)) (kf := fun _ => ?_)
  refine S_il2 qX0_bodyOf_10 ?_
  refine S_if_lt (d := qX0_bodyOf_11) (kt := fun c => absurd c (by decide)) (kf := fun _ => ?_)
  refine S_il2 qX0_bodyOf_14 ?_
  refine S_bipush (d := qX0_bodyOf_15) (k := ?_)
  refine S_icmp_ge (d := qX0_bodyOf_17) (kt := fun c => absurd c (by decide)) (kf := fun _ => ?_)
  refine S_il2 qX0_bodyOf_20 ?_
  refine S_iconst qX0_bodyOf_21 ?_
  refine S_imul qX0_bodyOf_22 ?_
  refine S_il0 qX0_bodyOf_23 ?_
  refine S_iadd qX0_bodyOf_24 ?_
  refine S_is4 qX0_bodyOf_25 (K := ?_)
  refine S_il4 qX0_bodyOf_27 ?_
  refine S_if_lt (d := qX0_bodyOf_29) (kt := fun c => absurd c (by decide)) (kf := fun _ => ?_)
  refine S_il4 qX0_bodyOf_32 ?_
  refine S_gets (v := vr 221) qX0_bodyOf_34 sX0_50 (fun g2 U H h => h.2.2.1) ?_
  refine S_tlen qX0_bodyOf_37 (fun g2 U H h => ro_bodies h) ?_
  refine S_icmp_ge (d := qX0_bodyOf_38) (kt := fun c => absurd c (by decide)) (kf := fun _ => ?_)
  refine S_gets (v := vr 221) qX0_bodyOf_41 sX0_50 (fun g2 U H h => h.2.2.1) ?_
  refine S_il4 qX0_bodyOf_44 ?_
  refine S_tild (z := 0) qX0_bodyOf_46 (fun g2 U H h => ro_bodies h) (by decide) (by decide) ?_
  refine S_if_eq (d := qX0_bodyOf_47) (kt := fun _ => ?_) (kf := fun c => absurd c (by decide))
  refine S_gets (v := vr 220) qX0_bodyOf_57 sX0_53 (fun g2 U H h => h.2.1.1) ?_
  refine S_il2 qX0_bodyOf_60 ?_
  refine S_tild (z := 0) qX0_bodyOf_61 (fun g2 U H h => ro_above h) (by decide) (by decide) ?_
  refine S_is2 qX0_bodyOf_62 (K := ?_)
  refine S_inc3 qX0_bodyOf_63 (K := ?_)
  refine S_goto qX0_bodyOf_66 ?_
  refine S_il3 qX0_bodyOf_4 ?_
  refine S_bipush (d := qX0_bodyOf_5) (k := ?_)
  refine S_icmp_ge (d := qX0_bodyOf_7) (kt := fun c => absurd c (by decide)) (kf := fun _ => ?_)
  refine S_il2 qX0_bodyOf_10 ?_
  refine S_if_lt (d := qX0_bodyOf_11) (kt := fun c => absurd c (by decide)) (kf := fun _ => ?_)
  refine S_il2 qX0_bodyOf_14 ?_
  refine S_bipush (d := qX0_bodyOf_15) (k := ?_)
  refine S_icmp_ge (d := qX0_bodyOf_17) (kt := fun c => absurd c (by decide)) (kf := fun _ => ?_)
  refine S_il2 qX0_bodyOf_20 ?_
  refine S_iconst qX0_bodyOf_21 ?_
  refine S_imul qX0_bodyOf_22 ?_
  refine S_il0 qX0_bodyOf_23 ?_
  refine S_iadd qX0_bodyOf_24 ?_
  refine S_is4 qX0_bodyOf_25 (K := ?_)
  refine S_il4 qX0_bodyOf_27 ?_
  refine S_if_lt (d := qX0_bodyOf_29) (kt := fun c => absurd c (by decide)) (kf := fun _ => ?_)
  refine S_il4 qX0_bodyOf_32 ?_
  refine S_gets (v := vr 221) qX0_bodyOf_34 sX0_50 (fun g2 U H h => h.2.2.1) ?_
  refine S_tlen qX0_bodyOf_37 (fun g2 U H h => ro_bodies h) ?_
  refine S_icmp_ge (d := qX0_bodyOf_38) (kt := fun c => absurd c (by decide)) (kf := fun _ => ?_)
  refine S_gets (v := vr 221) qX0_bodyOf_41 sX0_50 (fun g2 U H h => h.2.2.1) ?_
  refine S_il4 qX0_bodyOf_44 ?_
  refine S_tild (z := 11) qX0_bodyOf_46 (fun g2 U H h => ro_bodies h) (by decide) (by decide) ?_
  refine S_if_eq (d := qX0_bodyOf_47) (kt := fun c => absurd c (by decide)) (kf := fun _ => ?_)
  refine S_gets (v := vr 221) qX0_bodyOf_50 sX0_50 (fun g2 U H h => h.2.2.1) ?_
  refine S_il4 qX0_bodyOf_53 ?_
  refine S_tild (z := 11) qX0_bodyOf_55 (fun g2 U H h => ro_bodies h) (by decide) (by decide) ?_
  refine S_iret hz qX0_bodyOf_56 ?_
  exact ⟨rfl, rfl⟩

theorem c_bodyOf_3_2 {g : GC} {V : MM} : Ct g mX0_bodyOf 1 [vi 2, vi 3] V (RE V (40)) := by
  refine Ct.of (ls := [some (vi 2), some (vi 3), none, none, none]) (plainFor_of_name (by decide +kernel)) rfl (by exact Nat.le_of_ble_eq_true rfl) (fun X hz hD => ?_)
  refine S_il1 qX0_bodyOf_0 ?_
  refine S_is2 qX0_bodyOf_1 (K := ?_)
  refine S_iconst qX0_bodyOf_2 ?_
  refine S_is3 qX0_bodyOf_3 (K := ?_)
  refine S_il3 qX0_bodyOf_4 ?_
  refine S_bipush (d := qX0_bodyOf_5) (k := ?_)
  refine S_icmp_ge (d := qX0_bodyOf_7) (kt := fun c => absurd c (by decide)) (kf := fun _ => ?_)
  refine S_il2 qX0_bodyOf_10 ?_
  refine S_if_lt (d := qX0_bodyOf_11) (kt := fun c => absurd c (by decide)) (kf := fun _ => ?_)
  refine S_il2 qX0_bodyOf_14 ?_
  refine S_bipush (d := qX0_bodyOf_15) (k := ?_)
  refine S_icmp_ge (d := qX0_bodyOf_17) (kt := fun c => absurd c (by decide)) (kf := fun _ => ?_)
  refine S_il2 qX0_bodyOf_20 ?_
  refine S_iconst qX0_bodyOf_21 ?_
  refine S_imul qX0_bodyOf_22 ?_
  refine S_il0 qX0_bodyOf_23 ?_
  refine S_iadd qX0_bodyOf_24 ?_
  refine S_is4 qX0_bodyOf_25 (K := ?_)
  refine S_il4 qX0_bodyOf_27 ?_
  refine S_if_lt (d := qX0_bodyOf_29) (kt := fun c => absurd c (by decide)) (kf := fun _ => ?_)
  refine S_il4 qX0_bodyOf_32 ?_
  refine S_gets (v := vr 221) qX0_bodyOf_34 sX0_50 (fun g2 U H h => h.2.2.1) ?_
  refine S_tlen qX0_bodyOf_37 (fun g2 U H h => ro_bodies h) ?_
  refine S_icmp_ge (d := qX0_bodyOf_38) (kt := fun c => absurd c (by decide)) (kf := fun _ => ?_)
  refine S_gets (v := vr 221) qX0_bodyOf_41 sX0_50 (fun g2 U H h => h.2.2.1) ?_
  refine S_il4 qX0_bodyOf_44 ?_
  refine S_tild (z := 40) qX0_bodyOf_46 (fun g2 U H h => ro_bodies h) (by decide) (by decide) ?_
  refine S_if_eq (d := qX0_bodyOf_47) (kt := fun c => absurd c (by decide)) (kf := fun _ => ?_)
  refine S_gets (v := vr 221) qX0_bodyOf_50 sX0_50 (fun g2 U H h => h.2.2.1) ?_
  refine S_il4 qX0_bodyOf_53 ?_
  refine S_tild (z := 40) qX0_bodyOf_55 (fun g2 U H h => ro_bodies h) (by decide) (by decide) ?_
  refine S_iret hz qX0_bodyOf_56 ?_
  exact ⟨rfl, rfl⟩

theorem c_bodyOf_4_0 {g : GC} {V : MM} : Ct g mX0_bodyOf 1 [vi 0, vi 4] V (RE V (50)) := by
  refine Ct.of (ls := [some (vi 0), some (vi 4), none, none, none]) (plainFor_of_name (by decide +kernel)) rfl (by exact Nat.le_of_ble_eq_true rfl) (fun X hz hD => ?_)
  refine S_il1 qX0_bodyOf_0 ?_
  refine S_is2 qX0_bodyOf_1 (K := ?_)
  refine S_iconst qX0_bodyOf_2 ?_
  refine S_is3 qX0_bodyOf_3 (K := ?_)
  refine S_il3 qX0_bodyOf_4 ?_
  refine S_bipush (d := qX0_bodyOf_5) (k := ?_)
  refine S_icmp_ge (d := qX0_bodyOf_7) (kt := fun c => absurd c (by decide)) (kf := fun _ => ?_)
  refine S_il2 qX0_bodyOf_10 ?_
  refine S_if_lt (d := qX0_bodyOf_11) (kt := fun c => absurd c (by decide)) (kf := fun _ => ?_)
  refine S_il2 qX0_bodyOf_14 ?_
  refine S_bipush (d := qX0_bodyOf_15) (k := ?_)
  refine S_icmp_ge (d := qX0_bodyOf_17) (kt := fun c => absurd c (by decide)) (kf := fun _ => ?_)
  refine S_il2 qX0_bodyOf_20 ?_
  refine S_iconst qX0_bodyOf_21 ?_
  refine S_imul qX0_bodyOf_22 ?_
  refine S_il0 qX0_bodyOf_23 ?_
  refine S_iadd qX0_bodyOf_24 ?_
  refine S_is4 qX0_bodyOf_25 (K := ?_)
  refine S_il4 qX0_bodyOf_27 ?_
  refine S_if_lt (d := qX0_bodyOf_29) (kt := fun c => absurd c (by decide)) (kf := fun _ => ?_)
  refine S_il4 qX0_bodyOf_32 ?_
  refine S_gets (v := vr 221) qX0_bodyOf_34 sX0_50 (fun g2 U H h => h.2.2.1) ?_
  refine S_tlen qX0_bodyOf_37 (fun g2 U H h => ro_bodies h) ?_
  refine S_icmp_ge (d := qX0_bodyOf_38) (kt := fun c => absurd c (by decide)) (kf := fun _ => ?_)
  refine S_gets (v := vr 221) qX0_bodyOf_41 sX0_50 (fun g2 U H h => h.2.2.1) ?_
  refine S_il4 qX0_bodyOf_44 ?_
  refine S_tild (z := 50) qX0_bodyOf_46 (fun g2 U H h => ro_bodies h) (by decide) (by decide) ?_
  refine S_if_eq (d := qX0_bodyOf_47) (kt := fun c => absurd c (by decide)) (kf := fun _ => ?_)
  refine S_gets (v := vr 221) qX0_bodyOf_50 sX0_50 (fun g2 U H h => h.2.2.1) ?_
  refine S_il4 qX0_bodyOf_53 ?_
  refine S_tild (z := 50) qX0_bodyOf_55 (fun g2 U H h => ro_bodies h) (by decide) (by decide) ?_
  refine S_iret hz qX0_bodyOf_56 ?_
  exact ⟨rfl, rfl⟩

theorem c_bodyOf_4_1 {g : GC} {V : MM} : Ct g mX0_bodyOf 1 [vi 1, vi 4] V (RE V (51)) := by
  refine Ct.of (ls := [some (vi 1), some (vi 4), none, none, none]) (plainFor_of_name (by decide +kernel)) rfl (by exact Nat.le_of_ble_eq_true rfl) (fun X hz hD => ?_)
  refine S_il1 qX0_bodyOf_0 ?_
  refine S_is2 qX0_bodyOf_1 (K := ?_)
  refine S_iconst qX0_bodyOf_2 ?_
  refine S_is3 qX0_bodyOf_3 (K := ?_)
  refine S_il3 qX0_bodyOf_4 ?_
  refine S_bipush (d := qX0_bodyOf_5) (k := ?_)
  refine S_icmp_ge (d := qX0_bodyOf_7) (kt := fun c => absurd c (by decide)) (kf := fun _ => ?_)
  refine S_il2 qX0_bodyOf_10 ?_
  refine S_if_lt (d := qX0_bodyOf_11) (kt := fun c => absurd c (by decide)) (kf := fun _ => ?_)
  refine S_il2 qX0_bodyOf_14 ?_
  refine S_bipush (d := qX0_bodyOf_15) (k := ?_)
  refine S_icmp_ge (d := qX0_bodyOf_17) (kt := fun c => absurd c (by decide)) (kf := fun _ => ?_)
  refine S_il2 qX0_bodyOf_20 ?_
  refine S_iconst qX0_bodyOf_21 ?_
  refine S_imul qX0_bodyOf_22 ?_
  refine S_il0 qX0_bodyOf_23 ?_
  refine S_iadd qX0_bodyOf_24 ?_
  refine S_is4 qX0_bodyOf_25 (K := ?_)
  refine S_il4 qX0_bodyOf_27 ?_
  refine S_if_lt (d := qX0_bodyOf_29) (kt := fun c => absurd c (by decide)) (kf := fun _ => ?_)
  refine S_il4 qX0_bodyOf_32 ?_
  refine S_gets (v := vr 221) qX0_bodyOf_34 sX0_50 (fun g2 U H h => h.2.2.1) ?_
  refine S_tlen qX0_bodyOf_37 (fun g2 U H h => ro_bodies h) ?_
  refine S_icmp_ge (d := qX0_bodyOf_38) (kt := fun c => absurd c (by decide)) (kf := fun _ => ?_)
  refine S_gets (v := vr 221) qX0_bodyOf_41 sX0_50 (fun g2 U H h => h.2.2.1) ?_
  refine S_il4 qX0_bodyOf_44 ?_
  refine S_tild (z := 51) qX0_bodyOf_46 (fun g2 U H h => ro_bodies h) (by decide) (by decide) ?_
  refine S_if_eq (d := qX0_bodyOf_47) (kt := fun c => absurd c (by decide)) (kf := fun _ => ?_)
  refine S_gets (v := vr 221) qX0_bodyOf_50 sX0_50 (fun g2 U H h => h.2.2.1) ?_
  refine S_il4 qX0_bodyOf_53 ?_
  refine S_tild (z := 51) qX0_bodyOf_55 (fun g2 U H h => ro_bodies h) (by decide) (by decide) ?_
  refine S_iret hz qX0_bodyOf_56 ?_
  exact ⟨rfl, rfl⟩

theorem c_bodyOf_4_2 {g : GC} {V : MM} : Ct g mX0_bodyOf 1 [vi 2, vi 4] V (RE V (12)) := by
  refine Ct.of (ls := [some (vi 2), some (vi 4), none, none, none]) (plainFor_of_name (by decide +kernel)) rfl (by exact Nat.le_of_ble_eq_true rfl) (fun X hz hD => ?_)
  refine S_il1 qX0_bodyOf_0 ?_
  refine S_is2 qX0_bodyOf_1 (K := ?_)
  refine S_iconst qX0_bodyOf_2 ?_
  refine S_is3 qX0_bodyOf_3 (K := ?_)
  refine S_il3 qX0_bodyOf_4 ?_
  refine S_bipush (d := qX0_bodyOf_5) (k := ?_)
  refine S_icmp_ge (d := qX0_bodyOf_7) (kt := fun c => absurd c (by decide)) (kf := fun _ => ?_)
  refine S_il2 qX0_bodyOf_10 ?_
  refine S_if_lt (d := qX0_bodyOf_11) (kt := fun c => absurd c (by decide)) (kf := fun _ => ?_)
  refine S_il2 qX0_bodyOf_14 ?_
  refine S_bipush (d := qX0_bodyOf_15) (k := ?_)
  refine S_icmp_ge (d := qX0_bodyOf_17) (kt := fun c => absurd c (by decide)) (kf := fun _ => ?_)
  refine S_il2 qX0_bodyOf_20 ?_
  refine S_iconst qX0_bodyOf_21 ?_
  refine S_imul qX0_bodyOf_22 ?_
  refine S_il0 qX0_bodyOf_23 ?_
  refine S_iadd qX0_bodyOf_24 ?_
  refine S_is4 qX0_bodyOf_25 (K := ?_)
  refine S_il4 qX0_bodyOf_27 ?_
  refine S_if_lt (d := qX0_bodyOf_29) (kt := fun c => absurd c (by decide)) (kf := fun _ => ?_)
  refine S_il4 qX0_bodyOf_32 ?_
  refine S_gets (v := vr 221) qX0_bodyOf_34 sX0_50 (fun g2 U H h => h.2.2.1) ?_
  refine S_tlen qX0_bodyOf_37 (fun g2 U H h => ro_bodies h) ?_
  refine S_icmp_ge (d := qX0_bodyOf_38) (kt := fun c => absurd c (by decide)) (kf := fun _ => ?_)
  refine S_gets (v := vr 221) qX0_bodyOf_41 sX0_50 (fun g2 U H h => h.2.2.1) ?_
  refine S_il4 qX0_bodyOf_44 ?_
  refine S_tild (z := 0) qX0_bodyOf_46 (fun g2 U H h => ro_bodies h) (by decide) (by decide) ?_
  refine S_if_eq (d := qX0_bodyOf_47) (kt := fun _ => ?_) (kf := fun c => absurd c (by decide))
  refine S_gets (v := vr 220) qX0_bodyOf_57 sX0_53 (fun g2 U H h => h.2.1.1) ?_
  refine S_il2 qX0_bodyOf_60 ?_
  refine S_tild (z := 1) qX0_bodyOf_61 (fun g2 U H h => ro_above h) (by decide) (by decide) ?_
  refine S_is2 qX0_bodyOf_62 (K := ?_)
  refine S_inc3 qX0_bodyOf_63 (K := ?_)
  refine S_goto qX0_bodyOf_66 ?_
  refine S_il3 qX0_bodyOf_4 ?_
  refine S_bipush (d := qX0_bodyOf_5) (k := ?_)
  refine S_icmp_ge (d := qX0_bodyOf_7) (kt := fun c => absurd c (by decide)) (kf := fun _ => ?_)
  refine S_il2 qX0_bodyOf_10 ?_
  refine S_if_lt (d := qX0_bodyOf_11) (kt := fun c => absurd c (by decide)) (kf := fun _ => ?_)
  refine S_il2 qX0_bodyOf_14 ?_
  refine S_bipush (d := qX0_bodyOf_15) (k := ?_)
  refine S_icmp_ge (d := qX0_bodyOf_17) (kt := fun c => absurd c (by decide)) (kf := fun _ => ?_)
  refine S_il2 qX0_bodyOf_20 ?_
  refine S_iconst qX0_bodyOf_21 ?_
  refine S_imul qX0_bodyOf_22 ?_
  refine S_il0 qX0_bodyOf_23 ?_
  refine S_iadd qX0_bodyOf_24 ?_
  refine S_is4 qX0_bodyOf_25 (K := ?_)
  refine S_il4 qX0_bodyOf_27 ?_
  refine S_if_lt (d := qX0_bodyOf_29) (kt := fun c => absurd c (by decide)) (kf := fun _ => ?_)
  refine S_il4 qX0_bodyOf_32 ?_
  refine S_gets (v := vr 221) qX0_bodyOf_34 sX0_50 (fun g2 U H h => h.2.2.1) ?_
  refine S_tlen qX0_bodyOf_37 (fun g2 U H h => ro_bodies h) ?_
  refine S_icmp_ge (d := qX0_bodyOf_38) (kt := fun c => absurd c (by decide)) (kf := fun _ => ?_)
  refine S_gets (v := vr 221) qX0_bodyOf_41 sX0_50 (fun g2 U H h => h.2.2.1) ?_
  refine S_il4 qX0_bodyOf_44 ?_
  refine S_tild (z := 0) qX0_bodyOf_46 (fun g2 U H h => ro_bodies h) (by decide) (by decide) ?_
  refine S_if_eq (d := qX0_bodyOf_47) (kt := fun _ => ?_) (kf := fun c => absurd c (by decide))
  refine S_gets (v := vr 220) qX0_bodyOf_57 sX0_53 (fun g2 U H h => h.2.1.1) ?_
  refine S_il2 qX0_bodyOf_60 ?_
  refine S_tild (z := 0) qX0_bodyOf_61 (fun g2 U H h => ro_above h) (by decide) (by decide) ?_
  refine S_is2 qX0_bodyOf_62 (K := ?_)
  refine S_inc3 qX0_bodyOf_63 (K := ?_)
  refine S_goto qX0_bodyOf_66 ?_
  refine S_il3 qX0_bodyOf_4 ?_
  refine S_bipush (d := qX0_bodyOf_5) (k := ?_)
  refine S_icmp_ge (d := qX0_bodyOf_7) (kt := fun c => absurd c (by decide)) (kf := fun _ => ?_)
  refine S_il2 qX0_bodyOf_10 ?_
  refine S_if_lt (d := qX0_bodyOf_11) (kt := fun c => absurd c (by decide)) (kf := fun _ => ?_)
  refine S_il2 qX0_bodyOf_14 ?_
  refine S_bipush (d := qX0_bodyOf_15) (k := ?_)
  refine S_icmp_ge (d := qX0_bodyOf_17) (kt := fun c => absurd c (by decide)) (kf := fun _ => ?_)
  refine S_il2 qX0_bodyOf_20 ?_
  refine S_iconst qX0_bodyOf_21 ?_
  refine S_imul qX0_bodyOf_22 ?_
  refine S_il0 qX0_bodyOf_23 ?_
  refine S_iadd qX0_bodyOf_24 ?_
  refine S_is4 qX0_bodyOf_25 (K := ?_)
  refine S_il4 qX0_bodyOf_27 ?_
  refine S_if_lt (d := qX0_bodyOf_29) (kt := fun c => absurd c (by decide)) (kf := fun _ => ?_)
  refine S_il4 qX0_bodyOf_32 ?_
  refine S_gets (v := vr 221) qX0_bodyOf_34 sX0_50 (fun g2 U H h => h.2.2.1) ?_
  refine S_tlen qX0_bodyOf_37 (fun g2 U H h => ro_bodies h) ?_
  refine S_icmp_ge (d := qX0_bodyOf_38) (kt := fun c => absurd c (by decide)) (kf := fun _ => ?_)
  refine S_gets (v := vr 221) qX0_bodyOf_41 sX0_50 (fun g2 U H h => h.2.2.1) ?_
  refine S_il4 qX0_bodyOf_44 ?_
  refine S_tild (z := 12) qX0_bodyOf_46 (fun g2 U H h => ro_bodies h) (by decide) (by decide) ?_
  refine S_if_eq (d := qX0_bodyOf_47) (kt := fun c => absurd c (by decide)) (kf := fun _ => ?_)
  refine S_gets (v := vr 221) qX0_bodyOf_50 sX0_50 (fun g2 U H h => h.2.2.1) ?_
  refine S_il4 qX0_bodyOf_53 ?_
  refine S_tild (z := 12) qX0_bodyOf_55 (fun g2 U H h => ro_bodies h) (by decide) (by decide) ?_
  refine S_iret hz qX0_bodyOf_56 ?_
  exact ⟨rfl, rfl⟩

theorem c_bodyOf_5_0 {g : GC} {V : MM} : Ct g mX0_bodyOf 1 [vi 0, vi 5] V (RE V (30)) := by
  refine Ct.of (ls := [some (vi 0), some (vi 5), none, none, none]) (plainFor_of_name (by decide +kernel)) rfl (by exact Nat.le_of_ble_eq_true rfl) (fun X hz hD => ?_)
  refine S_il1 qX0_bodyOf_0 ?_
  refine S_is2 qX0_bodyOf_1 (K := ?_)
  refine S_iconst qX0_bodyOf_2 ?_
  refine S_is3 qX0_bodyOf_3 (K := ?_)
  refine S_il3 qX0_bodyOf_4 ?_
  refine S_bipush (d := qX0_bodyOf_5) (k := ?_)
  refine S_icmp_ge (d := qX0_bodyOf_7) (kt := fun c => absurd c (by decide)) (kf := fun _ => ?_)
  refine S_il2 qX0_bodyOf_10 ?_
  refine S_if_lt (d := qX0_bodyOf_11) (kt := fun c => absurd c (by decide)) (kf := fun _ => ?_)
  refine S_il2 qX0_bodyOf_14 ?_
  refine S_bipush (d := qX0_bodyOf_15) (k := ?_)
  refine S_icmp_ge (d := qX0_bodyOf_17) (kt := fun c => absurd c (by decide)) (kf := fun _ => ?_)
  refine S_il2 qX0_bodyOf_20 ?_
  refine S_iconst qX0_bodyOf_21 ?_
  refine S_imul qX0_bodyOf_22 ?_
  refine S_il0 qX0_bodyOf_23 ?_
  refine S_iadd qX0_bodyOf_24 ?_
  refine S_is4 qX0_bodyOf_25 (K := ?_)
  refine S_il4 qX0_bodyOf_27 ?_
  refine S_if_lt (d := qX0_bodyOf_29) (kt := fun c => absurd c (by decide)) (kf := fun _ => ?_)
  refine S_il4 qX0_bodyOf_32 ?_
  refine S_gets (v := vr 221) qX0_bodyOf_34 sX0_50 (fun g2 U H h => h.2.2.1) ?_
  refine S_tlen qX0_bodyOf_37 (fun g2 U H h => ro_bodies h) ?_
  refine S_icmp_ge (d := qX0_bodyOf_38) (kt := fun c => absurd c (by decide)) (kf := fun _ => ?_)
  refine S_gets (v := vr 221) qX0_bodyOf_41 sX0_50 (fun g2 U H h => h.2.2.1) ?_
  refine S_il4 qX0_bodyOf_44 ?_
  refine S_tild (z := 0) qX0_bodyOf_46 (fun g2 U H h => ro_bodies h) (by decide) (by decide) ?_
  refine S_if_eq (d := qX0_bodyOf_47) (kt := fun _ => ?_) (kf := fun c => absurd c (by decide))
  refine S_gets (v := vr 220) qX0_bodyOf_57 sX0_53 (fun g2 U H h => h.2.1.1) ?_
  refine S_il2 qX0_bodyOf_60 ?_
  refine S_tild (z := 2) qX0_bodyOf_61 (fun g2 U H h => ro_above h) (by decide) (by decide) ?_
  refine S_is2 qX0_bodyOf_62 (K := ?_)
  refine S_inc3 qX0_bodyOf_63 (K := ?_)
  refine S_goto qX0_bodyOf_66 ?_
  refine S_il3 qX0_bodyOf_4 ?_
  refine S_bipush (d := qX0_bodyOf_5) (k := ?_)
  refine S_icmp_ge (d := qX0_bodyOf_7) (kt := fun c => absurd c (by decide)) (kf := fun _ => ?_)
  refine S_il2 qX0_bodyOf_10 ?_
  refine S_if_lt (d := qX0_bodyOf_11) (kt := fun c => absurd c (by decide)) (kf := fun _ => ?_)
  refine S_il2 qX0_bodyOf_14 ?_
  refine S_bipush (d := qX0_bodyOf_15) (k := ?_)
  refine S_icmp_ge (d := qX0_bodyOf_17) (kt := fun c => absurd c (by decide)) (kf := fun _ => ?_)
  refine S_il2 qX0_bodyOf_20 ?_
  refine S_iconst qX0_bodyOf_21 ?_
  refine S_imul qX0_bodyOf_22 ?_
  refine S_il0 qX0_bodyOf_23 ?_
  refine S_iadd qX0_bodyOf_24 ?_
  refine S_is4 qX0_bodyOf_25 (K := ?_)
  refine S_il4 qX0_bodyOf_27 ?_
  refine S_if_lt (d := qX0_bodyOf_29) (kt := fun c => absurd c (by decide)) (kf := fun _ => ?_)
  refine S_il4 qX0_bodyOf_32 ?_
  refine S_gets (v := vr 221) qX0_bodyOf_34 sX0_50 (fun g2 U H h => h.2.2.1) ?_
  refine S_tlen qX0_bodyOf_37 (fun g2 U H h => ro_bodies h) ?_
  refine S_icmp_ge (d := qX0_bodyOf_38) (kt := fun c => absurd c (by decide)) (kf := fun _ => ?_)
  refine S_gets (v := vr 221) qX0_bodyOf_41 sX0_50 (fun g2 U H h => h.2.2.1) ?_
  refine S_il4 qX0_bodyOf_44 ?_
  refine S_tild (z := 30) qX0_bodyOf_46 (fun g2 U H h => ro_bodies h) (by decide) (by decide) ?_
  refine S_if_eq (d := qX0_bodyOf_47) (kt := fun c => absurd c (by decide)) (kf := fun _ => ?_)
  refine S_gets (v := vr 221) qX0_bodyOf_50 sX0_50 (fun g2 U H h => h.2.2.1) ?_
  refine S_il4 qX0_bodyOf_53 ?_
  refine S_tild (z := 30) qX0_bodyOf_55 (fun g2 U H h => ro_bodies h) (by decide) (by decide) ?_
  refine S_iret hz qX0_bodyOf_56 ?_
  exact ⟨rfl, rfl⟩

theorem c_bodyOf_5_1 {g : GC} {V : MM} : Ct g mX0_bodyOf 1 [vi 1, vi 5] V (RE V (11)) := by
  refine Ct.of (ls := [some (vi 1), some (vi 5), none, none, none]) (plainFor_of_name (by decide +kernel)) rfl (by exact Nat.le_of_ble_eq_true rfl) (fun X hz hD => ?_)
  refine S_il1 qX0_bodyOf_0 ?_
  refine S_is2 qX0_bodyOf_1 (K := ?_)
  refine S_iconst qX0_bodyOf_2 ?_
  refine S_is3 qX0_bodyOf_3 (K := ?_)
  refine S_il3 qX0_bodyOf_4 ?_
  refine S_bipush (d := qX0_bodyOf_5) (k := ?_)
  refine S_icmp_ge (d := qX0_bodyOf_7) (kt := fun c => absurd c (by decide)) (kf := fun _ => ?_)
  refine S_il2 qX0_bodyOf_10 ?_
  refine S_if_lt (d := qX0_bodyOf_11) (kt := fun c => absurd c (by decide)) (kf := fun _ => ?_)
  refine S_il2 qX0_bodyOf_14 ?_
  refine S_bipush (d := qX0_bodyOf_15) (k := ?_)
  refine S_icmp_ge (d := qX0_bodyOf_17) (kt := fun c => absurd c (by decide)) (kf := fun _ => ?_)
  refine S_il2 qX0_bodyOf_20 ?_
  refine S_iconst qX0_bodyOf_21 ?_
  refine S_imul qX0_bodyOf_22 ?_
  refine S_il0 qX0_bodyOf_23 ?_
  refine S_iadd qX0_bodyOf_24 ?_
  refine S_is4 qX0_bodyOf_25 (K := ?_)
  refine S_il4 qX0_bodyOf_27 ?_
  refine S_if_lt (d := qX0_bodyOf_29) (kt := fun c => absurd c (by decide)) (kf := fun _ => ?_)
  refine S_il4 qX0_bodyOf_32 ?_
  refine S_gets (v := vr 221) qX0_bodyOf_34 sX0_50 (fun g2 U H h => h.2.2.1) ?_
  refine S_tlen qX0_bodyOf_37 (fun g2 U H h => ro_bodies h) ?_
  refine S_icmp_ge (d := qX0_bodyOf_38) (kt := fun c => absurd c (by decide)) (kf := fun _ => ?_)
  refine S_gets (v := vr 221) qX0_bodyOf_41 sX0_50 (fun g2 U H h => h.2.2.1) ?_
  refine S_il4 qX0_bodyOf_44 ?_
  refine S_tild (z := 0) qX0_bodyOf_46 (fun g2 U H h => ro_bodies h) (by decide) (by decide) ?_
  refine S_if_eq (d := qX0_bodyOf_47) (kt := fun _ => ?_) (kf := fun c => absurd c (by decide))
  refine S_gets (v := vr 220) qX0_bodyOf_57 sX0_53 (fun g2 U H h => h.2.1.1) ?_
  refine S_il2 qX0_bodyOf_60 ?_
  refine S_tild (z := 2) qX0_bodyOf_61 (fun g2 U H h => ro_above h) (by decide) (by decide) ?_
  refine S_is2 qX0_bodyOf_62 (K := ?_)
  refine S_inc3 qX0_bodyOf_63 (K := ?_)
  refine S_goto qX0_bodyOf_66 ?_
  refine S_il3 qX0_bodyOf_4 ?_
  refine S_bipush (d := qX0_bodyOf_5) (k := ?_)
  refine S_icmp_ge (d := qX0_bodyOf_7) (kt := fun c => absurd c (by decide)) (kf := fun _ => ?_)
  refine S_il2 qX0_bodyOf_10 ?_
  refine S_if_lt (d := qX0_bodyOf_11) (kt := fun c => absurd c (by decide)) (kf := fun _ => ?_)
  refine S_il2 qX0_bodyOf_14 ?_
  refine S_bipush (d := qX0_bodyOf_15) (k := ?_)
  refine S_icmp_ge (d := qX0_bodyOf_17) (kt := fun c => absurd c (by decide)) (kf := fun _ => ?_)
  refine S_il2 qX0_bodyOf_20 ?_
  refine S_iconst qX0_bodyOf_21 ?_
  refine S_imul qX0_bodyOf_22 ?_
  refine S_il0 qX0_bodyOf_23 ?_
  refine S_iadd qX0_bodyOf_24 ?_
  refine S_is4 qX0_bodyOf_25 (K := ?_)
  refine S_il4 qX0_bodyOf_27 ?_
  refine S_if_lt (d := qX0_bodyOf_29) (kt := fun c => absurd c (by decide)) (kf := fun _ => ?_)
  refine S_il4 qX0_bodyOf_32 ?_
  refine S_gets (v := vr 221) qX0_bodyOf_34 sX0_50 (fun g2 U H h => h.2.2.1) ?_
  refine S_tlen qX0_bodyOf_37 (fun g2 U H h => ro_bodies h) ?_
  refine S_icmp_ge (d := qX0_bodyOf_38) (kt := fun c => absurd c (by decide)) (kf := fun _ => ?_)
  refine S_gets (v := vr 221) qX0_bodyOf_41 sX0_50 (fun g2 U H h => h.2.2.1) ?_
  refine S_il4 qX0_bodyOf_44 ?_
  refine S_tild (z := 0) qX0_bodyOf_46 (fun g2 U H h => ro_bodies h) (by decide) (by decide) ?_
  refine S_if_eq (d := qX0_bodyOf_47) (kt := fun _ => ?_) (kf := fun c => absurd c (by decide))
  refine S_gets (v := vr 220) qX0_bodyOf_57 sX0_53 (fun g2 U H h => h.2.1.1) ?_
  refine S_il2 qX0_bodyOf_60 ?_
  refine S_tild (z := 0) qX0_bodyOf_61 (fun g2 U H h => ro_above h) (by decide) (by decide) ?_
  refine S_is2 qX0_bodyOf_62 (K := ?_)
  refine S_inc3 qX0_bodyOf_63 (K := ?_)
  refine S_goto qX0_bodyOf_66 ?_
  refine S_il3 qX0_bodyOf_4 ?_
  refine S_bipush (d := qX0_bodyOf_5) (k := ?_)
  refine S_icmp_ge (d := qX0_bodyOf_7) (kt := fun c => absurd c (by decide)) (kf := fun _ => ?_)
  refine S_il2 qX0_bodyOf_10 ?_
  refine S_if_lt (d := qX0_bodyOf_11) (kt := fun c => absurd c (by decide)) (kf := fun _ => ?_)
  refine S_il2 qX0_bodyOf_14 ?_
  refine S_bipush (d := qX0_bodyOf_15) (k := ?_)
  refine S_icmp_ge (d := qX0_bodyOf_17) (kt := fun c => absurd c (by decide)) (kf := fun _ => ?_)
  refine S_il2 qX0_bodyOf_20 ?_
  refine S_iconst qX0_bodyOf_21 ?_
  refine S_imul qX0_bodyOf_22 ?_
  refine S_il0 qX0_bodyOf_23 ?_
  refine S_iadd qX0_bodyOf_24 ?_
  refine S_is4 qX0_bodyOf_25 (K := ?_)
  refine S_il4 qX0_bodyOf_27 ?_
  refine S_if_lt (d := qX0_bodyOf_29) (kt := fun c => absurd c (by decide)) (kf := fun _ => ?_)
  refine S_il4 qX0_bodyOf_32 ?_
  refine S_gets (v := vr 221) qX0_bodyOf_34 sX0_50 (fun g2 U H h => h.2.2.1) ?_
  refine S_tlen qX0_bodyOf_37 (fun g2 U H h => ro_bodies h) ?_
  refine S_icmp_ge (d := qX0_bodyOf_38) (kt := fun c => absurd c (by decide)) (kf := fun _ => ?_)
  refine S_gets (v := vr 221) qX0_bodyOf_41 sX0_50 (fun g2 U H h => h.2.2.1) ?_
  refine S_il4 qX0_bodyOf_44 ?_
  refine S_tild (z := 11) qX0_bodyOf_46 (fun g2 U H h => ro_bodies h) (by decide) (by decide) ?_
  refine S_if_eq (d := qX0_bodyOf_47) (kt := fun c => absurd c (by decide)) (kf := fun _ => ?_)
  refine S_gets (v := vr 221) qX0_bodyOf_50 sX0_50 (fun g2 U H h => h.2.2.1) ?_
  refine S_il4 qX0_bodyOf_53 ?_
  refine S_tild (z := 11) qX0_bodyOf_55 (fun g2 U H h => ro_bodies h) (by decide) (by decide) ?_
  refine S_iret hz qX0_bodyOf_56 ?_
  exact ⟨rfl, rfl⟩

theorem c_bodyOf_5_2 {g : GC} {V : MM} : Ct g mX0_bodyOf 1 [vi 2, vi 5] V (RE V (60)) := by
  refine Ct.of (ls := [some (vi 2), some (vi 5), none, none, none]) (plainFor_of_name (by decide +kernel)) rfl (by exact Nat.le_of_ble_eq_true rfl) (fun X hz hD => ?_)
  refine S_il1 qX0_bodyOf_0 ?_
  refine S_is2 qX0_bodyOf_1 (K := ?_)
  refine S_iconst qX0_bodyOf_2 ?_
  refine S_is3 qX0_bodyOf_3 (K := ?_)
  refine S_il3 qX0_bodyOf_4 ?_
  refine S_bipush (d := qX0_bodyOf_5) (k := ?_)
  refine S_icmp_ge (d := qX0_bodyOf_7) (kt := fun c => absurd c (by decide)) (kf := fun _ => ?_)
  refine S_il2 qX0_bodyOf_10 ?_
  refine S_if_lt (d := qX0_bodyOf_11) (kt := fun c => absurd c (by decide)) (kf := fun _ => ?_)
  refine S_il2 qX0_bodyOf_14 ?_
  refine S_bipush (d := qX0_bodyOf_15) (k := ?_)
  refine S_icmp_ge (d := qX0_bodyOf_17) (kt := fun c => absurd c (by decide)) (kf := fun _ => ?_)
  refine S_il2 qX0_bodyOf_20 ?_
  refine S_iconst qX0_bodyOf_21 ?_
  refine S_imul qX0_bodyOf_22 ?_
  refine S_il0 qX0_bodyOf_23 ?_
  refine S_iadd qX0_bodyOf_24 ?_
  refine S_is4 qX0_bodyOf_25 (K := ?_)
  refine S_il4 qX0_bodyOf_27 ?_
  refine S_if_lt (d := qX0_bodyOf_29) (kt := fun c => absurd c (by decide)) (kf := fun _ => ?_)
  refine S_il4 qX0_bodyOf_32 ?_
  refine S_gets (v := vr 221) qX0_bodyOf_34 sX0_50 (fun g2 U H h => h.2.2.1) ?_
  refine S_tlen qX0_bodyOf_37 (fun g2 U H h => ro_bodies h) ?_
  refine S_icmp_ge (d := qX0_bodyOf_38) (kt := fun c => absurd c (by decide)) (kf := fun _ => ?_)
  refine S_gets (v := vr 221) qX0_bodyOf_41 sX0_50 (fun g2 U H h => h.2.2.1) ?_
  refine S_il4 qX0_bodyOf_44 ?_
  refine S_tild (z := 60) qX0_bodyOf_46 (fun g2 U H h => ro_bodies h) (by decide) (by decide) ?_
  refine S_if_eq (d := qX0_bodyOf_47) (kt := fun c => absurd c (by decide)) (kf := fun _ => ?_)
  refine S_gets (v := vr 221) qX0_bodyOf_50 sX0_50 (fun g2 U H h => h.2.2.1) ?_
  refine S_il4 qX0_bodyOf_53 ?_
  refine S_tild (z := 60) qX0_bodyOf_55 (fun g2 U H h => ro_bodies h) (by decide) (by decide) ?_
  refine S_iret hz qX0_bodyOf_56 ?_
  exact ⟨rfl, rfl⟩

theorem c_bodyOf_6_0 {g : GC} {V : MM} : Ct g mX0_bodyOf 1 [vi 0, vi 6] V (RE V (71)) := by
  refine Ct.of (ls := [some (vi 0), some (vi 6), none, none, none]) (plainFor_of_name (by decide +kernel)) rfl (by exact Nat.le_of_ble_eq_true rfl) (fun X hz hD => ?_)
  refine S_il1 qX0_bodyOf_0 ?_
  refine S_is2 qX0_bodyOf_1 (K := ?_)
  refine S_iconst qX0_bodyOf_2 ?_
  refine S_is3 qX0_bodyOf_3 (K := ?_)
  refine S_il3 qX0_bodyOf_4 ?_
  refine S_bipush (d := qX0_bodyOf_5) (k := ?_)
  refine S_icmp_ge (d := qX0_bodyOf_7) (kt := fun c => absurd c (by decide)) (kf := fun _ => ?_)
  refine S_il2 qX0_bodyOf_10 ?_
  refine S_if_lt (d := qX0_bodyOf_11) (kt := fun c => absurd c (by decide)) (kf := fun _ => ?_)
  refine S_il2 qX0_bodyOf_14 ?_
  refine S_bipush (d := qX0_bodyOf_15) (k := ?_)
  refine S_icmp_ge (d := qX0_bodyOf_17) (kt := fun c => absurd c (by decide)) (kf := fun _ => ?_)
  refine S_il2 qX0_bodyOf_20 ?_
  refine S_iconst qX0_bodyOf_21 ?_
  refine S_imul qX0_bodyOf_22 ?_
  refine S_il0 qX0_bodyOf_23 ?_
  refine S_iadd qX0_bodyOf_24 ?_
  refine S_is4 qX0_bodyOf_25 (K := ?_)
  refine S_il4 qX0_bodyOf_27 ?_
  refine S_if_lt (d := qX0_bodyOf_29) (kt := fun c => absurd c (by decide)) (kf := fun _ => ?_)
  refine S_il4 qX0_bodyOf_32 ?_
  refine S_gets (v := vr 221) qX0_bodyOf_34 sX0_50 (fun g2 U H h => h.2.2.1) ?_
  refine S_tlen qX0_bodyOf_37 (fun g2 U H h => ro_bodies h) ?_
  refine S_icmp_ge (d := qX0_bodyOf_38) (kt := fun c => absurd c (by decide)) (kf := fun _ => ?_)
  refine S_gets (v := vr 221) qX0_bodyOf_41 sX0_50 (fun g2 U H h => h.2.2.1) ?_
  refine S_il4 qX0_bodyOf_44 ?_
  refine S_tild (z := 71) qX0_bodyOf_46 (fun g2 U H h => ro_bodies h) (by decide) (by decide) ?_
  refine S_if_eq (d := qX0_bodyOf_47) (kt := fun c => absurd c (by decide)) (kf := fun _ => ?_)
  refine S_gets (v := vr 221) qX0_bodyOf_50 sX0_50 (fun g2 U H h => h.2.2.1) ?_
  refine S_il4 qX0_bodyOf_53 ?_
  refine S_tild (z := 71) qX0_bodyOf_55 (fun g2 U H h => ro_bodies h) (by decide) (by decide) ?_
  refine S_iret hz qX0_bodyOf_56 ?_
  exact ⟨rfl, rfl⟩

theorem c_bodyOf_6_1 {g : GC} {V : MM} : Ct g mX0_bodyOf 1 [vi 1, vi 6] V (RE V (70)) := by
  refine Ct.of (ls := [some (vi 1), some (vi 6), none, none, none]) (plainFor_of_name (by decide +kernel)) rfl (by exact Nat.le_of_ble_eq_true rfl) (fun X hz hD => ?_)
  refine S_il1 qX0_bodyOf_0 ?_
  refine S_is2 qX0_bodyOf_1 (K := ?_)
  refine S_iconst qX0_bodyOf_2 ?_
  refine S_is3 qX0_bodyOf_3 (K := ?_)
  refine S_il3 qX0_bodyOf_4 ?_
  refine S_bipush (d := qX0_bodyOf_5) (k := ?_)
  refine S_icmp_ge (d := qX0_bodyOf_7) (kt := fun c => absurd c (by decide)) (kf := fun _ => ?_)
  refine S_il2 qX0_bodyOf_10 ?_
  refine S_if_lt (d := qX0_bodyOf_11) (kt := fun c => absurd c (by decide)) (kf := fun _ => ?_)
  refine S_il2 qX0_bodyOf_14 ?_
  refine S_bipush (d := qX0_bodyOf_15) (k := ?_)
  refine S_icmp_ge (d := qX0_bodyOf_17) (kt := fun c => absurd c (by decide)) (kf := fun _ => ?_)
  refine S_il2 qX0_bodyOf_20 ?_
  refine S_iconst qX0_bodyOf_21 ?_
  refine S_imul qX0_bodyOf_22 ?_
  refine S_il0 qX0_bodyOf_23 ?_
  refine S_iadd qX0_bodyOf_24 ?_
  refine S_is4 qX0_bodyOf_25 (K := ?_)
  refine S_il4 qX0_bodyOf_27 ?_
  refine S_if_lt (d := qX0_bodyOf_29) (kt := fun c => absurd c (by decide)) (kf := fun _ => ?_)
  refine S_il4 qX0_bodyOf_32 ?_
  refine S_gets (v := vr 221) qX0_bodyOf_34 sX0_50 (fun g2 U H h => h.2.2.1) ?_
  refine S_tlen qX0_bodyOf_37 (fun g2 U H h => ro_bodies h) ?_
  refine S_icmp_ge (d := qX0_bodyOf_38) (kt := fun c => absurd c (by decide)) (kf := fun _ => ?_)
  refine S_gets (v := vr 221) qX0_bodyOf_41 sX0_50 (fun g2 U H h => h.2.2.1) ?_
  refine S_il4 qX0_bodyOf_44 ?_
  refine S_tild (z := 70) qX0_bodyOf_46 (fun g2 U H h => ro_bodies h) (by decide) (by decide) ?_
  refine S_if_eq (d := qX0_bodyOf_47) (kt := fun c => absurd c (by decide)) (kf := fun _ => ?_)
  refine S_gets (v := vr 221) qX0_bodyOf_50 sX0_50 (fun g2 U H h => h.2.2.1) ?_
  refine S_il4 qX0_bodyOf_53 ?_
  refine S_tild (z := 70) qX0_bodyOf_55 (fun g2 U H h => ro_bodies h) (by decide) (by decide) ?_
  refine S_iret hz qX0_bodyOf_56 ?_
  exact ⟨rfl, rfl⟩

theorem c_bodyOf_6_2 {g : GC} {V : MM} : Ct g mX0_bodyOf 1 [vi 2, vi 6] V (RE V (40)) := by
  refine Ct.of (ls := [some (vi 2), some (vi 6), none, none, none]) (plainFor_of_name (by decide +kernel)) rfl (by exact Nat.le_of_ble_eq_true rfl) (fun X hz hD => ?_)
  refine S_il1 qX0_bodyOf_0 ?_
  refine S_is2 qX0_bodyOf_1 (K := ?_)
  refine S_iconst qX0_bodyOf_2 ?_
  refine S_is3 qX0_bodyOf_3 (K := ?_)
  refine S_il3 qX0_bodyOf_4 ?_
  refine S_bipush (d := qX0_bodyOf_5) (k := ?_)
  refine S_icmp_ge (d := qX0_bodyOf_7) (kt := fun c => absurd c (by decide)) (kf := fun _ => ?_)
  refine S_il2 qX0_bodyOf_10 ?_
  refine S_if_lt (d := qX0_bodyOf_11) (kt := fun c => absurd c (by decide)) (kf := fun _ => ?_)
  refine S_il2 qX0_bodyOf_14 ?_
  refine S_bipush (d := qX0_bodyOf_15) (k := ?_)
  refine S_icmp_ge (d := qX0_bodyOf_17) (kt := fun c => absurd c (by decide)) (kf := fun _ => ?_)
  refine S_il2 qX0_bodyOf_20 ?_
  refine S_iconst qX0_bodyOf_21 ?_
  refine S_imul qX0_bodyOf_22 ?_
  refine S_il0 qX0_bodyOf_23 ?_
  refine S_iadd qX0_bodyOf_24 ?_
  refine S_is4 qX0_bodyOf_25 (K := ?_)
  refine S_il4 qX0_bodyOf_27 ?_
  refine S_if_lt (d := qX0_bodyOf_29) (kt := fun c => absurd c (by decide)) (kf := fun _ => ?_)
  refine S_il4 qX0_bodyOf_32 ?_
  refine S_gets (v := vr 221) qX0_bodyOf_34 sX0_50 (fun g2 U H h => h.2.2.1) ?_
  refine S_tlen qX0_bodyOf_37 (fun g2 U H h => ro_bodies h) ?_
  refine S_icmp_ge (d := qX0_bodyOf_38) (kt := fun c => absurd c (by decide)) (kf := fun _ => ?_)
  refine S_gets (v := vr 221) qX0_bodyOf_41 sX0_50 (fun g2 U H h => h.2.2.1) ?_
  refine S_il4 qX0_bodyOf_44 ?_
  refine S_tild (z := 0) qX0_bodyOf_46 (fun g2 U H h => ro_bodies h) (by decide) (by decide) ?_
  refine S_if_eq (d := qX0_bodyOf_47) (kt := fun _ => ?_) (kf := fun c => absurd c (by decide))
  refine S_gets (v := vr 220) qX0_bodyOf_57 sX0_53 (fun g2 U H h => h.2.1.1) ?_
  refine S_il2 qX0_bodyOf_60 ?_
  refine S_tild (z := 3) qX0_bodyOf_61 (fun g2 U H h => ro_above h) (by decide) (by decide) ?_
  refine S_is2 qX0_bodyOf_62 (K := ?_)
  refine S_inc3 qX0_bodyOf_63 (K := ?_)
  refine S_goto qX0_bodyOf_66 ?_
  refine S_il3 qX0_bodyOf_4 ?_
  refine S_bipush (d := qX0_bodyOf_5) (k := ?_)
  refine S_icmp_ge (d := qX0_bodyOf_7) (kt := fun c => absurd c (by decide)) (kf := fun _ => ?_)
  refine S_il2 qX0_bodyOf_10 ?_
  refine S_if_lt (d := qX0_bodyOf_11) (kt := fun c => absurd c (by decide)) (kf := fun _ => ?_)
  refine S_il2 qX0_bodyOf_14 ?_
  refine S_bipush (d := qX0_bodyOf_15) (k := ?_)
  refine S_icmp_ge (d := qX0_bodyOf_17) (kt := fun c => absurd c (by decide)) (kf := fun _ => ?_)
  refine S_il2 qX0_bodyOf_20 ?_
  refine S_iconst qX0_bodyOf_21 ?_
  refine S_imul qX0_bodyOf_22 ?_
  refine S_il0 qX0_bodyOf_23 ?_
  refine S_iadd qX0_bodyOf_24 ?_
  refine S_is4 qX0_bodyOf_25 (K := ?_)
  refine S_il4 qX0_bodyOf_27 ?_
  refine S_if_lt (d := qX0_bodyOf_29) (kt := fun c => absurd c (by decide)) (kf := fun _ => ?_)
  refine S_il4 qX0_bodyOf_32 ?_
  refine S_gets (v := vr 221) qX0_bodyOf_34 sX0_50 (fun g2 U H h => h.2.2.1) ?_
  refine S_tlen qX0_bodyOf_37 (fun g2 U H h => ro_bodies h) ?_
  refine S_icmp_ge (d := qX0_bodyOf_38) (kt := fun c => absurd c (by decide)) (kf := fun _ => ?_)
  refine S_gets (v := vr 221) qX0_bodyOf_41 sX0_50 (fun g2 U H h => h.2.2.1) ?_
  refine S_il4 qX0_bodyOf_44 ?_
  refine S_tild (z := 40) qX0_bodyOf_46 (fun g2 U H h => ro_bodies h) (by decide) (by decide) ?_
  refine S_if_eq (d := qX0_bodyOf_47) (kt := fun c => absurd c (by decide)) (kf := fun _ => ?_)
  refine S_gets (v := vr 221) qX0_bodyOf_50 sX0_50 (fun g2 U H h => h.2.2.1) ?_
  refine S_il4 qX0_bodyOf_53 ?_
  refine S_tild (z := 40) qX0_bodyOf_55 (fun g2 U H h => ro_bodies h) (by decide) (by decide) ?_
  refine S_iret hz qX0_bodyOf_56 ?_
  exact ⟨rfl, rfl⟩

def bodL : List Int := [10, 11, 12, 10, 20, 12, 30, 11, 12, 10, 11, 40, 50, 51, 12, 30, 11, 60, 71, 70, 40]
def bodS (k s : Int) : Int := bodL.getD (3 * k + s).toNat 0
theorem c_bodyOf {g : GC} {V : MM} {s k : Int} (hs : 0 ≤ s ∧ s ≤ 2) (hk : 0 ≤ k ∧ k ≤ 6) : Ct g mX0_bodyOf 1 [vi s, vi k] V (RE V (bodS k s)) := by
  have h1 : s = 0 ∨ s = 1 ∨ s = 2 := by omega
  have h2 : k = 0 ∨ k = 1 ∨ k = 2 ∨ k = 3 ∨ k = 4 ∨ k = 5 ∨ k = 6 := by omega
  rcases h1 with rfl | rfl | rfl <;> rcases h2 with rfl | rfl | rfl | rfl | rfl | rfl | rfl
  · exact c_bodyOf_0_0
  · exact c_bodyOf_1_0
  · exact c_bodyOf_2_0
  · exact c_bodyOf_3_0
  · exact c_bodyOf_4_0
  · exact c_bodyOf_5_0
  · exact c_bodyOf_6_0
  · exact c_bodyOf_0_1
  · exact c_bodyOf_1_1
  · exact c_bodyOf_2_1
  · exact c_bodyOf_3_1
  · exact c_bodyOf_4_1
  · exact c_bodyOf_5_1
  · exact c_bodyOf_6_1
  · exact c_bodyOf_0_2
  · exact c_bodyOf_1_2
  · exact c_bodyOf_2_2
  · exact c_bodyOf_3_2
  · exact c_bodyOf_4_2
  · exact c_bodyOf_5_2
  · exact c_bodyOf_6_2
abbrev TR : Type := Int × (Int → Int)
def trP (b : Int) (tr : TR) : TR := (tr.1 + 1, if tr.1 < 20 then ur tr.2 tr.1 b else tr.2)
def actB (rec : Int → Int → Int → TR → Option (Int × TR)) (k v i b x : Int) (tr : TR) : Option (Int × TR) :=
  if b = 10 then some (x + i, tr)
  else if b = 11 then (rec 0 k x tr).map (fun r => (r.1 - v, r.2))
  else if b = 12 then (rec 1 k x tr).map (fun r => (r.1 * 2, r.2))
  else if b = 20 then (rec 1 0 x tr).map (fun r => ((Int32.ofInt r.1 ^^^ Int32.ofInt 6).toInt, r.2))
  else if b = 30 then rec 0 0 (x * 3) tr
  else if b = 40 then (rec 2 0 x tr).bind (fun r => (rec 1 k 1 r.2).map (fun q => (r.1 + q.1, q.2)))
  else if b = 50 then (rec 0 1 x tr).map (fun r => (-r.1, r.2))
  else if b = 51 then rec 1 1 (x + 1) tr
  else if b = 60 then rec 2 2 (x - i) tr
  else if b = 70 then (rec 1 3 x tr).bind (fun r => (rec 0 3 2 r.2).map (fun q => (r.1 + q.1, q.2)))
  else if b = 71 then (rec 0 3 x tr).map (fun r => ((Int32.ofInt r.1 ^^^ Int32.ofInt v).toInt, r.2))
  else none
def actR (k v i : Int) : Nat → Int → Int → Int → TR → Option (Int × TR)
  | 0, _, _, _, _ => none
  | n + 1, s, fr, x, tr => if 0 ≤ s ∧ s ≤ 2 ∧ 0 ≤ fr ∧ fr ≤ 6 ∧ 0 ≤ tr.1 ∧ tr.1 ≤ 1000 then actB (actR k v i n) k v i (bodS fr s) x (trP (bodS fr s) tr) else none
/-- the memory with a trace -/
def trM (V : MM) (tr : TR) : MM := upR (upR V 7 tr.2) 6 (ur (V 6) 0 tr.1)
theorem trM_trM (V : MM) (a b : TR) : trM (trM V a) b = trM V b := by
  unfold trM
  simp only [upR_n _ (show (6 : Nat) ≠ 7 by omega), upR_s, ur_u]
  rw [upR_c _ _ (show (6 : Nat) ≠ 7 by omega), upR_u, upR_u]
theorem trM_6 (V : MM) (a : TR) : trM V a 6 = ur (V 6) 0 a.1 := by unfold trM; rw [upR_s]
theorem trM_7 (V : MM) (a : TR) : trM V a 7 = a.2 := by unfold trM; rw [upR_n _ (by omega), upR_s]
/-- what run does with so much fuel -/
def RunC (g : GC) (n : Nat) : Prop := ∀ (V : MM) (s fr x dep : Int) (tr : TR) (res : Int × TR), actR (V 6 2) (V 6 3) (V 6 4) n s fr x tr = some res → (0 ≤ V 6 2 ∧ V 6 2 ≤ 6) → 0 ≤ dep → dep + n ≤ 41 → Ct g mX0_run (2 * n + 2) [vr 6, vi s, vi fr, vi x, vi dep] (trM V tr) (fun r V' => r = some (vi res.1) ∧ V' = trM V res.2)

theorem S_V4X {g : GC} {X : CX} {own : String} {cc : ByteArray} {pc nx : Nat} {ls : List (Option AV)} {st : List AV} {V : MM} {idx d d' b : Nat} {M : MN} {a0 a1 a2 a3 : AV} {z : Int} {V2 : MM} (hD : Dp X d) (dd : DI cc pc (.invokevirtual idx) 3 nx) (hl0 : ML own idx M) (hm : MV M 4) (hr : rcv b M.1.cls) (hc : Ct g M d' [vr b, a0, a1, a2, a3] V (fun r V' => r = some (vi z) ∧ V' = V2)) (hd : d' + 1 ≤ d) (hw : (st.map wcat).sum ≤ 8 := by exact Nat.le_of_ble_eq_true rfl) (K : SW g X own cc nx ls (vi z :: st) V2) : SW g X own cc pc ls (a3 :: a2 :: a1 :: a0 :: vr b :: st) V :=
  S_callV (as := [a0, a1, a2, a3]) hD dd hl0 hm hr hc hd rfl rfl hw (fun r V1 h => by obtain ⟨rfl, rfl⟩ := h; exact K)
theorem c_runBody {g : GC} {n : Nat} (hR : RunC g n) (V : MM) (b x dep : Int) (tr : TR) (res : Int × TR) (hx : actB (actR (V 6 2) (V 6 3) (V 6 4) n) (V 6 2) (V 6 3) (V 6 4) b x tr = some res) (hk : 0 ≤ V 6 2 ∧ V 6 2 ≤ 6) (hd0 : 0 ≤ dep) (hd1 : dep + n ≤ 41) (hb : 0 ≤ b ∧ b ≤ 100) : Ct g mX0_runBody (2 * n + 3) [vr 6, vi b, vi x, vi dep] (trM V tr) (fun r V' => r = some (vi res.1) ∧ V' = trM V res.2) := by
  refine Ct.of (ls := [some (vr 6), some (vi b), some (vi x), some (vi dep)]) (plainFor_of_name (by decide +kernel)) rfl (by exact Nat.le_of_ble_eq_true rfl) (fun X hz hD => ?_)
  have e2 : ∀ a : TR, trM V a 6 2 = V 6 2 := fun a => by rw [trM_6, ur_n _ (by omega)]
  have e3 : ∀ a : TR, trM V a 6 3 = V 6 3 := fun a => by rw [trM_6, ur_n _ (by omega)]
  have e4 : ∀ a : TR, trM V a 6 4 = V 6 4 := fun a => by rw [trM_6, ur_n _ (by omega)]
  unfold actB at hx
  by_cases s_10 : b = 10
  · subst s_10
    rw [if_pos rfl] at hx
    refine S_il1 qX0_runBody_0 ?_
    refine S_lookup (tgt := 100) (off := 99) qX0_runBody_1 (by decide +kernel) (by omega) (by decide +kernel) (by decide) ?_
    cases hx
    refine S_il2 qX0_runBody_100 ?_
    refine S_al0 qX0_runBody_101 ?_
    refine S_getI qX0_runBody_102 fX0_35 e6_4 ?_
    rw [e4]
    refine S_iadd qX0_runBody_105 ?_
    exact S_iret hz qX0_runBody_106 ⟨by simp only [e2, e3, e4], rfl⟩
  by_cases s_11 : b = 11
  · subst s_11
    rw [if_neg (by omega : ¬ (11 : Int) = 10), if_pos rfl] at hx
    refine S_il1 qX0_runBody_0 ?_
    refine S_lookup (tgt := 107) (off := 106) qX0_runBody_1 (by decide +kernel) (by omega) (by decide +kernel) (by decide) ?_
    obtain ⟨r1, hr1, rfl⟩ := Option.map_eq_some_iff.mp hx
    refine S_al0 qX0_runBody_107 ?_
    refine S_iconst qX0_runBody_108 ?_
    refine S_al0 qX0_runBody_109 ?_
    refine S_getI qX0_runBody_110 fX0_28 e6_2 ?_
    rw [e2]
    refine S_il2 qX0_runBody_113 ?_
    refine S_il3 qX0_runBody_114 ?_
    refine S_V4X hD qX0_runBody_115 lX0_38 vX0_run r6 (hR V _ _ _ _ _ r1 hr1 hk hd0 hd1) (by omega) (K := ?_)
    refine S_al0 qX0_runBody_118 ?_
    refine S_getI qX0_runBody_119 fX0_33 e6_3 ?_
    rw [e3]
    refine S_isub qX0_runBody_122 ?_
    exact S_iret hz qX0_runBody_123 ⟨by simp only [e2, e3, e4], rfl⟩
  by_cases s_12 : b = 12
  · subst s_12
    rw [if_neg (by omega : ¬ (12 : Int) = 10), if_neg (by omega : ¬ (12 : Int) = 11), if_pos rfl] at hx
    refine S_il1 qX0_runBody_0 ?_
    refine S_lookup (tgt := 124) (off := 123) qX0_runBody_1 (by decide +kernel) (by omega) (by decide +kernel) (by decide) ?_
    obtain ⟨r1, hr1, rfl⟩ := Option.map_eq_some_iff.mp hx
    refine S_al0 qX0_runBody_124 ?_
    refine S_iconst qX0_runBody_125 ?_
    refine S_al0 qX0_runBody_126 ?_
    refine S_getI qX0_runBody_127 fX0_28 e6_2 ?_
    rw [e2]
    refine S_il2 qX0_runBody_130 ?_
    refine S_il3 qX0_runBody_131 ?_
    refine S_V4X hD qX0_runBody_132 lX0_38 vX0_run r6 (hR V _ _ _ _ _ r1 hr1 hk hd0 hd1) (by omega) (K := ?_)
    refine S_iconst qX0_runBody_135 ?_
    refine S_imul qX0_runBody_136 ?_
    exact S_iret hz qX0_runBody_137 ⟨by simp only [e2, e3, e4], rfl⟩
  by_cases s_20 : b = 20
  · subst s_20
    rw [if_neg (by omega : ¬ (20 : Int) = 10), if_neg (by omega : ¬ (20 : Int) = 11), if_neg (by omega : ¬ (20 : Int) = 12), if_pos rfl] at hx
    refine S_il1 qX0_runBody_0 ?_
    refine S_lookup (tgt := 138) (off := 137) qX0_runBody_1 (by decide +kernel) (by omega) (by decide +kernel) (by decide) ?_
    obtain ⟨r1, hr1, rfl⟩ := Option.map_eq_some_iff.mp hx
    refine S_al0 qX0_runBody_138 ?_
    refine S_iconst qX0_runBody_139 ?_
    refine S_iconst qX0_runBody_140 ?_
    refine S_il2 qX0_runBody_141 ?_
    refine S_il3 qX0_runBody_142 ?_
    refine S_V4X hD qX0_runBody_143 lX0_38 vX0_run r6 (hR V _ _ _ _ _ r1 hr1 hk hd0 hd1) (by omega) (K := ?_)
    refine S_bipush (d := qX0_runBody_146) (k := ?_)
    refine S_ixor qX0_runBody_148 ?_
    exact S_iret hz qX0_runBody_149 ⟨by simp only [e2, e3, e4], rfl⟩
  by_cases s_30 : b = 30
  · subst s_30
    rw [if_neg (by omega : ¬ (30 : Int) = 10), if_neg (by omega : ¬ (30 : Int) = 11), if_neg (by omega : ¬ (30 : Int) = 12), if_neg (by omega : ¬ (30 : Int) = 20), if_pos rfl] at hx
    refine S_il1 qX0_runBody_0 ?_
    refine S_lookup (tgt := 150) (off := 149) qX0_runBody_1 (by decide +kernel) (by omega) (by decide +kernel) (by decide) ?_
    refine S_al0 qX0_runBody_150 ?_
    refine S_iconst qX0_runBody_151 ?_
    refine S_iconst qX0_runBody_152 ?_
    refine S_il2 qX0_runBody_153 ?_
    refine S_iconst qX0_runBody_154 ?_
    refine S_imul qX0_runBody_155 ?_
    refine S_il3 qX0_runBody_156 ?_
    refine S_V4X hD qX0_runBody_157 lX0_38 vX0_run r6 (hR V _ _ _ _ _ res hx hk hd0 hd1) (by omega) (K := ?_)
    exact S_iret hz qX0_runBody_160 ⟨by simp only [e2, e3, e4], rfl⟩
  by_cases s_40 : b = 40
  · subst s_40
    rw [if_neg (by omega : ¬ (40 : Int) = 10), if_neg (by omega : ¬ (40 : Int) = 11), if_neg (by omega : ¬ (40 : Int) = 12), if_neg (by omega : ¬ (40 : Int) = 20), if_neg (by omega : ¬ (40 : Int) = 30), if_pos rfl] at hx
    refine S_il1 qX0_runBody_0 ?_
    refine S_lookup (tgt := 161) (off := 160) qX0_runBody_1 (by decide +kernel) (by omega) (by decide +kernel) (by decide) ?_
    obtain ⟨r1, hr1, hx⟩ := Option.bind_eq_some_iff.mp hx
    obtain ⟨r2, hr2, rfl⟩ := Option.map_eq_some_iff.mp hx
    refine S_al0 qX0_runBody_161 ?_
    refine S_iconst qX0_runBody_162 ?_
    refine S_iconst qX0_runBody_163 ?_
    refine S_il2 qX0_runBody_164 ?_
    refine S_il3 qX0_runBody_165 ?_
    refine S_V4X hD qX0_runBody_166 lX0_38 vX0_run r6 (hR V _ _ _ _ _ r1 hr1 hk hd0 hd1) (by omega) (K := ?_)
    refine S_al0 qX0_runBody_169 ?_
    refine S_iconst qX0_runBody_170 ?_
    refine S_al0 qX0_runBody_171 ?_
    refine S_getI qX0_runBody_172 fX0_28 e6_2 ?_
    rw [e2]
    refine S_iconst qX0_runBody_175 ?_
    refine S_il3 qX0_runBody_176 ?_
    refine S_V4X hD qX0_runBody_177 lX0_38 vX0_run r6 (hR V _ _ _ _ _ r2 hr2 hk hd0 hd1) (by omega) (K := ?_)
    refine S_iadd qX0_runBody_180 ?_
    exact S_iret hz qX0_runBody_181 ⟨by simp only [e2, e3, e4], rfl⟩
  by_cases s_50 : b = 50
  · subst s_50
    rw [if_neg (by omega : ¬ (50 : Int) = 10), if_neg (by omega : ¬ (50 : Int) = 11), if_neg (by omega : ¬ (50 : Int) = 12), if_neg (by omega : ¬ (50 : Int) = 20), if_neg (by omega : ¬ (50 : Int) = 30), if_neg (by omega : ¬ (50 : Int) = 40), if_pos rfl] at hx
    refine S_il1 qX0_runBody_0 ?_
    refine S_lookup (tgt := 182) (off := 181) qX0_runBody_1 (by decide +kernel) (by omega) (by decide +kernel) (by decide) ?_
    obtain ⟨r1, hr1, rfl⟩ := Option.map_eq_some_iff.mp hx
    refine S_al0 qX0_runBody_182 ?_
    refine S_iconst qX0_runBody_183 ?_
    refine S_iconst qX0_runBody_184 ?_
    refine S_il2 qX0_runBody_185 ?_
    refine S_il3 qX0_runBody_186 ?_
    refine S_V4X hD qX0_runBody_187 lX0_38 vX0_run r6 (hR V _ _ _ _ _ r1 hr1 hk hd0 hd1) (by omega) (K := ?_)
    refine S_ineg qX0_runBody_190 ?_
    exact S_iret hz qX0_runBody_191 ⟨by simp only [e2, e3, e4], rfl⟩
  by_cases s_51 : b = 51
  · subst s_51
    rw [if_neg (by omega : ¬ (51 : Int) = 10), if_neg (by omega : ¬ (51 : Int) = 11), if_neg (by omega : ¬ (51 : Int) = 12), if_neg (by omega : ¬ (51 : Int) = 20), if_neg (by omega : ¬ (51 : Int) = 30), if_neg (by omega : ¬ (51 : Int) = 40), if_neg (by omega : ¬ (51 : Int) = 50), if_pos rfl] at hx
    refine S_il1 qX0_runBody_0 ?_
    refine S_lookup (tgt := 192) (off := 191) qX0_runBody_1 (by decide +kernel) (by omega) (by decide +kernel) (by decide) ?_
    refine S_al0 qX0_runBody_192 ?_
    refine S_iconst qX0_runBody_193 ?_
    refine S_iconst qX0_runBody_194 ?_
    refine S_il2 qX0_runBody_195 ?_
    refine S_iconst qX0_runBody_196 ?_
    refine S_iadd qX0_runBody_197 ?_
    refine S_il3 qX0_runBody_198 ?_
    refine S_V4X hD qX0_runBody_199 lX0_38 vX0_run r6 (hR V _ _ _ _ _ res hx hk hd0 hd1) (by omega) (K := ?_)
    exact S_iret hz qX0_runBody_202 ⟨by simp only [e2, e3, e4], rfl⟩
  by_cases s_60 : b = 60
  · subst s_60
    rw [if_neg (by omega : ¬ (60 : Int) = 10), if_neg (by omega : ¬ (60 : Int) = 11), if_neg (by omega : ¬ (60 : Int) = 12), if_neg (by omega : ¬ (60 : Int) = 20), if_neg (by omega : ¬ (60 : Int) = 30), if_neg (by omega : ¬ (60 : Int) = 40), if_neg (by omega : ¬ (60 : Int) = 50), if_neg (by omega : ¬ (60 : Int) = 51), if_pos rfl] at hx
    refine S_il1 qX0_runBody_0 ?_
    refine S_lookup (tgt := 203) (off := 202) qX0_runBody_1 (by decide +kernel) (by omega) (by decide +kernel) (by decide) ?_
    refine S_al0 qX0_runBody_203 ?_
    refine S_iconst qX0_runBody_204 ?_
    refine S_iconst qX0_runBody_205 ?_
    refine S_il2 qX0_runBody_206 ?_
    refine S_al0 qX0_runBody_207 ?_
    refine S_getI qX0_runBody_208 fX0_35 e6_4 ?_
    rw [e4]
    refine S_isub qX0_runBody_211 ?_
    refine S_il3 qX0_runBody_212 ?_
    refine S_V4X hD qX0_runBody_213 lX0_38 vX0_run r6 (hR V _ _ _ _ _ res hx hk hd0 hd1) (by omega) (K := ?_)
    exact S_iret hz qX0_runBody_216 ⟨by simp only [e2, e3, e4], rfl⟩
  by_cases s_70 : b = 70
  · subst s_70
    rw [if_neg (by omega : ¬ (70 : Int) = 10), if_neg (by omega : ¬ (70 : Int) = 11), if_neg (by omega : ¬ (70 : Int) = 12), if_neg (by omega : ¬ (70 : Int) = 20), if_neg (by omega : ¬ (70 : Int) = 30), if_neg (by omega : ¬ (70 : Int) = 40), if_neg (by omega : ¬ (70 : Int) = 50), if_neg (by omega : ¬ (70 : Int) = 51), if_neg (by omega : ¬ (70 : Int) = 60), if_pos rfl] at hx
    refine S_il1 qX0_runBody_0 ?_
    refine S_lookup (tgt := 217) (off := 216) qX0_runBody_1 (by decide +kernel) (by omega) (by decide +kernel) (by decide) ?_
    obtain ⟨r1, hr1, hx⟩ := Option.bind_eq_some_iff.mp hx
    obtain ⟨r2, hr2, rfl⟩ := Option.map_eq_some_iff.mp hx
    refine S_al0 qX0_runBody_217 ?_
    refine S_iconst qX0_runBody_218 ?_
    refine S_iconst qX0_runBody_219 ?_
    refine S_il2 qX0_runBody_220 ?_
    refine S_il3 qX0_runBody_221 ?_
    refine S_V4X hD qX0_runBody_222 lX0_38 vX0_run r6 (hR V _ _ _ _ _ r1 hr1 hk hd0 hd1) (by omega) (K := ?_)
    refine S_al0 qX0_runBody_225 ?_
    refine S_iconst qX0_runBody_226 ?_
    refine S_iconst qX0_runBody_227 ?_
    refine S_iconst qX0_runBody_228 ?_
    refine S_il3 qX0_runBody_229 ?_
    refine S_V4X hD qX0_runBody_230 lX0_38 vX0_run r6 (hR V _ _ _ _ _ r2 hr2 hk hd0 hd1) (by omega) (K := ?_)
    refine S_iadd qX0_runBody_233 ?_
    exact S_iret hz qX0_runBody_234 ⟨by simp only [e2, e3, e4], rfl⟩
  by_cases s_71 : b = 71
  · subst s_71
    rw [if_neg (by omega : ¬ (71 : Int) = 10), if_neg (by omega : ¬ (71 : Int) = 11), if_neg (by omega : ¬ (71 : Int) = 12), if_neg (by omega : ¬ (71 : Int) = 20), if_neg (by omega : ¬ (71 : Int) = 30), if_neg (by omega : ¬ (71 : Int) = 40), if_neg (by omega : ¬ (71 : Int) = 50), if_neg (by omega : ¬ (71 : Int) = 51), if_neg (by omega : ¬ (71 : Int) = 60), if_neg (by omega : ¬ (71 : Int) = 70), if_pos rfl] at hx
    refine S_il1 qX0_runBody_0 ?_
    refine S_lookup (tgt := 235) (off := 234) qX0_runBody_1 (by decide +kernel) (by omega) (by decide +kernel) (by decide) ?_
    obtain ⟨r1, hr1, rfl⟩ := Option.map_eq_some_iff.mp hx
    refine S_al0 qX0_runBody_235 ?_
    refine S_iconst qX0_runBody_236 ?_
    refine S_iconst qX0_runBody_237 ?_
    refine S_il2 qX0_runBody_238 ?_
    refine S_il3 qX0_runBody_239 ?_
    refine S_V4X hD qX0_runBody_240 lX0_38 vX0_run r6 (hR V _ _ _ _ _ r1 hr1 hk hd0 hd1) (by omega) (K := ?_)
    refine S_al0 qX0_runBody_243 ?_
    refine S_getI qX0_runBody_244 fX0_33 e6_3 ?_
    rw [e3]
    refine S_ixor qX0_runBody_247 ?_
    exact S_iret hz qX0_runBody_248 ⟨by simp only [e2, e3, e4], rfl⟩
  exfalso
  rw [if_neg s_10, if_neg s_11, if_neg s_12, if_neg s_20, if_neg s_30, if_neg s_40, if_neg s_50, if_neg s_51, if_neg s_60, if_neg s_70, if_neg s_71] at hx
  cases hx
end
section
theorem c_run (g : GC) : ∀ n : Nat, RunC g n := by
  intro n
  induction n with
  | zero => intro V s fr x dep tr res hx; unfold actR at hx; cases hx
  | succ n ih =>
    intro V s fr x dep tr res hx hk hd0 hd1
    unfold actR at hx
    by_cases hgd : 0 ≤ s ∧ s ≤ 2 ∧ 0 ≤ fr ∧ fr ≤ 6 ∧ 0 ≤ tr.1 ∧ tr.1 ≤ 1000
    · rw [if_pos hgd] at hx
      have hbr : 0 ≤ bodS fr s ∧ bodS fr s ≤ 100 := by
        have h1 : s = 0 ∨ s = 1 ∨ s = 2 := by omega
        have h2 : fr = 0 ∨ fr = 1 ∨ fr = 2 ∨ fr = 3 ∨ fr = 4 ∨ fr = 5 ∨ fr = 6 := by omega
        rcases h1 with rfl | rfl | rfl <;> rcases h2 with rfl | rfl | rfl | rfl | rfl | rfl | rfl <;> decide
      have e0 : trM V tr 6 0 = tr.1 := by rw [trM_6, ur_s]
      have e7 : trM V tr 7 = tr.2 := trM_7 V tr
      refine Ct.of (ls := [some (vr 6), some (vi s), some (vi fr), some (vi x), some (vi dep), none]) (plainFor_of_name (by decide +kernel)) rfl (by exact Nat.le_of_ble_eq_true rfl) (fun X hz hD => ?_)
      have hjoin : ∀ V2 : MM, V2 = upR (trM V tr) 7 (trP (bodS fr s) tr).2 → SW g X RX0 cX0_run 36 [some (vr 6), some (vi s), some (vi fr), some (vi x), some (vi dep), some (vi (bodS fr s))] [] V2 := by
        intro V2 hV2
        have e20 : V2 6 0 = tr.1 := by rw [hV2, upR_n _ (by omega), e0]
        refine S_al0 qX0_run_36 ?_
        refine S_dup (d := qX0_run_37) (k := ?_)
        refine S_getI qX0_run_38 fX0_15 e6_0 ?_
        rw [e20]
        refine S_iconst qX0_run_41 ?_
        refine S_iadd qX0_run_42 ?_
        refine S_putI qX0_run_43 fX0_15 e6_0 tX0_0 ?_
        refine S_al0 qX0_run_46 ?_
        refine S_il5 qX0_run_47 ?_
        refine S_il3 qX0_run_49 ?_
        refine S_il4 qX0_run_50 ?_
        refine S_iconst qX0_run_52 ?_
        refine S_iadd qX0_run_53 ?_
        have eM : upR V2 6 (ur (V2 6) 0 (tr.1 + 1)) = trM V (trP (bodS fr s) tr) := by
          rw [hV2, upR_n _ (show (6 : Nat) ≠ 7 by omega), trM_6, ur_u]
          unfold trM trP
          rw [upR_c _ _ (show (6 : Nat) ≠ 7 by omega), upR_u, upR_u]
        rw [eM]
        exact S_callV (as := [vi (bodS fr s), vi x, vi (dep + 1)]) hD qX0_run_54 lX0_46 vX0_runBody r6 (c_runBody ih V (bodS fr s) x (dep + 1) (trP (bodS fr s) tr) res hx hk (by omega) (by omega) hbr) (by omega) rfl rfl (Nat.le_of_ble_eq_true rfl) (fun r V1 h => by obtain ⟨rfl, rfl⟩ := h; exact S_iret hz qX0_run_57 ⟨rfl, rfl⟩)
      refine S_il4 qX0_run_0 ?_
      refine S_bipush (d := qX0_run_2) (k := ?_)
      refine S_icmp_le (d := qX0_run_4) (kt := fun c4 => ?_) (kf := fun c4 => ?_)
      rotate_left
      · omega
      refine S_il1 qX0_run_9 ?_
      refine S_il2 qX0_run_10 ?_
      refine S_S2E hD qX0_run_11 lX0_42 sX0_bodyOf (c_bodyOf (by omega) (by omega)) (K := ?_)
      refine S_is5 qX0_run_14 (K := ?_)
      refine S_al0 qX0_run_16 ?_
      refine S_getI qX0_run_17 fX0_15 e6_0 ?_
      rw [e0]
      refine S_bipush (d := qX0_run_20) (k := ?_)
      refine S_icmp_ge (d := qX0_run_22) (kt := fun c22 => ?_) (kf := fun c22 => ?_)
      · refine hjoin _ ?_
        first
          | (unfold trP
             rw [if_pos c22, e7]
             simp only [e0])
          | (unfold trP
             rw [if_neg (by omega)]
             show trM V tr = upR (trM V tr) 7 tr.2
             rw [← e7, upR_id])
      · refine S_al0 qX0_run_25 ?_
        refine S_getR qX0_run_26 fX0_11 e6_1 ?_
        refine S_al0 qX0_run_29 ?_
        refine S_getI qX0_run_30 fX0_15 e6_0 ?_
        refine S_il5 qX0_run_33 ?_
        refine S_iast qX0_run_35 a7 (K := ?_)
        refine hjoin _ ?_
        first
          | (unfold trP
             rw [if_pos c22, e7]
             simp only [e0])
          | (unfold trP
             rw [if_neg (by omega)]
             show trM V tr = upR (trM V tr) 7 tr.2
             rw [← e7, upR_id])
    · rw [if_neg hgd] at hx; cases hx
/-- an act: its answer and the trace -/
def actS (k v i : Int) (s x : Int) (row : Int → Int) : Option (Int × TR) := actR k v i 12 s k x (0, row)
end
