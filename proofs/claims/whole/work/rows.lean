section
-- ===== PART A: goes FIRST, ahead of the names: the tables' words, and 'selects' of the private methods out of them =====
/-- a private method of a class that the tables say can be made, by its rows of tables_1 -/
def lw_okq (q : MethodName × Nat) : Prop := (q.1.cls ≠ "java/lang/invoke/MethodHandle" ∧ q.1.cls ≠ "java/lang/invoke/VarHandle") ∧ Cond.instantiable q.1.cls q.2 ∈ tables_1 ∧ Cond.privateMethod q.1 ∈ tables_1 ∧ Cond.instanceMethod q.1 ∈ tables_1
theorem lw_p0 : lw_okq (⟨"TwoBeatsAgo$Floor", "hasPlace", "(I)Z"⟩, 9) := ⟨⟨by decide +kernel, by decide +kernel⟩, List.mem_of_getElem? (i := 59) (by decide +kernel), List.mem_of_getElem? (i := 246) (by decide +kernel), List.mem_of_getElem? (i := 247) (by decide +kernel)⟩
theorem lw_p1 : lw_okq (⟨"TwoBeatsAgo$Floor", "join", "(III)I"⟩, 9) := ⟨⟨by decide +kernel, by decide +kernel⟩, List.mem_of_getElem? (i := 59) (by decide +kernel), List.mem_of_getElem? (i := 250) (by decide +kernel), List.mem_of_getElem? (i := 251) (by decide +kernel)⟩
theorem lw_p2 : lw_okq (⟨"TwoBeatsAgo$Floor", "standAt", "(II)V"⟩, 9) := ⟨⟨by decide +kernel, by decide +kernel⟩, List.mem_of_getElem? (i := 59) (by decide +kernel), List.mem_of_getElem? (i := 254) (by decide +kernel), List.mem_of_getElem? (i := 255) (by decide +kernel)⟩
theorem lw_p3 : lw_okq (⟨"TwoBeatsAgo$Floor", "has", "(I)Z"⟩, 9) := ⟨⟨by decide +kernel, by decide +kernel⟩, List.mem_of_getElem? (i := 59) (by decide +kernel), List.mem_of_getElem? (i := 258) (by decide +kernel), List.mem_of_getElem? (i := 259) (by decide +kernel)⟩
theorem lw_p4 : lw_okq (⟨"TwoBeatsAgo$Hall", "stepFor", "(LTwoBeatsAgo$Floor;I)I"⟩, 7) := ⟨⟨by decide +kernel, by decide +kernel⟩, List.mem_of_getElem? (i := 26) (by decide +kernel), List.mem_of_getElem? (i := 267) (by decide +kernel), List.mem_of_getElem? (i := 268) (by decide +kernel)⟩
theorem lw_p5 : lw_okq (⟨"TwoBeatsAgo$Hall", "holds", "(IILTwoBeatsAgo$Floor;I)Z"⟩, 7) := ⟨⟨by decide +kernel, by decide +kernel⟩, List.mem_of_getElem? (i := 26) (by decide +kernel), List.mem_of_getElem? (i := 271) (by decide +kernel), List.mem_of_getElem? (i := 272) (by decide +kernel)⟩
theorem lw_p6 : lw_okq (⟨"TwoBeatsAgo$Floor", "letterOf", "(II)I"⟩, 9) := ⟨⟨by decide +kernel, by decide +kernel⟩, List.mem_of_getElem? (i := 59) (by decide +kernel), List.mem_of_getElem? (i := 279) (by decide +kernel), List.mem_of_getElem? (i := 280) (by decide +kernel)⟩
theorem lw_p7 : lw_okq (⟨"TwoBeatsAgo$Floor", "goesOf", "(I)I"⟩, 9) := ⟨⟨by decide +kernel, by decide +kernel⟩, List.mem_of_getElem? (i := 59) (by decide +kernel), List.mem_of_getElem? (i := 283) (by decide +kernel), List.mem_of_getElem? (i := 284) (by decide +kernel)⟩
theorem lw_p8 : lw_okq (⟨"TwoBeatsAgo$Floor", "wasOf", "(II)I"⟩, 9) := ⟨⟨by decide +kernel, by decide +kernel⟩, List.mem_of_getElem? (i := 59) (by decide +kernel), List.mem_of_getElem? (i := 288) (by decide +kernel), List.mem_of_getElem? (i := 289) (by decide +kernel)⟩
theorem lw_p9 : lw_okq (⟨"TwoBeatsAgo$Floor", "isLazyNow", "(I)Z"⟩, 9) := ⟨⟨by decide +kernel, by decide +kernel⟩, List.mem_of_getElem? (i := 59) (by decide +kernel), List.mem_of_getElem? (i := 292) (by decide +kernel), List.mem_of_getElem? (i := 293) (by decide +kernel)⟩
theorem lw_p10 : lw_okq (⟨"TwoBeatsAgo$Floor", "follow", "(II)V"⟩, 9) := ⟨⟨by decide +kernel, by decide +kernel⟩, List.mem_of_getElem? (i := 59) (by decide +kernel), List.mem_of_getElem? (i := 307) (by decide +kernel), List.mem_of_getElem? (i := 308) (by decide +kernel)⟩
theorem lw_p11 : lw_okq (⟨"TwoBeatsAgo$HallText", "add", "(C)V"⟩, 3) := ⟨⟨by decide +kernel, by decide +kernel⟩, List.mem_of_getElem? (i := 141) (by decide +kernel), List.mem_of_getElem? (i := 324) (by decide +kernel), List.mem_of_getElem? (i := 325) (by decide +kernel)⟩
theorem lw_p12 : lw_okq (⟨"TwoBeatsAgo$HallText", "readInto", "(LTwoBeatsAgo$Hall;)Z"⟩, 3) := ⟨⟨by decide +kernel, by decide +kernel⟩, List.mem_of_getElem? (i := 141) (by decide +kernel), List.mem_of_getElem? (i := 332) (by decide +kernel), List.mem_of_getElem? (i := 333) (by decide +kernel)⟩
theorem lw_p13 : lw_okq (⟨"TwoBeatsAgo$Hall", "clear", "()V"⟩, 7) := ⟨⟨by decide +kernel, by decide +kernel⟩, List.mem_of_getElem? (i := 26) (by decide +kernel), List.mem_of_getElem? (i := 336) (by decide +kernel), List.mem_of_getElem? (i := 337) (by decide +kernel)⟩
theorem lw_p14 : lw_okq (⟨"TwoBeatsAgo$HallText", "readClause", "(LTwoBeatsAgo$Hall;)Z"⟩, 3) := ⟨⟨by decide +kernel, by decide +kernel⟩, List.mem_of_getElem? (i := 141) (by decide +kernel), List.mem_of_getElem? (i := 340) (by decide +kernel), List.mem_of_getElem? (i := 341) (by decide +kernel)⟩
theorem lw_p15 : lw_okq (⟨"TwoBeatsAgo$HallText", "ahead", "()C"⟩, 3) := ⟨⟨by decide +kernel, by decide +kernel⟩, List.mem_of_getElem? (i := 141) (by decide +kernel), List.mem_of_getElem? (i := 344) (by decide +kernel), List.mem_of_getElem? (i := 345) (by decide +kernel)⟩
def lw_privs_1 : List (MethodName × Nat) := [(⟨"TwoBeatsAgo$Floor", "hasPlace", "(I)Z"⟩, 9), (⟨"TwoBeatsAgo$Floor", "join", "(III)I"⟩, 9), (⟨"TwoBeatsAgo$Floor", "standAt", "(II)V"⟩, 9), (⟨"TwoBeatsAgo$Floor", "has", "(I)Z"⟩, 9), (⟨"TwoBeatsAgo$Hall", "stepFor", "(LTwoBeatsAgo$Floor;I)I"⟩, 7), (⟨"TwoBeatsAgo$Hall", "holds", "(IILTwoBeatsAgo$Floor;I)Z"⟩, 7), (⟨"TwoBeatsAgo$Floor", "letterOf", "(II)I"⟩, 9), (⟨"TwoBeatsAgo$Floor", "goesOf", "(I)I"⟩, 9), (⟨"TwoBeatsAgo$Floor", "wasOf", "(II)I"⟩, 9), (⟨"TwoBeatsAgo$Floor", "isLazyNow", "(I)Z"⟩, 9), (⟨"TwoBeatsAgo$Floor", "follow", "(II)V"⟩, 9), (⟨"TwoBeatsAgo$HallText", "add", "(C)V"⟩, 3), (⟨"TwoBeatsAgo$HallText", "readInto", "(LTwoBeatsAgo$Hall;)Z"⟩, 3), (⟨"TwoBeatsAgo$Hall", "clear", "()V"⟩, 7), (⟨"TwoBeatsAgo$HallText", "readClause", "(LTwoBeatsAgo$Hall;)Z"⟩, 3), (⟨"TwoBeatsAgo$HallText", "ahead", "()C"⟩, 3)]
theorem lw_r1 : ∀ q ∈ lw_privs_1, lw_okq q := List.forall_mem_cons.mpr ⟨lw_p0, List.forall_mem_cons.mpr ⟨lw_p1, List.forall_mem_cons.mpr ⟨lw_p2, List.forall_mem_cons.mpr ⟨lw_p3, List.forall_mem_cons.mpr ⟨lw_p4, List.forall_mem_cons.mpr ⟨lw_p5, List.forall_mem_cons.mpr ⟨lw_p6, List.forall_mem_cons.mpr ⟨lw_p7, List.forall_mem_cons.mpr ⟨lw_p8, List.forall_mem_cons.mpr ⟨lw_p9, List.forall_mem_cons.mpr ⟨lw_p10, List.forall_mem_cons.mpr ⟨lw_p11, List.forall_mem_cons.mpr ⟨lw_p12, List.forall_mem_cons.mpr ⟨lw_p13, List.forall_mem_cons.mpr ⟨lw_p14, List.forall_mem_cons.mpr ⟨lw_p15, fun _ h => absurd h List.not_mem_nil⟩⟩⟩⟩⟩⟩⟩⟩⟩⟩⟩⟩⟩⟩⟩⟩
theorem lw_p16 : lw_okq (⟨"TwoBeatsAgo$HallText", "takesAll", "(Ljava/lang/String;)Z"⟩, 3) := ⟨⟨by decide +kernel, by decide +kernel⟩, List.mem_of_getElem? (i := 141) (by decide +kernel), List.mem_of_getElem? (i := 355) (by decide +kernel), List.mem_of_getElem? (i := 356) (by decide +kernel)⟩
theorem lw_p17 : lw_okq (⟨"TwoBeatsAgo$HallText", "takes", "(C)Z"⟩, 3) := ⟨⟨by decide +kernel, by decide +kernel⟩, List.mem_of_getElem? (i := 141) (by decide +kernel), List.mem_of_getElem? (i := 407) (by decide +kernel), List.mem_of_getElem? (i := 408) (by decide +kernel)⟩
theorem lw_p18 : lw_okq (⟨"TwoBeatsAgo$HallText", "readNumber", "()I"⟩, 3) := ⟨⟨by decide +kernel, by decide +kernel⟩, List.mem_of_getElem? (i := 141) (by decide +kernel), List.mem_of_getElem? (i := 411) (by decide +kernel), List.mem_of_getElem? (i := 412) (by decide +kernel)⟩
theorem lw_p19 : lw_okq (⟨"TwoBeatsAgo$Hall", "setWide", "(I)V"⟩, 7) := ⟨⟨by decide +kernel, by decide +kernel⟩, List.mem_of_getElem? (i := 26) (by decide +kernel), List.mem_of_getElem? (i := 415) (by decide +kernel), List.mem_of_getElem? (i := 416) (by decide +kernel)⟩
theorem lw_p20 : lw_okq (⟨"TwoBeatsAgo$HallText", "readAnyOf", "(LTwoBeatsAgo$Hall;I)Z"⟩, 3) := ⟨⟨by decide +kernel, by decide +kernel⟩, List.mem_of_getElem? (i := 141) (by decide +kernel), List.mem_of_getElem? (i := 425) (by decide +kernel), List.mem_of_getElem? (i := 426) (by decide +kernel)⟩
theorem lw_p21 : lw_okq (⟨"TwoBeatsAgo$HallText", "readAllOf", "(LTwoBeatsAgo$Hall;I)Z"⟩, 3) := ⟨⟨by decide +kernel, by decide +kernel⟩, List.mem_of_getElem? (i := 141) (by decide +kernel), List.mem_of_getElem? (i := 429) (by decide +kernel), List.mem_of_getElem? (i := 430) (by decide +kernel)⟩
theorem lw_p22 : lw_okq (⟨"TwoBeatsAgo$HallText", "readOne", "(LTwoBeatsAgo$Hall;I)Z"⟩, 3) := ⟨⟨by decide +kernel, by decide +kernel⟩, List.mem_of_getElem? (i := 141) (by decide +kernel), List.mem_of_getElem? (i := 433) (by decide +kernel), List.mem_of_getElem? (i := 434) (by decide +kernel)⟩
theorem lw_p23 : lw_okq (⟨"TwoBeatsAgo$HallText", "readTest", "(LTwoBeatsAgo$Hall;)Z"⟩, 3) := ⟨⟨by decide +kernel, by decide +kernel⟩, List.mem_of_getElem? (i := 141) (by decide +kernel), List.mem_of_getElem? (i := 437) (by decide +kernel), List.mem_of_getElem? (i := 438) (by decide +kernel)⟩
theorem lw_p24 : lw_okq (⟨"TwoBeatsAgo$Hall", "addCode", "(I)V"⟩, 7) := ⟨⟨by decide +kernel, by decide +kernel⟩, List.mem_of_getElem? (i := 26) (by decide +kernel), List.mem_of_getElem? (i := 501) (by decide +kernel), List.mem_of_getElem? (i := 502) (by decide +kernel)⟩
theorem lw_p25 : lw_okq (⟨"TwoBeatsAgo$Hall", "addStep", "(I)V"⟩, 7) := ⟨⟨by decide +kernel, by decide +kernel⟩, List.mem_of_getElem? (i := 26) (by decide +kernel), List.mem_of_getElem? (i := 505) (by decide +kernel), List.mem_of_getElem? (i := 506) (by decide +kernel)⟩
theorem lw_p26 : lw_okq (⟨"TwoBeatsAgo$Floor", "wrapAll", "()V"⟩, 9) := ⟨⟨by decide +kernel, by decide +kernel⟩, List.mem_of_getElem? (i := 59) (by decide +kernel), List.mem_of_getElem? (i := 509) (by decide +kernel), List.mem_of_getElem? (i := 510) (by decide +kernel)⟩
theorem lw_p27 : lw_okq (⟨"TwoBeatsAgo$Floor", "placesTaken", "()I"⟩, 9) := ⟨⟨by decide +kernel, by decide +kernel⟩, List.mem_of_getElem? (i := 59) (by decide +kernel), List.mem_of_getElem? (i := 518) (by decide +kernel), List.mem_of_getElem? (i := 519) (by decide +kernel)⟩
theorem lw_p28 : lw_okq (⟨"TwoBeatsAgo$Floor", "goBeats", "(I)V"⟩, 9) := ⟨⟨by decide +kernel, by decide +kernel⟩, List.mem_of_getElem? (i := 59) (by decide +kernel), List.mem_of_getElem? (i := 526) (by decide +kernel), List.mem_of_getElem? (i := 527) (by decide +kernel)⟩
theorem lw_p29 : lw_okq (⟨"TwoBeatsAgo$Floor", "goBeat", "(Z)V"⟩, 9) := ⟨⟨by decide +kernel, by decide +kernel⟩, List.mem_of_getElem? (i := 59) (by decide +kernel), List.mem_of_getElem? (i := 530) (by decide +kernel), List.mem_of_getElem? (i := 531) (by decide +kernel)⟩
theorem lw_p30 : lw_okq (⟨"TwoBeatsAgo$Hall", "stopsAfter", "(I)Z"⟩, 7) := ⟨⟨by decide +kernel, by decide +kernel⟩, List.mem_of_getElem? (i := 26) (by decide +kernel), List.mem_of_getElem? (i := 534) (by decide +kernel), List.mem_of_getElem? (i := 535) (by decide +kernel)⟩
theorem lw_p31 : lw_okq (⟨"TwoBeatsAgo", "asksForPlaces", "(I)Z"⟩, 12) := ⟨⟨by decide +kernel, by decide +kernel⟩, List.mem_of_getElem? (i := 18) (by decide +kernel), List.mem_of_getElem? (i := 546) (by decide +kernel), List.mem_of_getElem? (i := 547) (by decide +kernel)⟩
def lw_privs_2 : List (MethodName × Nat) := [(⟨"TwoBeatsAgo$HallText", "takesAll", "(Ljava/lang/String;)Z"⟩, 3), (⟨"TwoBeatsAgo$HallText", "takes", "(C)Z"⟩, 3), (⟨"TwoBeatsAgo$HallText", "readNumber", "()I"⟩, 3), (⟨"TwoBeatsAgo$Hall", "setWide", "(I)V"⟩, 7), (⟨"TwoBeatsAgo$HallText", "readAnyOf", "(LTwoBeatsAgo$Hall;I)Z"⟩, 3), (⟨"TwoBeatsAgo$HallText", "readAllOf", "(LTwoBeatsAgo$Hall;I)Z"⟩, 3), (⟨"TwoBeatsAgo$HallText", "readOne", "(LTwoBeatsAgo$Hall;I)Z"⟩, 3), (⟨"TwoBeatsAgo$HallText", "readTest", "(LTwoBeatsAgo$Hall;)Z"⟩, 3), (⟨"TwoBeatsAgo$Hall", "addCode", "(I)V"⟩, 7), (⟨"TwoBeatsAgo$Hall", "addStep", "(I)V"⟩, 7), (⟨"TwoBeatsAgo$Floor", "wrapAll", "()V"⟩, 9), (⟨"TwoBeatsAgo$Floor", "placesTaken", "()I"⟩, 9), (⟨"TwoBeatsAgo$Floor", "goBeats", "(I)V"⟩, 9), (⟨"TwoBeatsAgo$Floor", "goBeat", "(Z)V"⟩, 9), (⟨"TwoBeatsAgo$Hall", "stopsAfter", "(I)Z"⟩, 7), (⟨"TwoBeatsAgo", "asksForPlaces", "(I)Z"⟩, 12)]
theorem lw_r2 : ∀ q ∈ lw_privs_2, lw_okq q := List.forall_mem_cons.mpr ⟨lw_p16, List.forall_mem_cons.mpr ⟨lw_p17, List.forall_mem_cons.mpr ⟨lw_p18, List.forall_mem_cons.mpr ⟨lw_p19, List.forall_mem_cons.mpr ⟨lw_p20, List.forall_mem_cons.mpr ⟨lw_p21, List.forall_mem_cons.mpr ⟨lw_p22, List.forall_mem_cons.mpr ⟨lw_p23, List.forall_mem_cons.mpr ⟨lw_p24, List.forall_mem_cons.mpr ⟨lw_p25, List.forall_mem_cons.mpr ⟨lw_p26, List.forall_mem_cons.mpr ⟨lw_p27, List.forall_mem_cons.mpr ⟨lw_p28, List.forall_mem_cons.mpr ⟨lw_p29, List.forall_mem_cons.mpr ⟨lw_p30, List.forall_mem_cons.mpr ⟨lw_p31, fun _ h => absurd h List.not_mem_nil⟩⟩⟩⟩⟩⟩⟩⟩⟩⟩⟩⟩⟩⟩⟩⟩
theorem lw_p32 : lw_okq (⟨"TwoBeatsAgo$Floor", "become", "(LTwoBeatsAgo$Floor;)V"⟩, 9) := ⟨⟨by decide +kernel, by decide +kernel⟩, List.mem_of_getElem? (i := 59) (by decide +kernel), List.mem_of_getElem? (i := 550) (by decide +kernel), List.mem_of_getElem? (i := 551) (by decide +kernel)⟩
theorem lw_p33 : lw_okq (⟨"TwoBeatsAgo", "placesAsked", "(I)I"⟩, 12) := ⟨⟨by decide +kernel, by decide +kernel⟩, List.mem_of_getElem? (i := 18) (by decide +kernel), List.mem_of_getElem? (i := 554) (by decide +kernel), List.mem_of_getElem? (i := 555) (by decide +kernel)⟩
theorem lw_p34 : lw_okq (⟨"TwoBeatsAgo$Floor", "standsAs", "(LTwoBeatsAgo$Floor;)Z"⟩, 9) := ⟨⟨by decide +kernel, by decide +kernel⟩, List.mem_of_getElem? (i := 59) (by decide +kernel), List.mem_of_getElem? (i := 563) (by decide +kernel), List.mem_of_getElem? (i := 564) (by decide +kernel)⟩
theorem lw_p35 : lw_okq (⟨"TwoBeatsAgo$Floor", "beatsTillTogether", "(II)I"⟩, 9) := ⟨⟨by decide +kernel, by decide +kernel⟩, List.mem_of_getElem? (i := 59) (by decide +kernel), List.mem_of_getElem? (i := 571) (by decide +kernel), List.mem_of_getElem? (i := 572) (by decide +kernel)⟩
theorem lw_p36 : lw_okq (⟨"TwoBeatsAgo$Floor", "areTogether", "()Z"⟩, 9) := ⟨⟨by decide +kernel, by decide +kernel⟩, List.mem_of_getElem? (i := 59) (by decide +kernel), List.mem_of_getElem? (i := 575) (by decide +kernel), List.mem_of_getElem? (i := 576) (by decide +kernel)⟩
theorem lw_p37 : lw_okq (⟨"TwoBeatsAgo$Floor", "nobodyMoves", "()Z"⟩, 9) := ⟨⟨by decide +kernel, by decide +kernel⟩, List.mem_of_getElem? (i := 59) (by decide +kernel), List.mem_of_getElem? (i := 583) (by decide +kernel), List.mem_of_getElem? (i := 584) (by decide +kernel)⟩
theorem lw_p38 : lw_okq (⟨"TwoBeatsAgo$Floor", "apart", "(II)I"⟩, 9) := ⟨⟨by decide +kernel, by decide +kernel⟩, List.mem_of_getElem? (i := 59) (by decide +kernel), List.mem_of_getElem? (i := 595) (by decide +kernel), List.mem_of_getElem? (i := 596) (by decide +kernel)⟩
theorem lw_p39 : lw_okq (⟨"TwoBeatsAgo$Floor", "beatsAlone", "(II)I"⟩, 9) := ⟨⟨by decide +kernel, by decide +kernel⟩, List.mem_of_getElem? (i := 59) (by decide +kernel), List.mem_of_getElem? (i := 609) (by decide +kernel), List.mem_of_getElem? (i := 610) (by decide +kernel)⟩
theorem lw_p40 : lw_okq (⟨"TwoBeatsAgo$Floor", "isAlone", "(I)Z"⟩, 9) := ⟨⟨by decide +kernel, by decide +kernel⟩, List.mem_of_getElem? (i := 59) (by decide +kernel), List.mem_of_getElem? (i := 613) (by decide +kernel), List.mem_of_getElem? (i := 614) (by decide +kernel)⟩
theorem lw_p41 : lw_okq (⟨"TwoBeatsAgo$Floor", "countStanding", "([I)V"⟩, 9) := ⟨⟨by decide +kernel, by decide +kernel⟩, List.mem_of_getElem? (i := 59) (by decide +kernel), List.mem_of_getElem? (i := 632) (by decide +kernel), List.mem_of_getElem? (i := 633) (by decide +kernel)⟩
theorem lw_p42 : lw_okq (⟨"TwoBeatsAgo$ByHand", "addSeen", "(III)I"⟩, 9) := ⟨⟨by decide +kernel, by decide +kernel⟩, List.mem_of_getElem? (i := 103) (by decide +kernel), List.mem_of_getElem? (i := 640) (by decide +kernel), List.mem_of_getElem? (i := 641) (by decide +kernel)⟩
theorem lw_p43 : lw_okq (⟨"TwoBeatsAgo$ByHand", "allSeenOn", "(LTwoBeatsAgo$Floor;)Z"⟩, 9) := ⟨⟨by decide +kernel, by decide +kernel⟩, List.mem_of_getElem? (i := 103) (by decide +kernel), List.mem_of_getElem? (i := 648) (by decide +kernel), List.mem_of_getElem? (i := 649) (by decide +kernel)⟩
theorem lw_p44 : lw_okq (⟨"TwoBeatsAgo$ByHand", "addStep", "(I)I"⟩, 9) := ⟨⟨by decide +kernel, by decide +kernel⟩, List.mem_of_getElem? (i := 103) (by decide +kernel), List.mem_of_getElem? (i := 670) (by decide +kernel), List.mem_of_getElem? (i := 671) (by decide +kernel)⟩
theorem lw_p45 : lw_okq (⟨"TwoBeatsAgo$ByHand", "danceOn", "(LTwoBeatsAgo$Floor;)V"⟩, 9) := ⟨⟨by decide +kernel, by decide +kernel⟩, List.mem_of_getElem? (i := 103) (by decide +kernel), List.mem_of_getElem? (i := 678) (by decide +kernel), List.mem_of_getElem? (i := 679) (by decide +kernel)⟩
theorem lw_p46 : lw_okq (⟨"TwoBeatsAgo$ByHand", "addRow", "(II)I"⟩, 9) := ⟨⟨by decide +kernel, by decide +kernel⟩, List.mem_of_getElem? (i := 103) (by decide +kernel), List.mem_of_getElem? (i := 690) (by decide +kernel), List.mem_of_getElem? (i := 691) (by decide +kernel)⟩
theorem lw_p47 : lw_okq (⟨"TwoBeatsAgo$ByHand", "firstWrongRow", "(LTwoBeatsAgo$Floor;)I"⟩, 9) := ⟨⟨by decide +kernel, by decide +kernel⟩, List.mem_of_getElem? (i := 103) (by decide +kernel), List.mem_of_getElem? (i := 698) (by decide +kernel), List.mem_of_getElem? (i := 699) (by decide +kernel)⟩
def lw_privs_3 : List (MethodName × Nat) := [(⟨"TwoBeatsAgo$Floor", "become", "(LTwoBeatsAgo$Floor;)V"⟩, 9), (⟨"TwoBeatsAgo", "placesAsked", "(I)I"⟩, 12), (⟨"TwoBeatsAgo$Floor", "standsAs", "(LTwoBeatsAgo$Floor;)Z"⟩, 9), (⟨"TwoBeatsAgo$Floor", "beatsTillTogether", "(II)I"⟩, 9), (⟨"TwoBeatsAgo$Floor", "areTogether", "()Z"⟩, 9), (⟨"TwoBeatsAgo$Floor", "nobodyMoves", "()Z"⟩, 9), (⟨"TwoBeatsAgo$Floor", "apart", "(II)I"⟩, 9), (⟨"TwoBeatsAgo$Floor", "beatsAlone", "(II)I"⟩, 9), (⟨"TwoBeatsAgo$Floor", "isAlone", "(I)Z"⟩, 9), (⟨"TwoBeatsAgo$Floor", "countStanding", "([I)V"⟩, 9), (⟨"TwoBeatsAgo$ByHand", "addSeen", "(III)I"⟩, 9), (⟨"TwoBeatsAgo$ByHand", "allSeenOn", "(LTwoBeatsAgo$Floor;)Z"⟩, 9), (⟨"TwoBeatsAgo$ByHand", "addStep", "(I)I"⟩, 9), (⟨"TwoBeatsAgo$ByHand", "danceOn", "(LTwoBeatsAgo$Floor;)V"⟩, 9), (⟨"TwoBeatsAgo$ByHand", "addRow", "(II)I"⟩, 9), (⟨"TwoBeatsAgo$ByHand", "firstWrongRow", "(LTwoBeatsAgo$Floor;)I"⟩, 9)]
theorem lw_r3 : ∀ q ∈ lw_privs_3, lw_okq q := List.forall_mem_cons.mpr ⟨lw_p32, List.forall_mem_cons.mpr ⟨lw_p33, List.forall_mem_cons.mpr ⟨lw_p34, List.forall_mem_cons.mpr ⟨lw_p35, List.forall_mem_cons.mpr ⟨lw_p36, List.forall_mem_cons.mpr ⟨lw_p37, List.forall_mem_cons.mpr ⟨lw_p38, List.forall_mem_cons.mpr ⟨lw_p39, List.forall_mem_cons.mpr ⟨lw_p40, List.forall_mem_cons.mpr ⟨lw_p41, List.forall_mem_cons.mpr ⟨lw_p42, List.forall_mem_cons.mpr ⟨lw_p43, List.forall_mem_cons.mpr ⟨lw_p44, List.forall_mem_cons.mpr ⟨lw_p45, List.forall_mem_cons.mpr ⟨lw_p46, List.forall_mem_cons.mpr ⟨lw_p47, fun _ h => absurd h List.not_mem_nil⟩⟩⟩⟩⟩⟩⟩⟩⟩⟩⟩⟩⟩⟩⟩⟩
theorem lw_p48 : lw_okq (⟨"TwoBeatsAgo$ByHand", "become", "(LTwoBeatsAgo$ByHand;)V"⟩, 9) := ⟨⟨by decide +kernel, by decide +kernel⟩, List.mem_of_getElem? (i := 103) (by decide +kernel), List.mem_of_getElem? (i := 713) (by decide +kernel), List.mem_of_getElem? (i := 714) (by decide +kernel)⟩
theorem lw_p49 : lw_okq (⟨"TwoBeatsAgo$Acts", "forgetTrace", "()V"⟩, 5) := ⟨⟨by decide +kernel, by decide +kernel⟩, List.mem_of_getElem? (i := 160) (by decide +kernel), List.mem_of_getElem? (i := 726) (by decide +kernel), List.mem_of_getElem? (i := 727) (by decide +kernel)⟩
theorem lw_p50 : lw_okq (⟨"TwoBeatsAgo$Acts", "play", "(LTwoBeatsAgo$Floor;III)I"⟩, 5) := ⟨⟨by decide +kernel, by decide +kernel⟩, List.mem_of_getElem? (i := 160) (by decide +kernel), List.mem_of_getElem? (i := 730) (by decide +kernel), List.mem_of_getElem? (i := 731) (by decide +kernel)⟩
theorem lw_p51 : lw_okq (⟨"TwoBeatsAgo$Acts", "run", "(IIII)I"⟩, 5) := ⟨⟨by decide +kernel, by decide +kernel⟩, List.mem_of_getElem? (i := 160) (by decide +kernel), List.mem_of_getElem? (i := 735) (by decide +kernel), List.mem_of_getElem? (i := 736) (by decide +kernel)⟩
theorem lw_p52 : lw_okq (⟨"TwoBeatsAgo$Acts", "runBody", "(III)I"⟩, 5) := ⟨⟨by decide +kernel, by decide +kernel⟩, List.mem_of_getElem? (i := 160) (by decide +kernel), List.mem_of_getElem? (i := 746) (by decide +kernel), List.mem_of_getElem? (i := 747) (by decide +kernel)⟩
theorem lw_p53 : lw_okq (⟨"TwoBeatsAgo$Tape", "become", "(II)V"⟩, 3) := ⟨⟨by decide +kernel, by decide +kernel⟩, List.mem_of_getElem? (i := 185) (by decide +kernel), List.mem_of_getElem? (i := 767) (by decide +kernel), List.mem_of_getElem? (i := 768) (by decide +kernel)⟩
theorem lw_p54 : lw_okq (⟨"TwoBeatsAgo$Tape", "fitted", "(J)J"⟩, 3) := ⟨⟨by decide +kernel, by decide +kernel⟩, List.mem_of_getElem? (i := 185) (by decide +kernel), List.mem_of_getElem? (i := 780) (by decide +kernel), List.mem_of_getElem? (i := 781) (by decide +kernel)⟩
theorem lw_p55 : lw_okq (⟨"TwoBeatsAgo$Tape", "hasStretch", "(II)Z"⟩, 3) := ⟨⟨by decide +kernel, by decide +kernel⟩, List.mem_of_getElem? (i := 185) (by decide +kernel), List.mem_of_getElem? (i := 792) (by decide +kernel), List.mem_of_getElem? (i := 793) (by decide +kernel)⟩
theorem lw_p56 : lw_okq (⟨"TwoBeatsAgoModel", "in", "(III)Z"⟩, 64) := ⟨⟨by decide +kernel, by decide +kernel⟩, List.mem_of_getElem? (i := 797) (by decide +kernel), List.mem_of_getElem? (i := 1001) (by decide +kernel), List.mem_of_getElem? (i := 1002) (by decide +kernel)⟩
theorem lw_p57 : lw_okq (⟨"TwoBeatsAgoModel", "wide", "()I"⟩, 64) := ⟨⟨by decide +kernel, by decide +kernel⟩, List.mem_of_getElem? (i := 797) (by decide +kernel), List.mem_of_getElem? (i := 1005) (by decide +kernel), List.mem_of_getElem? (i := 1006) (by decide +kernel)⟩
theorem lw_p58 : lw_okq (⟨"TwoBeatsAgoModel", "lastOf", "(II)I"⟩, 64) := ⟨⟨by decide +kernel, by decide +kernel⟩, List.mem_of_getElem? (i := 797) (by decide +kernel), List.mem_of_getElem? (i := 1009) (by decide +kernel), List.mem_of_getElem? (i := 1010) (by decide +kernel)⟩
theorem lw_p59 : lw_okq (⟨"TwoBeatsAgoModel", "firstClause", "()I"⟩, 64) := ⟨⟨by decide +kernel, by decide +kernel⟩, List.mem_of_getElem? (i := 797) (by decide +kernel), List.mem_of_getElem? (i := 1013) (by decide +kernel), List.mem_of_getElem? (i := 1014) (by decide +kernel)⟩
theorem lw_p60 : lw_okq (⟨"TwoBeatsAgoModel", "behindClauses", "()I"⟩, 64) := ⟨⟨by decide +kernel, by decide +kernel⟩, List.mem_of_getElem? (i := 797) (by decide +kernel), List.mem_of_getElem? (i := 1017) (by decide +kernel), List.mem_of_getElem? (i := 1018) (by decide +kernel)⟩
theorem lw_p61 : lw_okq (⟨"TwoBeatsAgoModel", "laysAll", "(II)V"⟩, 64) := ⟨⟨by decide +kernel, by decide +kernel⟩, List.mem_of_getElem? (i := 797) (by decide +kernel), List.mem_of_getElem? (i := 1021) (by decide +kernel), List.mem_of_getElem? (i := 1022) (by decide +kernel)⟩
theorem lw_p62 : lw_okq (⟨"TwoBeatsAgoModel", "isDancer", "(I)Z"⟩, 64) := ⟨⟨by decide +kernel, by decide +kernel⟩, List.mem_of_getElem? (i := 797) (by decide +kernel), List.mem_of_getElem? (i := 1029) (by decide +kernel), List.mem_of_getElem? (i := 1030) (by decide +kernel)⟩
theorem lw_p63 : lw_okq (⟨"TwoBeatsAgoModel", "goesText", "(I)Z"⟩, 64) := ⟨⟨by decide +kernel, by decide +kernel⟩, List.mem_of_getElem? (i := 797) (by decide +kernel), List.mem_of_getElem? (i := 1049) (by decide +kernel), List.mem_of_getElem? (i := 1050) (by decide +kernel)⟩
def lw_privs_4 : List (MethodName × Nat) := [(⟨"TwoBeatsAgo$ByHand", "become", "(LTwoBeatsAgo$ByHand;)V"⟩, 9), (⟨"TwoBeatsAgo$Acts", "forgetTrace", "()V"⟩, 5), (⟨"TwoBeatsAgo$Acts", "play", "(LTwoBeatsAgo$Floor;III)I"⟩, 5), (⟨"TwoBeatsAgo$Acts", "run", "(IIII)I"⟩, 5), (⟨"TwoBeatsAgo$Acts", "runBody", "(III)I"⟩, 5), (⟨"TwoBeatsAgo$Tape", "become", "(II)V"⟩, 3), (⟨"TwoBeatsAgo$Tape", "fitted", "(J)J"⟩, 3), (⟨"TwoBeatsAgo$Tape", "hasStretch", "(II)Z"⟩, 3), (⟨"TwoBeatsAgoModel", "in", "(III)Z"⟩, 64), (⟨"TwoBeatsAgoModel", "wide", "()I"⟩, 64), (⟨"TwoBeatsAgoModel", "lastOf", "(II)I"⟩, 64), (⟨"TwoBeatsAgoModel", "firstClause", "()I"⟩, 64), (⟨"TwoBeatsAgoModel", "behindClauses", "()I"⟩, 64), (⟨"TwoBeatsAgoModel", "laysAll", "(II)V"⟩, 64), (⟨"TwoBeatsAgoModel", "isDancer", "(I)Z"⟩, 64), (⟨"TwoBeatsAgoModel", "goesText", "(I)Z"⟩, 64)]
theorem lw_r4 : ∀ q ∈ lw_privs_4, lw_okq q := List.forall_mem_cons.mpr ⟨lw_p48, List.forall_mem_cons.mpr ⟨lw_p49, List.forall_mem_cons.mpr ⟨lw_p50, List.forall_mem_cons.mpr ⟨lw_p51, List.forall_mem_cons.mpr ⟨lw_p52, List.forall_mem_cons.mpr ⟨lw_p53, List.forall_mem_cons.mpr ⟨lw_p54, List.forall_mem_cons.mpr ⟨lw_p55, List.forall_mem_cons.mpr ⟨lw_p56, List.forall_mem_cons.mpr ⟨lw_p57, List.forall_mem_cons.mpr ⟨lw_p58, List.forall_mem_cons.mpr ⟨lw_p59, List.forall_mem_cons.mpr ⟨lw_p60, List.forall_mem_cons.mpr ⟨lw_p61, List.forall_mem_cons.mpr ⟨lw_p62, List.forall_mem_cons.mpr ⟨lw_p63, fun _ h => absurd h List.not_mem_nil⟩⟩⟩⟩⟩⟩⟩⟩⟩⟩⟩⟩⟩⟩⟩⟩
theorem lw_p64 : lw_okq (⟨"TwoBeatsAgoModel", "takesClause", "(I)Z"⟩, 64) := ⟨⟨by decide +kernel, by decide +kernel⟩, List.mem_of_getElem? (i := 797) (by decide +kernel), List.mem_of_getElem? (i := 1053) (by decide +kernel), List.mem_of_getElem? (i := 1054) (by decide +kernel)⟩
theorem lw_p65 : lw_okq (⟨"TwoBeatsAgoModel", "takesHead", "(I)Z"⟩, 64) := ⟨⟨by decide +kernel, by decide +kernel⟩, List.mem_of_getElem? (i := 797) (by decide +kernel), List.mem_of_getElem? (i := 1057) (by decide +kernel), List.mem_of_getElem? (i := 1058) (by decide +kernel)⟩
theorem lw_p66 : lw_okq (⟨"TwoBeatsAgoModel", "next", "()I"⟩, 64) := ⟨⟨by decide +kernel, by decide +kernel⟩, List.mem_of_getElem? (i := 797) (by decide +kernel), List.mem_of_getElem? (i := 1061) (by decide +kernel), List.mem_of_getElem? (i := 1062) (by decide +kernel)⟩
theorem lw_p67 : lw_okq (⟨"TwoBeatsAgoModel", "takesWord", "(II)Z"⟩, 64) := ⟨⟨by decide +kernel, by decide +kernel⟩, List.mem_of_getElem? (i := 797) (by decide +kernel), List.mem_of_getElem? (i := 1065) (by decide +kernel), List.mem_of_getElem? (i := 1066) (by decide +kernel)⟩
theorem lw_p68 : lw_okq (⟨"TwoBeatsAgoModel", "takes", "(I)Z"⟩, 64) := ⟨⟨by decide +kernel, by decide +kernel⟩, List.mem_of_getElem? (i := 797) (by decide +kernel), List.mem_of_getElem? (i := 1069) (by decide +kernel), List.mem_of_getElem? (i := 1070) (by decide +kernel)⟩
theorem lw_p69 : lw_okq (⟨"TwoBeatsAgoModel", "takesNumber", "()Z"⟩, 64) := ⟨⟨by decide +kernel, by decide +kernel⟩, List.mem_of_getElem? (i := 797) (by decide +kernel), List.mem_of_getElem? (i := 1073) (by decide +kernel), List.mem_of_getElem? (i := 1074) (by decide +kernel)⟩
theorem lw_p70 : lw_okq (⟨"TwoBeatsAgoModel", "isDigit", "()Z"⟩, 64) := ⟨⟨by decide +kernel, by decide +kernel⟩, List.mem_of_getElem? (i := 797) (by decide +kernel), List.mem_of_getElem? (i := 1077) (by decide +kernel), List.mem_of_getElem? (i := 1078) (by decide +kernel)⟩
theorem lw_p71 : lw_okq (⟨"TwoBeatsAgoModel", "takesE", "(I)Z"⟩, 64) := ⟨⟨by decide +kernel, by decide +kernel⟩, List.mem_of_getElem? (i := 797) (by decide +kernel), List.mem_of_getElem? (i := 1081) (by decide +kernel), List.mem_of_getElem? (i := 1082) (by decide +kernel)⟩
theorem lw_p72 : lw_okq (⟨"TwoBeatsAgoModel", "takesTest", "()Z"⟩, 64) := ⟨⟨by decide +kernel, by decide +kernel⟩, List.mem_of_getElem? (i := 797) (by decide +kernel), List.mem_of_getElem? (i := 1085) (by decide +kernel), List.mem_of_getElem? (i := 1086) (by decide +kernel)⟩
theorem lw_p73 : lw_okq (⟨"TwoBeatsAgoModel", "place", "(I)I"⟩, 64) := ⟨⟨by decide +kernel, by decide +kernel⟩, List.mem_of_getElem? (i := 797) (by decide +kernel), List.mem_of_getElem? (i := 1089) (by decide +kernel), List.mem_of_getElem? (i := 1090) (by decide +kernel)⟩
theorem lw_p74 : lw_okq (⟨"TwoBeatsAgoModel", "emits", "(I)V"⟩, 64) := ⟨⟨by decide +kernel, by decide +kernel⟩, List.mem_of_getElem? (i := 797) (by decide +kernel), List.mem_of_getElem? (i := 1093) (by decide +kernel), List.mem_of_getElem? (i := 1094) (by decide +kernel)⟩
theorem lw_p75 : lw_okq (⟨"TwoBeatsAgoModel", "whole", "()V"⟩, 64) := ⟨⟨by decide +kernel, by decide +kernel⟩, List.mem_of_getElem? (i := 797) (by decide +kernel), List.mem_of_getElem? (i := 1097) (by decide +kernel), List.mem_of_getElem? (i := 1098) (by decide +kernel)⟩
theorem lw_p76 : lw_okq (⟨"TwoBeatsAgoModel", "settle", "(I)V"⟩, 64) := ⟨⟨by decide +kernel, by decide +kernel⟩, List.mem_of_getElem? (i := 797) (by decide +kernel), List.mem_of_getElem? (i := 1101) (by decide +kernel), List.mem_of_getElem? (i := 1102) (by decide +kernel)⟩
theorem lw_p77 : lw_okq (⟨"TwoBeatsAgoModel", "step", "(I)I"⟩, 64) := ⟨⟨by decide +kernel, by decide +kernel⟩, List.mem_of_getElem? (i := 797) (by decide +kernel), List.mem_of_getElem? (i := 1109) (by decide +kernel), List.mem_of_getElem? (i := 1110) (by decide +kernel)⟩
theorem lw_p78 : lw_okq (⟨"TwoBeatsAgoModel", "holds", "(II)Z"⟩, 64) := ⟨⟨by decide +kernel, by decide +kernel⟩, List.mem_of_getElem? (i := 797) (by decide +kernel), List.mem_of_getElem? (i := 1113) (by decide +kernel), List.mem_of_getElem? (i := 1114) (by decide +kernel)⟩
theorem lw_p79 : lw_okq (⟨"TwoBeatsAgoModel", "factOf", "(II)I"⟩, 64) := ⟨⟨by decide +kernel, by decide +kernel⟩, List.mem_of_getElem? (i := 797) (by decide +kernel), List.mem_of_getElem? (i := 1117) (by decide +kernel), List.mem_of_getElem? (i := 1118) (by decide +kernel)⟩
def lw_privs_5 : List (MethodName × Nat) := [(⟨"TwoBeatsAgoModel", "takesClause", "(I)Z"⟩, 64), (⟨"TwoBeatsAgoModel", "takesHead", "(I)Z"⟩, 64), (⟨"TwoBeatsAgoModel", "next", "()I"⟩, 64), (⟨"TwoBeatsAgoModel", "takesWord", "(II)Z"⟩, 64), (⟨"TwoBeatsAgoModel", "takes", "(I)Z"⟩, 64), (⟨"TwoBeatsAgoModel", "takesNumber", "()Z"⟩, 64), (⟨"TwoBeatsAgoModel", "isDigit", "()Z"⟩, 64), (⟨"TwoBeatsAgoModel", "takesE", "(I)Z"⟩, 64), (⟨"TwoBeatsAgoModel", "takesTest", "()Z"⟩, 64), (⟨"TwoBeatsAgoModel", "place", "(I)I"⟩, 64), (⟨"TwoBeatsAgoModel", "emits", "(I)V"⟩, 64), (⟨"TwoBeatsAgoModel", "whole", "()V"⟩, 64), (⟨"TwoBeatsAgoModel", "settle", "(I)V"⟩, 64), (⟨"TwoBeatsAgoModel", "step", "(I)I"⟩, 64), (⟨"TwoBeatsAgoModel", "holds", "(II)Z"⟩, 64), (⟨"TwoBeatsAgoModel", "factOf", "(II)I"⟩, 64)]
theorem lw_r5 : ∀ q ∈ lw_privs_5, lw_okq q := List.forall_mem_cons.mpr ⟨lw_p64, List.forall_mem_cons.mpr ⟨lw_p65, List.forall_mem_cons.mpr ⟨lw_p66, List.forall_mem_cons.mpr ⟨lw_p67, List.forall_mem_cons.mpr ⟨lw_p68, List.forall_mem_cons.mpr ⟨lw_p69, List.forall_mem_cons.mpr ⟨lw_p70, List.forall_mem_cons.mpr ⟨lw_p71, List.forall_mem_cons.mpr ⟨lw_p72, List.forall_mem_cons.mpr ⟨lw_p73, List.forall_mem_cons.mpr ⟨lw_p74, List.forall_mem_cons.mpr ⟨lw_p75, List.forall_mem_cons.mpr ⟨lw_p76, List.forall_mem_cons.mpr ⟨lw_p77, List.forall_mem_cons.mpr ⟨lw_p78, List.forall_mem_cons.mpr ⟨lw_p79, fun _ h => absurd h List.not_mem_nil⟩⟩⟩⟩⟩⟩⟩⟩⟩⟩⟩⟩⟩⟩⟩⟩
theorem lw_p80 : lw_okq (⟨"TwoBeatsAgoModel", "goes", "(I)I"⟩, 64) := ⟨⟨by decide +kernel, by decide +kernel⟩, List.mem_of_getElem? (i := 797) (by decide +kernel), List.mem_of_getElem? (i := 1121) (by decide +kernel), List.mem_of_getElem? (i := 1122) (by decide +kernel)⟩
theorem lw_p81 : lw_okq (⟨"TwoBeatsAgoModel", "round", "(I)I"⟩, 64) := ⟨⟨by decide +kernel, by decide +kernel⟩, List.mem_of_getElem? (i := 797) (by decide +kernel), List.mem_of_getElem? (i := 1125) (by decide +kernel), List.mem_of_getElem? (i := 1126) (by decide +kernel)⟩
theorem lw_p82 : lw_okq (⟨"TwoBeatsAgoModel", "skip", "()I"⟩, 64) := ⟨⟨by decide +kernel, by decide +kernel⟩, List.mem_of_getElem? (i := 797) (by decide +kernel), List.mem_of_getElem? (i := 1133) (by decide +kernel), List.mem_of_getElem? (i := 1134) (by decide +kernel)⟩
theorem lw_p83 : lw_okq (⟨"TwoBeatsAgoModel", "many", "()I"⟩, 64) := ⟨⟨by decide +kernel, by decide +kernel⟩, List.mem_of_getElem? (i := 797) (by decide +kernel), List.mem_of_getElem? (i := 1137) (by decide +kernel), List.mem_of_getElem? (i := 1138) (by decide +kernel)⟩
theorem lw_p84 : lw_okq (⟨"TwoBeatsAgoModel", "isBeats", "(I)Z"⟩, 64) := ⟨⟨by decide +kernel, by decide +kernel⟩, List.mem_of_getElem? (i := 797) (by decide +kernel), List.mem_of_getElem? (i := 1145) (by decide +kernel), List.mem_of_getElem? (i := 1146) (by decide +kernel)⟩
theorem lw_p85 : lw_okq (⟨"TwoBeatsAgoModel", "go", "()V"⟩, 64) := ⟨⟨by decide +kernel, by decide +kernel⟩, List.mem_of_getElem? (i := 797) (by decide +kernel), List.mem_of_getElem? (i := 1149) (by decide +kernel), List.mem_of_getElem? (i := 1150) (by decide +kernel)⟩
theorem lw_p86 : lw_okq (⟨"TwoBeatsAgoModel", "goBeat", "(Z)V"⟩, 64) := ⟨⟨by decide +kernel, by decide +kernel⟩, List.mem_of_getElem? (i := 797) (by decide +kernel), List.mem_of_getElem? (i := 1153) (by decide +kernel), List.mem_of_getElem? (i := 1154) (by decide +kernel)⟩
theorem lw_p87 : lw_okq (⟨"TwoBeatsAgoModel", "save", "()V"⟩, 64) := ⟨⟨by decide +kernel, by decide +kernel⟩, List.mem_of_getElem? (i := 797) (by decide +kernel), List.mem_of_getElem? (i := 1161) (by decide +kernel), List.mem_of_getElem? (i := 1162) (by decide +kernel)⟩
theorem lw_p88 : lw_okq (⟨"TwoBeatsAgoModel", "putBack", "()V"⟩, 64) := ⟨⟨by decide +kernel, by decide +kernel⟩, List.mem_of_getElem? (i := 797) (by decide +kernel), List.mem_of_getElem? (i := 1165) (by decide +kernel), List.mem_of_getElem? (i := 1166) (by decide +kernel)⟩
theorem lw_p89 : lw_okq (⟨"TwoBeatsAgoModel", "isAsKept", "()Z"⟩, 64) := ⟨⟨by decide +kernel, by decide +kernel⟩, List.mem_of_getElem? (i := 797) (by decide +kernel), List.mem_of_getElem? (i := 1173) (by decide +kernel), List.mem_of_getElem? (i := 1174) (by decide +kernel)⟩
theorem lw_p90 : lw_okq (⟨"TwoBeatsAgoModel", "togetherBy", "(I)I"⟩, 64) := ⟨⟨by decide +kernel, by decide +kernel⟩, List.mem_of_getElem? (i := 797) (by decide +kernel), List.mem_of_getElem? (i := 1181) (by decide +kernel), List.mem_of_getElem? (i := 1182) (by decide +kernel)⟩
theorem lw_p91 : lw_okq (⟨"TwoBeatsAgoModel", "isStill", "()Z"⟩, 64) := ⟨⟨by decide +kernel, by decide +kernel⟩, List.mem_of_getElem? (i := 797) (by decide +kernel), List.mem_of_getElem? (i := 1189) (by decide +kernel), List.mem_of_getElem? (i := 1190) (by decide +kernel)⟩
theorem lw_p92 : lw_okq (⟨"TwoBeatsAgoModel", "apart", "(II)I"⟩, 64) := ⟨⟨by decide +kernel, by decide +kernel⟩, List.mem_of_getElem? (i := 797) (by decide +kernel), List.mem_of_getElem? (i := 1201) (by decide +kernel), List.mem_of_getElem? (i := 1202) (by decide +kernel)⟩
theorem lw_p93 : lw_okq (⟨"TwoBeatsAgoModel", "isAlone", "(I)Z"⟩, 64) := ⟨⟨by decide +kernel, by decide +kernel⟩, List.mem_of_getElem? (i := 797) (by decide +kernel), List.mem_of_getElem? (i := 1213) (by decide +kernel), List.mem_of_getElem? (i := 1214) (by decide +kernel)⟩
theorem lw_p94 : lw_okq (⟨"TwoBeatsAgoModel", "counts", "()V"⟩, 64) := ⟨⟨by decide +kernel, by decide +kernel⟩, List.mem_of_getElem? (i := 797) (by decide +kernel), List.mem_of_getElem? (i := 1229) (by decide +kernel), List.mem_of_getElem? (i := 1230) (by decide +kernel)⟩
theorem lw_p95 : lw_okq (⟨"TwoBeatsAgoModel", "isPlace", "(I)Z"⟩, 64) := ⟨⟨by decide +kernel, by decide +kernel⟩, List.mem_of_getElem? (i := 797) (by decide +kernel), List.mem_of_getElem? (i := 1237) (by decide +kernel), List.mem_of_getElem? (i := 1238) (by decide +kernel)⟩
def lw_privs_6 : List (MethodName × Nat) := [(⟨"TwoBeatsAgoModel", "goes", "(I)I"⟩, 64), (⟨"TwoBeatsAgoModel", "round", "(I)I"⟩, 64), (⟨"TwoBeatsAgoModel", "skip", "()I"⟩, 64), (⟨"TwoBeatsAgoModel", "many", "()I"⟩, 64), (⟨"TwoBeatsAgoModel", "isBeats", "(I)Z"⟩, 64), (⟨"TwoBeatsAgoModel", "go", "()V"⟩, 64), (⟨"TwoBeatsAgoModel", "goBeat", "(Z)V"⟩, 64), (⟨"TwoBeatsAgoModel", "save", "()V"⟩, 64), (⟨"TwoBeatsAgoModel", "putBack", "()V"⟩, 64), (⟨"TwoBeatsAgoModel", "isAsKept", "()Z"⟩, 64), (⟨"TwoBeatsAgoModel", "togetherBy", "(I)I"⟩, 64), (⟨"TwoBeatsAgoModel", "isStill", "()Z"⟩, 64), (⟨"TwoBeatsAgoModel", "apart", "(II)I"⟩, 64), (⟨"TwoBeatsAgoModel", "isAlone", "(I)Z"⟩, 64), (⟨"TwoBeatsAgoModel", "counts", "()V"⟩, 64), (⟨"TwoBeatsAgoModel", "isPlace", "(I)Z"⟩, 64)]
theorem lw_r6 : ∀ q ∈ lw_privs_6, lw_okq q := List.forall_mem_cons.mpr ⟨lw_p80, List.forall_mem_cons.mpr ⟨lw_p81, List.forall_mem_cons.mpr ⟨lw_p82, List.forall_mem_cons.mpr ⟨lw_p83, List.forall_mem_cons.mpr ⟨lw_p84, List.forall_mem_cons.mpr ⟨lw_p85, List.forall_mem_cons.mpr ⟨lw_p86, List.forall_mem_cons.mpr ⟨lw_p87, List.forall_mem_cons.mpr ⟨lw_p88, List.forall_mem_cons.mpr ⟨lw_p89, List.forall_mem_cons.mpr ⟨lw_p90, List.forall_mem_cons.mpr ⟨lw_p91, List.forall_mem_cons.mpr ⟨lw_p92, List.forall_mem_cons.mpr ⟨lw_p93, List.forall_mem_cons.mpr ⟨lw_p94, List.forall_mem_cons.mpr ⟨lw_p95, fun _ h => absurd h List.not_mem_nil⟩⟩⟩⟩⟩⟩⟩⟩⟩⟩⟩⟩⟩⟩⟩⟩
theorem lw_p96 : lw_okq (⟨"TwoBeatsAgoModel", "isSeen", "()Z"⟩, 64) := ⟨⟨by decide +kernel, by decide +kernel⟩, List.mem_of_getElem? (i := 797) (by decide +kernel), List.mem_of_getElem? (i := 1245) (by decide +kernel), List.mem_of_getElem? (i := 1246) (by decide +kernel)⟩
theorem lw_p97 : lw_okq (⟨"TwoBeatsAgoModel", "lowest", "(III)J"⟩, 64) := ⟨⟨by decide +kernel, by decide +kernel⟩, List.mem_of_getElem? (i := 797) (by decide +kernel), List.mem_of_getElem? (i := 1254) (by decide +kernel), List.mem_of_getElem? (i := 1255) (by decide +kernel)⟩
theorem lw_p98 : lw_okq (⟨"TwoBeatsAgoModel", "divisor", "(II)I"⟩, 64) := ⟨⟨by decide +kernel, by decide +kernel⟩, List.mem_of_getElem? (i := 797) (by decide +kernel), List.mem_of_getElem? (i := 1258) (by decide +kernel), List.mem_of_getElem? (i := 1259) (by decide +kernel)⟩
theorem lw_p99 : lw_okq (⟨"TwoBeatsAgoModel", "isTape", "(I)Z"⟩, 64) := ⟨⟨by decide +kernel, by decide +kernel⟩, List.mem_of_getElem? (i := 797) (by decide +kernel), List.mem_of_getElem? (i := 1286) (by decide +kernel), List.mem_of_getElem? (i := 1287) (by decide +kernel)⟩
theorem lw_p100 : lw_okq (⟨"TwoBeatsAgoModel", "stepsAct", "(II)I"⟩, 64) := ⟨⟨by decide +kernel, by decide +kernel⟩, List.mem_of_getElem? (i := 797) (by decide +kernel), List.mem_of_getElem? (i := 1302) (by decide +kernel), List.mem_of_getElem? (i := 1303) (by decide +kernel)⟩
theorem lw_p101 : lw_okq (⟨"TwoBeatsAgoModel", "body", "(I)V"⟩, 64) := ⟨⟨by decide +kernel, by decide +kernel⟩, List.mem_of_getElem? (i := 797) (by decide +kernel), List.mem_of_getElem? (i := 1306) (by decide +kernel), List.mem_of_getElem? (i := 1307) (by decide +kernel)⟩
theorem lw_p102 : lw_okq (⟨"TwoBeatsAgoModel", "dancerSteps", "(II)I"⟩, 64) := ⟨⟨by decide +kernel, by decide +kernel⟩, List.mem_of_getElem? (i := 797) (by decide +kernel), List.mem_of_getElem? (i := 1310) (by decide +kernel), List.mem_of_getElem? (i := 1311) (by decide +kernel)⟩
theorem lw_p103 : lw_okq (⟨"TwoBeatsAgoModel", "turnsAct", "(II)I"⟩, 64) := ⟨⟨by decide +kernel, by decide +kernel⟩, List.mem_of_getElem? (i := 797) (by decide +kernel), List.mem_of_getElem? (i := 1314) (by decide +kernel), List.mem_of_getElem? (i := 1315) (by decide +kernel)⟩
theorem lw_p104 : lw_okq (⟨"TwoBeatsAgoModel", "lateTurns", "(II)I"⟩, 64) := ⟨⟨by decide +kernel, by decide +kernel⟩, List.mem_of_getElem? (i := 797) (by decide +kernel), List.mem_of_getElem? (i := 1318) (by decide +kernel), List.mem_of_getElem? (i := 1319) (by decide +kernel)⟩
theorem lw_p105 : lw_okq (⟨"TwoBeatsAgoModel", "dancerTurns", "(II)I"⟩, 64) := ⟨⟨by decide +kernel, by decide +kernel⟩, List.mem_of_getElem? (i := 797) (by decide +kernel), List.mem_of_getElem? (i := 1322) (by decide +kernel), List.mem_of_getElem? (i := 1323) (by decide +kernel)⟩
theorem lw_p106 : lw_okq (⟨"TwoBeatsAgoModel", "tellsAct", "(II)I"⟩, 64) := ⟨⟨by decide +kernel, by decide +kernel⟩, List.mem_of_getElem? (i := 797) (by decide +kernel), List.mem_of_getElem? (i := 1326) (by decide +kernel), List.mem_of_getElem? (i := 1327) (by decide +kernel)⟩
theorem lw_p107 : lw_okq (⟨"TwoBeatsAgoModel", "dancerTells", "(II)I"⟩, 64) := ⟨⟨by decide +kernel, by decide +kernel⟩, List.mem_of_getElem? (i := 797) (by decide +kernel), List.mem_of_getElem? (i := 1330) (by decide +kernel), List.mem_of_getElem? (i := 1331) (by decide +kernel)⟩
theorem lw_p108 : lw_okq (⟨"TwoBeatsAgoModel", "narrow", "(IJ)J"⟩, 64) := ⟨⟨by decide +kernel, by decide +kernel⟩, List.mem_of_getElem? (i := 797) (by decide +kernel), List.mem_of_getElem? (i := 1354) (by decide +kernel), List.mem_of_getElem? (i := 1355) (by decide +kernel)⟩
def lw_privs_7 : List (MethodName × Nat) := [(⟨"TwoBeatsAgoModel", "isSeen", "()Z"⟩, 64), (⟨"TwoBeatsAgoModel", "lowest", "(III)J"⟩, 64), (⟨"TwoBeatsAgoModel", "divisor", "(II)I"⟩, 64), (⟨"TwoBeatsAgoModel", "isTape", "(I)Z"⟩, 64), (⟨"TwoBeatsAgoModel", "stepsAct", "(II)I"⟩, 64), (⟨"TwoBeatsAgoModel", "body", "(I)V"⟩, 64), (⟨"TwoBeatsAgoModel", "dancerSteps", "(II)I"⟩, 64), (⟨"TwoBeatsAgoModel", "turnsAct", "(II)I"⟩, 64), (⟨"TwoBeatsAgoModel", "lateTurns", "(II)I"⟩, 64), (⟨"TwoBeatsAgoModel", "dancerTurns", "(II)I"⟩, 64), (⟨"TwoBeatsAgoModel", "tellsAct", "(II)I"⟩, 64), (⟨"TwoBeatsAgoModel", "dancerTells", "(II)I"⟩, 64), (⟨"TwoBeatsAgoModel", "narrow", "(IJ)J"⟩, 64)]
theorem lw_r7 : ∀ q ∈ lw_privs_7, lw_okq q := List.forall_mem_cons.mpr ⟨lw_p96, List.forall_mem_cons.mpr ⟨lw_p97, List.forall_mem_cons.mpr ⟨lw_p98, List.forall_mem_cons.mpr ⟨lw_p99, List.forall_mem_cons.mpr ⟨lw_p100, List.forall_mem_cons.mpr ⟨lw_p101, List.forall_mem_cons.mpr ⟨lw_p102, List.forall_mem_cons.mpr ⟨lw_p103, List.forall_mem_cons.mpr ⟨lw_p104, List.forall_mem_cons.mpr ⟨lw_p105, List.forall_mem_cons.mpr ⟨lw_p106, List.forall_mem_cons.mpr ⟨lw_p107, List.forall_mem_cons.mpr ⟨lw_p108, fun _ h => absurd h List.not_mem_nil⟩⟩⟩⟩⟩⟩⟩⟩⟩⟩⟩⟩⟩
def lw_privs : List (MethodName × Nat) := lw_privs_1 ++ (lw_privs_2 ++ (lw_privs_3 ++ (lw_privs_4 ++ (lw_privs_5 ++ (lw_privs_6 ++ (lw_privs_7))))))
def lw_tbl : List Cond := k2_sels lw_privs ++ tables_1
theorem lw_privs_ok : ∀ q ∈ lw_privs, lw_okq q := by
  show ∀ q ∈ lw_privs_1 ++ (lw_privs_2 ++ (lw_privs_3 ++ (lw_privs_4 ++ (lw_privs_5 ++ (lw_privs_6 ++ (lw_privs_7)))))), lw_okq q
  exact List.forall_mem_append.mpr ⟨lw_r1, List.forall_mem_append.mpr ⟨lw_r2, List.forall_mem_append.mpr ⟨lw_r3, List.forall_mem_append.mpr ⟨lw_r4, List.forall_mem_append.mpr ⟨lw_r5, List.forall_mem_append.mpr ⟨lw_r6, lw_r7⟩⟩⟩⟩⟩⟩
def RX0 : String := "TwoBeatsAgo$Acts"
def TX0 : u_T := fun k => match k with
  | 0 => ("TwoBeatsAgo$Acts", "ran", "I", false)
  | 1 => ("TwoBeatsAgo$Acts", "bodies", "[I", true)
  | 2 => ("TwoBeatsAgo$Acts", "kind", "I", false)
  | 3 => ("TwoBeatsAgo$Acts", "v", "I", false)
  | _ => ("TwoBeatsAgo$Acts", "number", "I", false)
def tyX0 : Nat → FieldType := fun k => match k with
  | 0 => .int
  | 1 => .array .int
  | 2 => .int
  | 3 => .int
  | _ => .int
theorem nmX0 : ∀ a, a < 5 → ∀ b, b < 5 → a ≠ b → (TX0 a).2.1 ≠ (TX0 b).2.1 := by decide +kernel
theorem tyX0_ok : ∀ k, k < 5 → parseFieldDescriptor (TX0 k).2.2.1 = some (tyX0 k) := by decide +kernel
abbrev cX0_init : ByteArray := prog_2_method_1_code
def yX0_init : MethodName := ⟨RX0, "<init>", "()V"⟩
abbrev cX0_forgetTrace : ByteArray := prog_2_method_2_code
def yX0_forgetTrace : MethodName := ⟨RX0, "forgetTrace", "()V"⟩
abbrev cX0_play : ByteArray := prog_2_method_3_code
def yX0_play : MethodName := ⟨RX0, "play", "(LTwoBeatsAgo$Floor;III)I"⟩
abbrev cX0_run : ByteArray := prog_2_method_4_code
def yX0_run : MethodName := ⟨RX0, "run", "(IIII)I"⟩
abbrev cX0_runBody : ByteArray := prog_2_method_5_code
def yX0_runBody : MethodName := ⟨RX0, "runBody", "(III)I"⟩
abbrev cX0_bodyOf : ByteArray := prog_2_method_6_code
def yX0_bodyOf : MethodName := ⟨RX0, "bodyOf", "(II)I"⟩
def RX1 : String := "TwoBeatsAgo$ByHand"
def TX1 : u_T := fun k => match k with
  | 0 => ("TwoBeatsAgo$ByHand", "seen", "I", false)
  | 1 => ("TwoBeatsAgo$ByHand", "seenDancers", "[I", true)
  | 2 => ("TwoBeatsAgo$ByHand", "seenPlaces", "[I", true)
  | 3 => ("TwoBeatsAgo$ByHand", "seenBehind", "[I", true)
  | 4 => ("TwoBeatsAgo$ByHand", "steps", "I", false)
  | 5 => ("TwoBeatsAgo$ByHand", "dance", "[I", true)
  | 6 => ("TwoBeatsAgo$ByHand", "rows", "I", false)
  | 7 => ("TwoBeatsAgo$ByHand", "rowDancers", "[I", true)
  | _ => ("TwoBeatsAgo$ByHand", "rowPlaces", "[I", true)
def tyX1 : Nat → FieldType := fun k => match k with
  | 0 => .int
  | 1 => .array .int
  | 2 => .array .int
  | 3 => .array .int
  | 4 => .int
  | 5 => .array .int
  | 6 => .int
  | 7 => .array .int
  | _ => .array .int
theorem nmX1 : ∀ a, a < 9 → ∀ b, b < 9 → a ≠ b → (TX1 a).2.1 ≠ (TX1 b).2.1 := by decide +kernel
theorem tyX1_ok : ∀ k, k < 9 → parseFieldDescriptor (TX1 k).2.2.1 = some (tyX1 k) := by decide +kernel
abbrev cX1_init : ByteArray := prog_3_method_1_code
def yX1_init : MethodName := ⟨RX1, "<init>", "()V"⟩
abbrev cX1_become : ByteArray := prog_3_method_2_code
def yX1_become : MethodName := ⟨RX1, "become", "(LTwoBeatsAgo$ByHand;)V"⟩
abbrev cX1_addSeen : ByteArray := prog_3_method_3_code
def yX1_addSeen : MethodName := ⟨RX1, "addSeen", "(III)I"⟩
abbrev cX1_addStep : ByteArray := prog_3_method_4_code
def yX1_addStep : MethodName := ⟨RX1, "addStep", "(I)I"⟩
abbrev cX1_addRow : ByteArray := prog_3_method_5_code
def yX1_addRow : MethodName := ⟨RX1, "addRow", "(II)I"⟩
abbrev cX1_allSeenOn : ByteArray := prog_3_method_6_code
def yX1_allSeenOn : MethodName := ⟨RX1, "allSeenOn", "(LTwoBeatsAgo$Floor;)Z"⟩
abbrev cX1_danceOn : ByteArray := prog_3_method_7_code
def yX1_danceOn : MethodName := ⟨RX1, "danceOn", "(LTwoBeatsAgo$Floor;)V"⟩
abbrev cX1_followRound : ByteArray := prog_3_method_8_code
def yX1_followRound : MethodName := ⟨RX1, "followRound", "(LTwoBeatsAgo$Floor;)V"⟩
abbrev cX1_firstWrongRow : ByteArray := prog_3_method_9_code
def yX1_firstWrongRow : MethodName := ⟨RX1, "firstWrongRow", "(LTwoBeatsAgo$Floor;)I"⟩
def RX2 : String := "TwoBeatsAgo$Floor"
def TX2 : u_T := fun k => match k with
  | 0 => ("TwoBeatsAgo$Floor", "dancers", "I", false)
  | 1 => ("TwoBeatsAgo$Floor", "beat", "I", false)
  | 2 => ("TwoBeatsAgo$Floor", "hall", "LTwoBeatsAgo$Hall;", false)
  | 3 => ("TwoBeatsAgo$Floor", "kind", "[I", true)
  | 4 => ("TwoBeatsAgo$Floor", "v", "[I", true)
  | 5 => ("TwoBeatsAgo$Floor", "follows", "[I", true)
  | 6 => ("TwoBeatsAgo$Floor", "was", "[I", true)
  | 7 => ("TwoBeatsAgo$Floor", "rows", "[I", true)
  | _ => ("TwoBeatsAgo$Floor", "next", "[I", true)
def tyX2 : Nat → FieldType := fun k => match k with
  | 0 => .int
  | 1 => .int
  | 2 => .object "TwoBeatsAgo$Hall"
  | 3 => .array .int
  | 4 => .array .int
  | 5 => .array .int
  | 6 => .array .int
  | 7 => .array .int
  | _ => .array .int
theorem nmX2 : ∀ a, a < 9 → ∀ b, b < 9 → a ≠ b → (TX2 a).2.1 ≠ (TX2 b).2.1 := by decide +kernel
theorem tyX2_ok : ∀ k, k < 9 → parseFieldDescriptor (TX2 k).2.2.1 = some (tyX2 k) := by decide +kernel
abbrev cX2_init : ByteArray := prog_4_method_1_code
def yX2_init : MethodName := ⟨RX2, "<init>", "(LTwoBeatsAgo$Hall;)V"⟩
abbrev cX2_become : ByteArray := prog_4_method_2_code
def yX2_become : MethodName := ⟨RX2, "become", "(LTwoBeatsAgo$Floor;)V"⟩
abbrev cX2_has : ByteArray := prog_4_method_3_code
def yX2_has : MethodName := ⟨RX2, "has", "(I)Z"⟩
abbrev cX2_hasPlace : ByteArray := prog_4_method_4_code
def yX2_hasPlace : MethodName := ⟨RX2, "hasPlace", "(I)Z"⟩
abbrev cX2_wasOf : ByteArray := prog_4_method_5_code
def yX2_wasOf : MethodName := ⟨RX2, "wasOf", "(II)I"⟩
abbrev cX2_join : ByteArray := prog_4_method_6_code
def yX2_join : MethodName := ⟨RX2, "join", "(III)I"⟩
abbrev cX2_follow : ByteArray := prog_4_method_7_code
def yX2_follow : MethodName := ⟨RX2, "follow", "(II)V"⟩
abbrev cX2_standAt : ByteArray := prog_4_method_8_code
def yX2_standAt : MethodName := ⟨RX2, "standAt", "(II)V"⟩
abbrev cX2_wrapAll : ByteArray := prog_4_method_9_code
def yX2_wrapAll : MethodName := ⟨RX2, "wrapAll", "()V"⟩
abbrev cX2_letterOf : ByteArray := prog_4_method_10_code
def yX2_letterOf : MethodName := ⟨RX2, "letterOf", "(II)I"⟩
abbrev cX2_goesOf : ByteArray := prog_4_method_11_code
def yX2_goesOf : MethodName := ⟨RX2, "goesOf", "(I)I"⟩
abbrev cX2_isLazyNow : ByteArray := prog_4_method_12_code
def yX2_isLazyNow : MethodName := ⟨RX2, "isLazyNow", "(I)Z"⟩
abbrev cX2_goBeat : ByteArray := prog_4_method_13_code
def yX2_goBeat : MethodName := ⟨RX2, "goBeat", "(Z)V"⟩
abbrev cX2_goBeats : ByteArray := prog_4_method_14_code
def yX2_goBeats : MethodName := ⟨RX2, "goBeats", "(I)V"⟩
abbrev cX2_beatsTillTogether : ByteArray := prog_4_method_15_code
def yX2_beatsTillTogether : MethodName := ⟨RX2, "beatsTillTogether", "(II)I"⟩
abbrev cX2_beatsAlone : ByteArray := prog_4_method_16_code
def yX2_beatsAlone : MethodName := ⟨RX2, "beatsAlone", "(II)I"⟩
abbrev cX2_areTogether : ByteArray := prog_4_method_17_code
def yX2_areTogether : MethodName := ⟨RX2, "areTogether", "()Z"⟩
abbrev cX2_isAlone : ByteArray := prog_4_method_18_code
def yX2_isAlone : MethodName := ⟨RX2, "isAlone", "(I)Z"⟩
abbrev cX2_nobodyMoves : ByteArray := prog_4_method_19_code
def yX2_nobodyMoves : MethodName := ⟨RX2, "nobodyMoves", "()Z"⟩
abbrev cX2_standsAs : ByteArray := prog_4_method_20_code
def yX2_standsAs : MethodName := ⟨RX2, "standsAs", "(LTwoBeatsAgo$Floor;)Z"⟩
abbrev cX2_placesTaken : ByteArray := prog_4_method_21_code
def yX2_placesTaken : MethodName := ⟨RX2, "placesTaken", "()I"⟩
abbrev cX2_apart : ByteArray := prog_4_method_22_code
def yX2_apart : MethodName := ⟨RX2, "apart", "(II)I"⟩
abbrev cX2_countStanding : ByteArray := prog_4_method_23_code
def yX2_countStanding : MethodName := ⟨RX2, "countStanding", "([I)V"⟩
def RX3 : String := "TwoBeatsAgo$Hall"
def TX3 : u_T := fun k => match k with
  | 0 => ("TwoBeatsAgo$Hall", "wide", "I", false)
  | 1 => ("TwoBeatsAgo$Hall", "skip", "I", false)
  | 2 => ("TwoBeatsAgo$Hall", "steps", "I", false)
  | 3 => ("TwoBeatsAgo$Hall", "codeCount", "I", false)
  | 4 => ("TwoBeatsAgo$Hall", "amounts", "[I", true)
  | 5 => ("TwoBeatsAgo$Hall", "ends", "[I", true)
  | _ => ("TwoBeatsAgo$Hall", "codes", "[I", true)
def tyX3 : Nat → FieldType := fun k => match k with
  | 0 => .int
  | 1 => .int
  | 2 => .int
  | 3 => .int
  | 4 => .array .int
  | 5 => .array .int
  | _ => .array .int
theorem nmX3 : ∀ a, a < 7 → ∀ b, b < 7 → a ≠ b → (TX3 a).2.1 ≠ (TX3 b).2.1 := by decide +kernel
theorem tyX3_ok : ∀ k, k < 7 → parseFieldDescriptor (TX3 k).2.2.1 = some (tyX3 k) := by decide +kernel
abbrev cX3_init : ByteArray := prog_5_method_1_code
def yX3_init : MethodName := ⟨RX3, "<init>", "()V"⟩
abbrev cX3_clear : ByteArray := prog_5_method_2_code
def yX3_clear : MethodName := ⟨RX3, "clear", "()V"⟩
abbrev cX3_setWide : ByteArray := prog_5_method_3_code
def yX3_setWide : MethodName := ⟨RX3, "setWide", "(I)V"⟩
abbrev cX3_addCode : ByteArray := prog_5_method_4_code
def yX3_addCode : MethodName := ⟨RX3, "addCode", "(I)V"⟩
abbrev cX3_testCode : ByteArray := prog_5_method_5_code
def yX3_testCode : MethodName := ⟨RX3, "testCode", "(III)I"⟩
abbrev cX3_addStep : ByteArray := prog_5_method_6_code
def yX3_addStep : MethodName := ⟨RX3, "addStep", "(I)V"⟩
abbrev cX3_stopsAfter : ByteArray := prog_5_method_7_code
def yX3_stopsAfter : MethodName := ⟨RX3, "stopsAfter", "(I)Z"⟩
abbrev cX3_stepFor : ByteArray := prog_5_method_8_code
def yX3_stepFor : MethodName := ⟨RX3, "stepFor", "(LTwoBeatsAgo$Floor;I)I"⟩
abbrev cX3_holds : ByteArray := prog_5_method_9_code
def yX3_holds : MethodName := ⟨RX3, "holds", "(IILTwoBeatsAgo$Floor;I)Z"⟩
abbrev cX3_passes : ByteArray := prog_5_method_10_code
def yX3_passes : MethodName := ⟨RX3, "passes", "(ILTwoBeatsAgo$Floor;I)Z"⟩
def RX4 : String := "TwoBeatsAgo$HallText"
def TX4 : u_T := fun k => match k with
  | 0 => ("TwoBeatsAgo$HallText", "signs", "[C", true)
  | 1 => ("TwoBeatsAgo$HallText", "length", "I", false)
  | _ => ("TwoBeatsAgo$HallText", "at", "I", false)
def tyX4 : Nat → FieldType := fun k => match k with
  | 0 => .array .char
  | 1 => .int
  | _ => .int
theorem nmX4 : ∀ a, a < 3 → ∀ b, b < 3 → a ≠ b → (TX4 a).2.1 ≠ (TX4 b).2.1 := by decide +kernel
theorem tyX4_ok : ∀ k, k < 3 → parseFieldDescriptor (TX4 k).2.2.1 = some (tyX4 k) := by decide +kernel
abbrev cX4_init : ByteArray := prog_6_method_1_code
def yX4_init : MethodName := ⟨RX4, "<init>", "()V"⟩
abbrev cX4_add : ByteArray := prog_6_method_2_code
def yX4_add : MethodName := ⟨RX4, "add", "(C)V"⟩
abbrev cX4_readInto : ByteArray := prog_6_method_3_code
def yX4_readInto : MethodName := ⟨RX4, "readInto", "(LTwoBeatsAgo$Hall;)Z"⟩
abbrev cX4_readClause : ByteArray := prog_6_method_4_code
def yX4_readClause : MethodName := ⟨RX4, "readClause", "(LTwoBeatsAgo$Hall;)Z"⟩
abbrev cX4_wordOf : ByteArray := prog_6_method_5_code
def yX4_wordOf : MethodName := ⟨RX4, "wordOf", "(C)Ljava/lang/String;"⟩
abbrev cX4_readAnyOf : ByteArray := prog_6_method_6_code
def yX4_readAnyOf : MethodName := ⟨RX4, "readAnyOf", "(LTwoBeatsAgo$Hall;I)Z"⟩
abbrev cX4_readAllOf : ByteArray := prog_6_method_7_code
def yX4_readAllOf : MethodName := ⟨RX4, "readAllOf", "(LTwoBeatsAgo$Hall;I)Z"⟩
abbrev cX4_readOne : ByteArray := prog_6_method_8_code
def yX4_readOne : MethodName := ⟨RX4, "readOne", "(LTwoBeatsAgo$Hall;I)Z"⟩
abbrev cX4_readTest : ByteArray := prog_6_method_9_code
def yX4_readTest : MethodName := ⟨RX4, "readTest", "(LTwoBeatsAgo$Hall;)Z"⟩
abbrev cX4_readNumber : ByteArray := prog_6_method_10_code
def yX4_readNumber : MethodName := ⟨RX4, "readNumber", "()I"⟩
abbrev cX4_takesAll : ByteArray := prog_6_method_11_code
def yX4_takesAll : MethodName := ⟨RX4, "takesAll", "(Ljava/lang/String;)Z"⟩
abbrev cX4_takes : ByteArray := prog_6_method_12_code
def yX4_takes : MethodName := ⟨RX4, "takes", "(C)Z"⟩
abbrev cX4_ahead : ByteArray := prog_6_method_13_code
def yX4_ahead : MethodName := ⟨RX4, "ahead", "()C"⟩
def RX5 : String := "TwoBeatsAgo$Tape"
def TX5 : u_T := fun k => match k with
  | 0 => ("TwoBeatsAgo$Tape", "sort", "I", false)
  | 1 => ("TwoBeatsAgo$Tape", "length", "I", false)
  | _ => ("TwoBeatsAgo$Tape", "items", "[J", true)
def tyX5 : Nat → FieldType := fun k => match k with
  | 0 => .int
  | 1 => .int
  | _ => .array .long
theorem nmX5 : ∀ a, a < 3 → ∀ b, b < 3 → a ≠ b → (TX5 a).2.1 ≠ (TX5 b).2.1 := by decide +kernel
theorem tyX5_ok : ∀ k, k < 3 → parseFieldDescriptor (TX5 k).2.2.1 = some (tyX5 k) := by decide +kernel
abbrev cX5_init : ByteArray := prog_7_method_1_code
def yX5_init : MethodName := ⟨RX5, "<init>", "()V"⟩
abbrev cX5_become : ByteArray := prog_7_method_2_code
def yX5_become : MethodName := ⟨RX5, "become", "(II)V"⟩
abbrev cX5_fitted : ByteArray := prog_7_method_3_code
def yX5_fitted : MethodName := ⟨RX5, "fitted", "(J)J"⟩
abbrev cX5_hasStretch : ByteArray := prog_7_method_4_code
def yX5_hasStretch : MethodName := ⟨RX5, "hasStretch", "(II)Z"⟩
def RX6 : String := "TwoBeatsAgo"
def TX6 : u_T := fun k => match k with
  | 0 => ("TwoBeatsAgo", "now", "LTwoBeatsAgo$Floor;", true)
  | 1 => ("TwoBeatsAgo", "trial", "LTwoBeatsAgo$Floor;", true)
  | 2 => ("TwoBeatsAgo", "kept", "LTwoBeatsAgo$Floor;", true)
  | 3 => ("TwoBeatsAgo", "hand", "LTwoBeatsAgo$ByHand;", true)
  | 4 => ("TwoBeatsAgo", "keptHand", "LTwoBeatsAgo$ByHand;", true)
  | 5 => ("TwoBeatsAgo", "imageTaken", "Z", false)
  | 6 => ("TwoBeatsAgo", "halls", "[LTwoBeatsAgo$Hall;", true)
  | 7 => ("TwoBeatsAgo", "hallCount", "I", false)
  | 8 => ("TwoBeatsAgo", "text", "LTwoBeatsAgo$HallText;", true)
  | 9 => ("TwoBeatsAgo", "acts", "LTwoBeatsAgo$Acts;", true)
  | 10 => ("TwoBeatsAgo", "tapes", "[LTwoBeatsAgo$Tape;", true)
  | _ => ("TwoBeatsAgo", "stood", "[I", true)
def tyX6 : Nat → FieldType := fun k => match k with
  | 0 => .object "TwoBeatsAgo$Floor"
  | 1 => .object "TwoBeatsAgo$Floor"
  | 2 => .object "TwoBeatsAgo$Floor"
  | 3 => .object "TwoBeatsAgo$ByHand"
  | 4 => .object "TwoBeatsAgo$ByHand"
  | 5 => .boolean
  | 6 => .array (.object "TwoBeatsAgo$Hall")
  | 7 => .int
  | 8 => .object "TwoBeatsAgo$HallText"
  | 9 => .object "TwoBeatsAgo$Acts"
  | 10 => .array (.object "TwoBeatsAgo$Tape")
  | _ => .array .int
theorem nmX6 : ∀ a, a < 12 → ∀ b, b < 12 → a ≠ b → (TX6 a).2.1 ≠ (TX6 b).2.1 := by decide +kernel
theorem tyX6_ok : ∀ k, k < 12 → parseFieldDescriptor (TX6 k).2.2.1 = some (tyX6 k) := by decide +kernel
abbrev cX6_init : ByteArray := prog_1_method_1_code
def yX6_init : MethodName := ⟨RX6, "<init>", "()V"⟩
abbrev cX6_dancer : ByteArray := prog_1_method_2_code
def yX6_dancer : MethodName := ⟨RX6, "dancer", "(III)I"⟩
abbrev cX6_of : ByteArray := prog_1_method_3_code
def yX6_of : MethodName := ⟨RX6, "of", "(II)I"⟩
abbrev cX6_after : ByteArray := prog_1_method_4_code
def yX6_after : MethodName := ⟨RX6, "after", "(II)I"⟩
abbrev cX6_begin : ByteArray := prog_1_method_5_code
def yX6_begin : MethodName := ⟨RX6, "begin", "(II)I"⟩
abbrev cX6_row : ByteArray := prog_1_method_6_code
def yX6_row : MethodName := ⟨RX6, "row", "(III)I"⟩
abbrev cX6_feed : ByteArray := prog_1_method_7_code
def yX6_feed : MethodName := ⟨RX6, "feed", "(I)I"⟩
abbrev cX6_hall : ByteArray := prog_1_method_8_code
def yX6_hall : MethodName := ⟨RX6, "hall", "()I"⟩
abbrev cX6_told : ByteArray := prog_1_method_9_code
def yX6_told : MethodName := ⟨RX6, "told", "(I)I"⟩
abbrev cX6_pass : ByteArray := prog_1_method_10_code
def yX6_pass : MethodName := ⟨RX6, "pass", "(I)I"⟩
abbrev cX6_on : ByteArray := prog_1_method_11_code
def yX6_on : MethodName := ⟨RX6, "on", "(II)I"⟩
abbrev cX6_again : ByteArray := prog_1_method_12_code
def yX6_again : MethodName := ⟨RX6, "again", "()I"⟩
abbrev cX6_together : ByteArray := prog_1_method_13_code
def yX6_together : MethodName := ⟨RX6, "together", "()I"⟩
abbrev cX6_still : ByteArray := prog_1_method_14_code
def yX6_still : MethodName := ⟨RX6, "still", "()I"⟩
abbrev cX6_meet : ByteArray := prog_1_method_15_code
def yX6_meet : MethodName := ⟨RX6, "meet", "(II)I"⟩
abbrev cX6_far : ByteArray := prog_1_method_16_code
def yX6_far : MethodName := ⟨RX6, "far", "(III)I"⟩
abbrev cX6_whom : ByteArray := prog_1_method_17_code
def yX6_whom : MethodName := ⟨RX6, "whom", "(I)I"⟩
abbrev cX6_alone : ByteArray := prog_1_method_18_code
def yX6_alone : MethodName := ⟨RX6, "alone", "(III)I"⟩
abbrev cX6_stop : ByteArray := prog_1_method_19_code
def yX6_stop : MethodName := ⟨RX6, "stop", "()I"⟩
abbrev cX6_begins : ByteArray := prog_1_method_20_code
def yX6_begins : MethodName := ⟨RX6, "begins", "(III)I"⟩
abbrev cX6_crowd : ByteArray := prog_1_method_21_code
def yX6_crowd : MethodName := ⟨RX6, "crowd", "(I)I"⟩
abbrev cX6_see : ByteArray := prog_1_method_22_code
def yX6_see : MethodName := ⟨RX6, "see", "(III)I"⟩
abbrev cX6_can : ByteArray := prog_1_method_23_code
def yX6_can : MethodName := ⟨RX6, "can", "(I)I"⟩
abbrev cX6_odds : ByteArray := prog_1_method_24_code
def yX6_odds : MethodName := ⟨RX6, "odds", "(II)J"⟩
abbrev cX6_mean : ByteArray := prog_1_method_25_code
def yX6_mean : MethodName := ⟨RX6, "mean", "(II)J"⟩
abbrev cX6_dance : ByteArray := prog_1_method_26_code
def yX6_dance : MethodName := ⟨RX6, "dance", "(I)I"⟩
abbrev cX6_danced : ByteArray := prog_1_method_27_code
def yX6_danced : MethodName := ⟨RX6, "danced", "(I)I"⟩
abbrev cX6_book : ByteArray := prog_1_method_28_code
def yX6_book : MethodName := ⟨RX6, "book", "(II)I"⟩
abbrev cX6_looked : ByteArray := prog_1_method_29_code
def yX6_looked : MethodName := ⟨RX6, "looked", "()I"⟩
abbrev cX6_judge : ByteArray := prog_1_method_30_code
def yX6_judge : MethodName := ⟨RX6, "judge", "(II)I"⟩
abbrev cX6_image : ByteArray := prog_1_method_31_code
def yX6_image : MethodName := ⟨RX6, "image", "()I"⟩
abbrev cX6_undo : ByteArray := prog_1_method_32_code
def yX6_undo : MethodName := ⟨RX6, "undo", "()I"⟩
abbrev cX6_act : ByteArray := prog_1_method_33_code
def yX6_act : MethodName := ⟨RX6, "act", "(III)I"⟩
abbrev cX6_trace : ByteArray := prog_1_method_34_code
def yX6_trace : MethodName := ⟨RX6, "trace", "(I)I"⟩
abbrev cX6_taken : ByteArray := prog_1_method_35_code
def yX6_taken : MethodName := ⟨RX6, "taken", "(II)I"⟩
abbrev cX6_count : ByteArray := prog_1_method_36_code
def yX6_count : MethodName := ⟨RX6, "count", "(I)I"⟩
abbrev cX6_tape : ByteArray := prog_1_method_37_code
def yX6_tape : MethodName := ⟨RX6, "tape", "(III)I"⟩
abbrev cX6_item : ByteArray := prog_1_method_38_code
def yX6_item : MethodName := ⟨RX6, "item", "(IIJ)I"⟩
abbrev cX6_read : ByteArray := prog_1_method_39_code
def yX6_read : MethodName := ⟨RX6, "read", "(II)J"⟩
abbrev cX6_shift : ByteArray := prog_1_method_40_code
def yX6_shift : MethodName := ⟨RX6, "shift", "(IIIII)I"⟩
abbrev cX6_asksForPlaces : ByteArray := prog_1_method_41_code
def yX6_asksForPlaces : MethodName := ⟨RX6, "asksForPlaces", "(I)Z"⟩
abbrev cX6_placesAsked : ByteArray := prog_1_method_42_code
def yX6_placesAsked : MethodName := ⟨RX6, "placesAsked", "(I)I"⟩
abbrev cX6_isTape : ByteArray := prog_1_method_43_code
def yX6_isTape : MethodName := ⟨RX6, "isTape", "(I)Z"⟩
abbrev cX6_partOfFraction : ByteArray := prog_1_method_44_code
def yX6_partOfFraction : MethodName := ⟨RX6, "partOfFraction", "(III)J"⟩
abbrev cX6_modulo : ByteArray := prog_1_method_45_code
def yX6_modulo : MethodName := ⟨RX6, "modulo", "(II)I"⟩
def RX7 : String := "TwoBeatsAgoModel"
def TX7 : u_T := fun k => match k with
  | 0 => ("TwoBeatsAgoModel", "dancers", "I", false)
  | 1 => ("TwoBeatsAgoModel", "beats", "I", false)
  | 2 => ("TwoBeatsAgoModel", "kind", "[I", true)
  | 3 => ("TwoBeatsAgoModel", "v", "[I", true)
  | 4 => ("TwoBeatsAgoModel", "follows", "[I", true)
  | 5 => ("TwoBeatsAgoModel", "rows", "[I", true)
  | 6 => ("TwoBeatsAgoModel", "was", "[I", true)
  | 7 => ("TwoBeatsAgoModel", "halls", "I", false)
  | 8 => ("TwoBeatsAgoModel", "the", "I", false)
  | 9 => ("TwoBeatsAgoModel", "fed", "I", false)
  | 10 => ("TwoBeatsAgoModel", "at", "I", false)
  | 11 => ("TwoBeatsAgoModel", "digits", "I", false)
  | 12 => ("TwoBeatsAgoModel", "text", "[I", true)
  | 13 => ("TwoBeatsAgoModel", "clauses", "[I", true)
  | 14 => ("TwoBeatsAgoModel", "word", "[I", true)
  | 15 => ("TwoBeatsAgoModel", "number", "[I", true)
  | 16 => ("TwoBeatsAgoModel", "from", "[I", true)
  | 17 => ("TwoBeatsAgoModel", "to", "[I", true)
  | 18 => ("TwoBeatsAgoModel", "sign", "[I", true)
  | 19 => ("TwoBeatsAgoModel", "waits", "[I", true)
  | 20 => ("TwoBeatsAgoModel", "signs", "I", false)
  | 21 => ("TwoBeatsAgoModel", "waiting", "I", false)
  | 22 => ("TwoBeatsAgoModel", "open", "I", false)
  | 23 => ("TwoBeatsAgoModel", "letters", "[I", true)
  | 24 => ("TwoBeatsAgoModel", "pile", "[Z", true)
  | 25 => ("TwoBeatsAgoModel", "taken0", "[Z", true)
  | 26 => ("TwoBeatsAgoModel", "going", "[I", true)
  | 27 => ("TwoBeatsAgoModel", "keptBeats", "I", false)
  | 28 => ("TwoBeatsAgoModel", "keptWas", "[I", true)
  | 29 => ("TwoBeatsAgoModel", "keptFollows", "[I", true)
  | 30 => ("TwoBeatsAgoModel", "been", "[I", true)
  | 31 => ("TwoBeatsAgoModel", "seen", "I", false)
  | 32 => ("TwoBeatsAgoModel", "seenWho", "[I", true)
  | 33 => ("TwoBeatsAgoModel", "seenWhere", "[I", true)
  | 34 => ("TwoBeatsAgoModel", "seenWhen", "[I", true)
  | 35 => ("TwoBeatsAgoModel", "dances", "I", false)
  | 36 => ("TwoBeatsAgoModel", "books", "I", false)
  | 37 => ("TwoBeatsAgoModel", "danceWhat", "[I", true)
  | 38 => ("TwoBeatsAgoModel", "bookWho", "[I", true)
  | 39 => ("TwoBeatsAgoModel", "bookWhere", "[I", true)
  | 40 => ("TwoBeatsAgoModel", "hasImage", "Z", false)
  | 41 => ("TwoBeatsAgoModel", "imageThe", "I", false)
  | 42 => ("TwoBeatsAgoModel", "imageDancers", "I", false)
  | 43 => ("TwoBeatsAgoModel", "imageBeats", "I", false)
  | 44 => ("TwoBeatsAgoModel", "imageSeen", "I", false)
  | 45 => ("TwoBeatsAgoModel", "imageDances", "I", false)
  | 46 => ("TwoBeatsAgoModel", "imageBooks", "I", false)
  | 47 => ("TwoBeatsAgoModel", "imageKind", "[I", true)
  | 48 => ("TwoBeatsAgoModel", "imageV", "[I", true)
  | 49 => ("TwoBeatsAgoModel", "imageFollows", "[I", true)
  | 50 => ("TwoBeatsAgoModel", "imageRows", "[I", true)
  | 51 => ("TwoBeatsAgoModel", "imageWas", "[I", true)
  | 52 => ("TwoBeatsAgoModel", "imageWho", "[I", true)
  | 53 => ("TwoBeatsAgoModel", "imageWhere", "[I", true)
  | 54 => ("TwoBeatsAgoModel", "imageWhen", "[I", true)
  | 55 => ("TwoBeatsAgoModel", "imageDance", "[I", true)
  | 56 => ("TwoBeatsAgoModel", "imageBookWho", "[I", true)
  | 57 => ("TwoBeatsAgoModel", "imageBookWhere", "[I", true)
  | 58 => ("TwoBeatsAgoModel", "ran", "I", false)
  | 59 => ("TwoBeatsAgoModel", "bodies", "[I", true)
  | 60 => ("TwoBeatsAgoModel", "sort", "[I", true)
  | 61 => ("TwoBeatsAgoModel", "length", "[I", true)
  | 62 => ("TwoBeatsAgoModel", "item", "[J", true)
  | _ => ("TwoBeatsAgoModel", "aside", "[J", true)
def tyX7 : Nat → FieldType := fun k => match k with
  | 0 => .int
  | 1 => .int
  | 2 => .array .int
  | 3 => .array .int
  | 4 => .array .int
  | 5 => .array .int
  | 6 => .array .int
  | 7 => .int
  | 8 => .int
  | 9 => .int
  | 10 => .int
  | 11 => .int
  | 12 => .array .int
  | 13 => .array .int
  | 14 => .array .int
  | 15 => .array .int
  | 16 => .array .int
  | 17 => .array .int
  | 18 => .array .int
  | 19 => .array .int
  | 20 => .int
  | 21 => .int
  | 22 => .int
  | 23 => .array .int
  | 24 => .array .boolean
  | 25 => .array .boolean
  | 26 => .array .int
  | 27 => .int
  | 28 => .array .int
  | 29 => .array .int
  | 30 => .array .int
  | 31 => .int
  | 32 => .array .int
  | 33 => .array .int
  | 34 => .array .int
  | 35 => .int
  | 36 => .int
  | 37 => .array .int
  | 38 => .array .int
  | 39 => .array .int
  | 40 => .boolean
  | 41 => .int
  | 42 => .int
  | 43 => .int
  | 44 => .int
  | 45 => .int
  | 46 => .int
  | 47 => .array .int
  | 48 => .array .int
  | 49 => .array .int
  | 50 => .array .int
  | 51 => .array .int
  | 52 => .array .int
  | 53 => .array .int
  | 54 => .array .int
  | 55 => .array .int
  | 56 => .array .int
  | 57 => .array .int
  | 58 => .int
  | 59 => .array .int
  | 60 => .array .int
  | 61 => .array .int
  | 62 => .array .long
  | _ => .array .long
theorem nmX7 : ∀ a, a < 64 → ∀ b, b < 64 → a ≠ b → (TX7 a).2.1 ≠ (TX7 b).2.1 := by decide +kernel
theorem tyX7_ok : ∀ k, k < 64 → parseFieldDescriptor (TX7 k).2.2.1 = some (tyX7 k) := by decide +kernel
abbrev cX7_init : ByteArray := prog_9_method_1_code
def yX7_init : MethodName := ⟨RX7, "<init>", "()V"⟩
abbrev cX7_in : ByteArray := prog_9_method_2_code
def yX7_in : MethodName := ⟨RX7, "in", "(III)Z"⟩
abbrev cX7_isDancer : ByteArray := prog_9_method_3_code
def yX7_isDancer : MethodName := ⟨RX7, "isDancer", "(I)Z"⟩
abbrev cX7_isPlace : ByteArray := prog_9_method_4_code
def yX7_isPlace : MethodName := ⟨RX7, "isPlace", "(I)Z"⟩
abbrev cX7_isBeats : ByteArray := prog_9_method_5_code
def yX7_isBeats : MethodName := ⟨RX7, "isBeats", "(I)Z"⟩
abbrev cX7_laysAll : ByteArray := prog_9_method_6_code
def yX7_laysAll : MethodName := ⟨RX7, "laysAll", "(II)V"⟩
abbrev cX7_dancer : ByteArray := prog_9_method_7_code
def yX7_dancer : MethodName := ⟨RX7, "dancer", "(III)I"⟩
abbrev cX7_after : ByteArray := prog_9_method_8_code
def yX7_after : MethodName := ⟨RX7, "after", "(II)I"⟩
abbrev cX7_begin : ByteArray := prog_9_method_9_code
def yX7_begin : MethodName := ⟨RX7, "begin", "(II)I"⟩
abbrev cX7_row : ByteArray := prog_9_method_10_code
def yX7_row : MethodName := ⟨RX7, "row", "(III)I"⟩
abbrev cX7_feed : ByteArray := prog_9_method_11_code
def yX7_feed : MethodName := ⟨RX7, "feed", "(I)I"⟩
abbrev cX7_next : ByteArray := prog_9_method_12_code
def yX7_next : MethodName := ⟨RX7, "next", "()I"⟩
abbrev cX7_takes : ByteArray := prog_9_method_13_code
def yX7_takes : MethodName := ⟨RX7, "takes", "(I)Z"⟩
abbrev cX7_takesWord : ByteArray := prog_9_method_14_code
def yX7_takesWord : MethodName := ⟨RX7, "takesWord", "(II)Z"⟩
abbrev cX7_isDigit : ByteArray := prog_9_method_15_code
def yX7_isDigit : MethodName := ⟨RX7, "isDigit", "()Z"⟩
abbrev cX7_takesNumber : ByteArray := prog_9_method_16_code
def yX7_takesNumber : MethodName := ⟨RX7, "takesNumber", "()Z"⟩
abbrev cX7_emits : ByteArray := prog_9_method_17_code
def yX7_emits : MethodName := ⟨RX7, "emits", "(I)V"⟩
abbrev cX7_whole : ByteArray := prog_9_method_18_code
def yX7_whole : MethodName := ⟨RX7, "whole", "()V"⟩
abbrev cX7_settle : ByteArray := prog_9_method_19_code
def yX7_settle : MethodName := ⟨RX7, "settle", "(I)V"⟩
abbrev cX7_place : ByteArray := prog_9_method_20_code
def yX7_place : MethodName := ⟨RX7, "place", "(I)I"⟩
abbrev cX7_takesTest : ByteArray := prog_9_method_21_code
def yX7_takesTest : MethodName := ⟨RX7, "takesTest", "()Z"⟩
abbrev cX7_takesE : ByteArray := prog_9_method_22_code
def yX7_takesE : MethodName := ⟨RX7, "takesE", "(I)Z"⟩
abbrev cX7_takesHead : ByteArray := prog_9_method_23_code
def yX7_takesHead : MethodName := ⟨RX7, "takesHead", "(I)Z"⟩
abbrev cX7_takesClause : ByteArray := prog_9_method_24_code
def yX7_takesClause : MethodName := ⟨RX7, "takesClause", "(I)Z"⟩
abbrev cX7_goesText : ByteArray := prog_9_method_25_code
def yX7_goesText : MethodName := ⟨RX7, "goesText", "(I)Z"⟩
abbrev cX7_hall : ByteArray := prog_9_method_26_code
def yX7_hall : MethodName := ⟨RX7, "hall", "()I"⟩
abbrev cX7_firstClause : ByteArray := prog_9_method_27_code
def yX7_firstClause : MethodName := ⟨RX7, "firstClause", "()I"⟩
abbrev cX7_behindClauses : ByteArray := prog_9_method_28_code
def yX7_behindClauses : MethodName := ⟨RX7, "behindClauses", "()I"⟩
abbrev cX7_lastOf : ByteArray := prog_9_method_29_code
def yX7_lastOf : MethodName := ⟨RX7, "lastOf", "(II)I"⟩
abbrev cX7_wide : ByteArray := prog_9_method_30_code
def yX7_wide : MethodName := ⟨RX7, "wide", "()I"⟩
abbrev cX7_skip : ByteArray := prog_9_method_31_code
def yX7_skip : MethodName := ⟨RX7, "skip", "()I"⟩
abbrev cX7_factOf : ByteArray := prog_9_method_32_code
def yX7_factOf : MethodName := ⟨RX7, "factOf", "(II)I"⟩
abbrev cX7_holds : ByteArray := prog_9_method_33_code
def yX7_holds : MethodName := ⟨RX7, "holds", "(II)Z"⟩
abbrev cX7_step : ByteArray := prog_9_method_34_code
def yX7_step : MethodName := ⟨RX7, "step", "(I)I"⟩
abbrev cX7_round : ByteArray := prog_9_method_35_code
def yX7_round : MethodName := ⟨RX7, "round", "(I)I"⟩
abbrev cX7_goes : ByteArray := prog_9_method_36_code
def yX7_goes : MethodName := ⟨RX7, "goes", "(I)I"⟩
abbrev cX7_of : ByteArray := prog_9_method_37_code
def yX7_of : MethodName := ⟨RX7, "of", "(II)I"⟩
abbrev cX7_many : ByteArray := prog_9_method_38_code
def yX7_many : MethodName := ⟨RX7, "many", "()I"⟩
abbrev cX7_told : ByteArray := prog_9_method_39_code
def yX7_told : MethodName := ⟨RX7, "told", "(I)I"⟩
abbrev cX7_goBeat : ByteArray := prog_9_method_40_code
def yX7_goBeat : MethodName := ⟨RX7, "goBeat", "(Z)V"⟩
abbrev cX7_go : ByteArray := prog_9_method_41_code
def yX7_go : MethodName := ⟨RX7, "go", "()V"⟩
abbrev cX7_pass : ByteArray := prog_9_method_42_code
def yX7_pass : MethodName := ⟨RX7, "pass", "(I)I"⟩
abbrev cX7_save : ByteArray := prog_9_method_43_code
def yX7_save : MethodName := ⟨RX7, "save", "()V"⟩
abbrev cX7_putBack : ByteArray := prog_9_method_44_code
def yX7_putBack : MethodName := ⟨RX7, "putBack", "()V"⟩
abbrev cX7_on : ByteArray := prog_9_method_45_code
def yX7_on : MethodName := ⟨RX7, "on", "(II)I"⟩
abbrev cX7_isAsKept : ByteArray := prog_9_method_46_code
def yX7_isAsKept : MethodName := ⟨RX7, "isAsKept", "()Z"⟩
abbrev cX7_again : ByteArray := prog_9_method_47_code
def yX7_again : MethodName := ⟨RX7, "again", "()I"⟩
abbrev cX7_togetherBy : ByteArray := prog_9_method_48_code
def yX7_togetherBy : MethodName := ⟨RX7, "togetherBy", "(I)I"⟩
abbrev cX7_together : ByteArray := prog_9_method_49_code
def yX7_together : MethodName := ⟨RX7, "together", "()I"⟩
abbrev cX7_isStill : ByteArray := prog_9_method_50_code
def yX7_isStill : MethodName := ⟨RX7, "isStill", "()Z"⟩
abbrev cX7_still : ByteArray := prog_9_method_51_code
def yX7_still : MethodName := ⟨RX7, "still", "()I"⟩
abbrev cX7_meet : ByteArray := prog_9_method_52_code
def yX7_meet : MethodName := ⟨RX7, "meet", "(II)I"⟩
abbrev cX7_apart : ByteArray := prog_9_method_53_code
def yX7_apart : MethodName := ⟨RX7, "apart", "(II)I"⟩
abbrev cX7_far : ByteArray := prog_9_method_54_code
def yX7_far : MethodName := ⟨RX7, "far", "(III)I"⟩
abbrev cX7_whom : ByteArray := prog_9_method_55_code
def yX7_whom : MethodName := ⟨RX7, "whom", "(I)I"⟩
abbrev cX7_isAlone : ByteArray := prog_9_method_56_code
def yX7_isAlone : MethodName := ⟨RX7, "isAlone", "(I)Z"⟩
abbrev cX7_alone : ByteArray := prog_9_method_57_code
def yX7_alone : MethodName := ⟨RX7, "alone", "(III)I"⟩
abbrev cX7_stop : ByteArray := prog_9_method_58_code
def yX7_stop : MethodName := ⟨RX7, "stop", "()I"⟩
abbrev cX7_begins : ByteArray := prog_9_method_59_code
def yX7_begins : MethodName := ⟨RX7, "begins", "(III)I"⟩
abbrev cX7_counts : ByteArray := prog_9_method_60_code
def yX7_counts : MethodName := ⟨RX7, "counts", "()V"⟩
abbrev cX7_crowd : ByteArray := prog_9_method_61_code
def yX7_crowd : MethodName := ⟨RX7, "crowd", "(I)I"⟩
abbrev cX7_see : ByteArray := prog_9_method_62_code
def yX7_see : MethodName := ⟨RX7, "see", "(III)I"⟩
abbrev cX7_isSeen : ByteArray := prog_9_method_63_code
def yX7_isSeen : MethodName := ⟨RX7, "isSeen", "()Z"⟩
abbrev cX7_can : ByteArray := prog_9_method_64_code
def yX7_can : MethodName := ⟨RX7, "can", "(I)I"⟩
abbrev cX7_divisor : ByteArray := prog_9_method_65_code
def yX7_divisor : MethodName := ⟨RX7, "divisor", "(II)I"⟩
abbrev cX7_lowest : ByteArray := prog_9_method_66_code
def yX7_lowest : MethodName := ⟨RX7, "lowest", "(III)J"⟩
abbrev cX7_odds : ByteArray := prog_9_method_67_code
def yX7_odds : MethodName := ⟨RX7, "odds", "(II)J"⟩
abbrev cX7_mean : ByteArray := prog_9_method_68_code
def yX7_mean : MethodName := ⟨RX7, "mean", "(II)J"⟩
abbrev cX7_dance : ByteArray := prog_9_method_69_code
def yX7_dance : MethodName := ⟨RX7, "dance", "(I)I"⟩
abbrev cX7_danced : ByteArray := prog_9_method_70_code
def yX7_danced : MethodName := ⟨RX7, "danced", "(I)I"⟩
abbrev cX7_book : ByteArray := prog_9_method_71_code
def yX7_book : MethodName := ⟨RX7, "book", "(II)I"⟩
abbrev cX7_looked : ByteArray := prog_9_method_72_code
def yX7_looked : MethodName := ⟨RX7, "looked", "()I"⟩
abbrev cX7_judge : ByteArray := prog_9_method_73_code
def yX7_judge : MethodName := ⟨RX7, "judge", "(II)I"⟩
abbrev cX7_image : ByteArray := prog_9_method_74_code
def yX7_image : MethodName := ⟨RX7, "image", "()I"⟩
abbrev cX7_undo : ByteArray := prog_9_method_75_code
def yX7_undo : MethodName := ⟨RX7, "undo", "()I"⟩
abbrev cX7_body : ByteArray := prog_9_method_76_code
def yX7_body : MethodName := ⟨RX7, "body", "(I)V"⟩
abbrev cX7_dancerSteps : ByteArray := prog_9_method_77_code
def yX7_dancerSteps : MethodName := ⟨RX7, "dancerSteps", "(II)I"⟩
abbrev cX7_stepsAct : ByteArray := prog_9_method_78_code
def yX7_stepsAct : MethodName := ⟨RX7, "stepsAct", "(II)I"⟩
abbrev cX7_dancerTurns : ByteArray := prog_9_method_79_code
def yX7_dancerTurns : MethodName := ⟨RX7, "dancerTurns", "(II)I"⟩
abbrev cX7_lateTurns : ByteArray := prog_9_method_80_code
def yX7_lateTurns : MethodName := ⟨RX7, "lateTurns", "(II)I"⟩
abbrev cX7_turnsAct : ByteArray := prog_9_method_81_code
def yX7_turnsAct : MethodName := ⟨RX7, "turnsAct", "(II)I"⟩
abbrev cX7_dancerTells : ByteArray := prog_9_method_82_code
def yX7_dancerTells : MethodName := ⟨RX7, "dancerTells", "(II)I"⟩
abbrev cX7_tellsAct : ByteArray := prog_9_method_83_code
def yX7_tellsAct : MethodName := ⟨RX7, "tellsAct", "(II)I"⟩
abbrev cX7_act : ByteArray := prog_9_method_84_code
def yX7_act : MethodName := ⟨RX7, "act", "(III)I"⟩
abbrev cX7_trace : ByteArray := prog_9_method_85_code
def yX7_trace : MethodName := ⟨RX7, "trace", "(I)I"⟩
abbrev cX7_taken : ByteArray := prog_9_method_86_code
def yX7_taken : MethodName := ⟨RX7, "taken", "(II)I"⟩
abbrev cX7_count : ByteArray := prog_9_method_87_code
def yX7_count : MethodName := ⟨RX7, "count", "(I)I"⟩
abbrev cX7_isTape : ByteArray := prog_9_method_88_code
def yX7_isTape : MethodName := ⟨RX7, "isTape", "(I)Z"⟩
abbrev cX7_tape : ByteArray := prog_9_method_89_code
def yX7_tape : MethodName := ⟨RX7, "tape", "(III)I"⟩
abbrev cX7_narrow : ByteArray := prog_9_method_90_code
def yX7_narrow : MethodName := ⟨RX7, "narrow", "(IJ)J"⟩
abbrev cX7_item : ByteArray := prog_9_method_91_code
def yX7_item : MethodName := ⟨RX7, "item", "(IIJ)I"⟩
abbrev cX7_read : ByteArray := prog_9_method_92_code
def yX7_read : MethodName := ⟨RX7, "read", "(II)J"⟩
abbrev cX7_shift : ByteArray := prog_9_method_93_code
def yX7_shift : MethodName := ⟨RX7, "shift", "(IIIII)I"⟩
def RJx145de : String := "java/io/Serializable"
def RJx9f9b0 : String := "java/lang/CharSequence"
def RJ11 : String := "java/lang/Character"
abbrev cJ11_isValidCodePoint_9a6ad : ByteArray := prog_10_method_11_code
def yJ11_isValidCodePoint_9a6ad : MethodName := ⟨RJ11, "isValidCodePoint", "(I)Z"⟩
abbrev cJ11_highSurrogate_5068e : ByteArray := prog_10_method_28_code
def yJ11_highSurrogate_5068e : MethodName := ⟨RJ11, "highSurrogate", "(I)C"⟩
abbrev cJ11_lowSurrogate_5068e : ByteArray := prog_10_method_29_code
def yJ11_lowSurrogate_5068e : MethodName := ⟨RJ11, "lowSurrogate", "(I)C"⟩
def RJxb160c : String := "java/lang/Comparable"
def RJ9 : String := "java/lang/Math"
abbrev cJ9_floorMod_7cf53 : ByteArray := prog_11_method_50_code
def yJ9_floorMod_7cf53 : MethodName := ⟨RJ9, "floorMod", "(II)I"⟩
abbrev cJ9_max_7cf53 : ByteArray := prog_11_method_65_code
def yJ9_max_7cf53 : MethodName := ⟨RJ9, "max", "(II)I"⟩
abbrev cJ9_min_7cf53 : ByteArray := prog_11_method_69_code
def yJ9_min_7cf53 : MethodName := ⟨RJ9, "min", "(II)I"⟩
def RJ0 : String := "java/lang/String"
abbrev cJ0_length_8abf5 : ByteArray := prog_12_method_54_code
def yJ0_length_8abf5 : MethodName := ⟨RJ0, "length", "()I"⟩
abbrev cJ0_charAt_5068e : ByteArray := prog_12_method_56_code
def yJ0_charAt_5068e : MethodName := ⟨RJ0, "charAt", "(I)C"⟩
abbrev cJ0_indexOf_0f7a4 : ByteArray := prog_12_method_79_code
def yJ0_indexOf_0f7a4 : MethodName := ⟨RJ0, "indexOf", "(I)I"⟩
abbrev cJ0_indexOf_7cf53 : ByteArray := prog_12_method_80_code
def yJ0_indexOf_7cf53 : MethodName := ⟨RJ0, "indexOf", "(II)I"⟩
abbrev cJ0_coder_7d493 : ByteArray := prog_12_method_152_code
def yJ0_coder_7d493 : MethodName := ⟨RJ0, "coder", "()B"⟩
abbrev cJ0_isLatin1_aae02 : ByteArray := prog_12_method_154_code
def yJ0_isLatin1_aae02 : MethodName := ⟨RJ0, "isLatin1", "()Z"⟩
abbrev cJ0_checkIndex_df160 : ByteArray := prog_12_method_155_code
def yJ0_checkIndex_df160 : MethodName := ⟨RJ0, "checkIndex", "(II)V"⟩
abbrev cJ0_checkBoundsBeginEnd_23922 : ByteArray := prog_12_method_158_code
def yJ0_checkBoundsBeginEnd_23922 : MethodName := ⟨RJ0, "checkBoundsBeginEnd", "(III)V"⟩
def RJ1 : String := "java/lang/StringLatin1"
abbrev cJ1_charAt_3b067 : ByteArray := prog_13_method_2_code
def yJ1_charAt_3b067 : MethodName := ⟨RJ1, "charAt", "([BI)C"⟩
abbrev cJ1_canEncode_9a6ad : ByteArray := prog_13_method_4_code
def yJ1_canEncode_9a6ad : MethodName := ⟨RJ1, "canEncode", "(I)Z"⟩
abbrev cJ1_indexOf_4cfef : ByteArray := prog_13_method_22_code
def yJ1_indexOf_4cfef : MethodName := ⟨RJ1, "indexOf", "([BIII)I"⟩
abbrev cJ1_indexOfChar_4cfef : ByteArray := prog_13_method_23_code
def yJ1_indexOfChar_4cfef : MethodName := ⟨RJ1, "indexOfChar", "([BIII)I"⟩
def RJ2 : String := "java/lang/StringUTF16"
abbrev cJ2_getChar_3b067 : ByteArray := prog_14_method_5_code
def yJ2_getChar_3b067 : MethodName := ⟨RJ2, "getChar", "([BI)C"⟩
abbrev cJ2_length_9d52b : ByteArray := prog_14_method_6_code
def yJ2_length_9d52b : MethodName := ⟨RJ2, "length", "([B)I"⟩
abbrev cJ2_indexOf_4cfef : ByteArray := prog_14_method_40_code
def yJ2_indexOf_4cfef : MethodName := ⟨RJ2, "indexOf", "([BIII)I"⟩
abbrev cJ2_indexOfChar_4cfef : ByteArray := prog_14_method_47_code
def yJ2_indexOfChar_4cfef : MethodName := ⟨RJ2, "indexOfChar", "([BIII)I"⟩
abbrev cJ2_indexOfCharUnsafe_4cfef : ByteArray := prog_14_method_48_code
def yJ2_indexOfCharUnsafe_4cfef : MethodName := ⟨RJ2, "indexOfCharUnsafe", "([BIII)I"⟩
abbrev cJ2_indexOfSupplementary_4cfef : ByteArray := prog_14_method_49_code
def yJ2_indexOfSupplementary_4cfef : MethodName := ⟨RJ2, "indexOfSupplementary", "([BIII)I"⟩
abbrev cJ2_charAt_3b067 : ByteArray := prog_14_method_83_code
def yJ2_charAt_3b067 : MethodName := ⟨RJ2, "charAt", "([BI)C"⟩
abbrev cJ2_checkIndex_2214a : ByteArray := prog_14_method_91_code
def yJ2_checkIndex_2214a : MethodName := ⟨RJ2, "checkIndex", "(I[B)V"⟩
abbrev cJ2_checkBoundsBeginEnd_d044e : ByteArray := prog_14_method_93_code
def yJ2_checkBoundsBeginEnd_d044e : MethodName := ⟨RJ2, "checkBoundsBeginEnd", "(II[B)V"⟩
def RJ10 : String := "java/lang/System"
def RJxfd54e : String := "java/lang/constant/Constable"
def RJx3cf43 : String := "java/lang/constant/ConstantDesc"
def RJ7 : String := "java/util/Arrays"
abbrev cJ7_fill_d0a16 : ByteArray := prog_16_method_101_code
def yJ7_fill_d0a16 : MethodName := ⟨RJ7, "fill", "([JJ)V"⟩
abbrev cJ7_fill_53178 : ByteArray := prog_16_method_103_code
def yJ7_fill_53178 : MethodName := ⟨RJ7, "fill", "([II)V"⟩
def RJ3 : String := "jdk/internal/util/Preconditions"
abbrev cJ3_checkIndex_8e157 : ByteArray := prog_17_method_11_code
def yJ3_checkIndex_8e157 : MethodName := ⟨RJ3, "checkIndex", "(IILjava/util/function/BiFunction;)I"⟩
abbrev cJ3_checkFromToIndex_8c36e : ByteArray := prog_17_method_12_code
def yJ3_checkFromToIndex_8c36e : MethodName := ⟨RJ3, "checkFromToIndex", "(IIILjava/util/function/BiFunction;)I"⟩
def RL : String := "TwoBeatsAgoLaw"
abbrev cL_law : ByteArray := code
def yL_law : MethodName := ⟨RL, "law", "([I)Z"⟩
abbrev qcl : List vw_C := [(RX0, TX0, 5), (RX1, TX1, 9), (RX2, TX2, 9), (RX3, TX3, 7), (RX4, TX4, 3), (RX5, TX5, 3), (RX6, TX6, 12), (RX7, TX7, 64)]
end
section
/-! abstract values (an int, a place, a long), memory: a row of whole numbers a place; the shape of each place is fixed -/
abbrev AV : Type := Int ⊕ (Nat ⊕ Int)
abbrev vi (z : Int) : AV := .inl z
abbrev vr (k : Nat) : AV := .inr (.inl k)
abbrev vl (z : Int) : AV := .inr (.inr z)
abbrev MM : Type := Nat → Int → Int
abbrev GC : Type := Launch × va_G × (Nat → Nat) × (Nat → Prop) × (Nat → ClassId)
def cv (g : GC) : AV → Value
  | .inl z => .int (Int32.ofInt z)
  | .inr (.inl k) => .ref (g.2.2.1 k)
  | .inr (.inr z) => .long (Int64.ofInt z)
abbrev Sh : Type := (Nat × List (Nat × Nat)) ⊕ (Nat × Nat)
def shT : List Sh := [
  .inl (6, [(1, 8), (1, 15), (1, 22), (1, 29), (1, 36), (0, 0), (1, 1), (0, 0), (1, 4), (1, 6), (1, 2), (1, 3)]),
  .inr (4, 6),
  .inr (5, 6),
  .inr (0, 99),
  .inl (4, [(1, 5), (0, 0), (0, 0)]),
  .inr (3, 100),
  .inl (0, [(0, 0), (1, 7), (0, 0), (0, 0), (0, 0)]),
  .inr (0, 20),
  .inl (2, [(0, 0), (0, 0), (2, 0), (1, 9), (1, 10), (1, 11), (1, 12), (1, 13), (1, 14)]),
  .inr (0, 6),
  .inr (0, 6),
  .inr (0, 6),
  .inr (0, 48),
  .inr (0, 24),
  .inr (0, 6),
  .inl (2, [(0, 0), (0, 0), (2, 0), (1, 16), (1, 17), (1, 18), (1, 19), (1, 20), (1, 21)]),
  .inr (0, 6),
  .inr (0, 6),
  .inr (0, 6),
  .inr (0, 48),
  .inr (0, 24),
  .inr (0, 6),
  .inl (2, [(0, 0), (0, 0), (2, 0), (1, 23), (1, 24), (1, 25), (1, 26), (1, 27), (1, 28)]),
  .inr (0, 6),
  .inr (0, 6),
  .inr (0, 6),
  .inr (0, 48),
  .inr (0, 24),
  .inr (0, 6),
  .inl (1, [(0, 0), (1, 30), (1, 31), (1, 32), (0, 0), (1, 33), (0, 0), (1, 34), (1, 35)]),
  .inr (0, 5),
  .inr (0, 5),
  .inr (0, 5),
  .inr (0, 10),
  .inr (0, 8),
  .inr (0, 8),
  .inl (1, [(0, 0), (1, 37), (1, 38), (1, 39), (0, 0), (1, 40), (0, 0), (1, 41), (1, 42)]),
  .inr (0, 5),
  .inr (0, 5),
  .inr (0, 5),
  .inr (0, 10),
  .inr (0, 8),
  .inr (0, 8),
  .inl (3, [(0, 0), (0, 0), (0, 0), (0, 0), (1, 44), (1, 45), (1, 46)]),
  .inr (0, 10),
  .inr (0, 10),
  .inr (0, 100),
  .inl (3, [(0, 0), (0, 0), (0, 0), (0, 0), (1, 48), (1, 49), (1, 50)]),
  .inr (0, 10),
  .inr (0, 10),
  .inr (0, 100),
  .inl (3, [(0, 0), (0, 0), (0, 0), (0, 0), (1, 52), (1, 53), (1, 54)]),
  .inr (0, 10),
  .inr (0, 10),
  .inr (0, 100),
  .inl (3, [(0, 0), (0, 0), (0, 0), (0, 0), (1, 56), (1, 57), (1, 58)]),
  .inr (0, 10),
  .inr (0, 10),
  .inr (0, 100),
  .inl (3, [(0, 0), (0, 0), (0, 0), (0, 0), (1, 60), (1, 61), (1, 62)]),
  .inr (0, 10),
  .inr (0, 10),
  .inr (0, 100),
  .inl (3, [(0, 0), (0, 0), (0, 0), (0, 0), (1, 64), (1, 65), (1, 66)]),
  .inr (0, 10),
  .inr (0, 10),
  .inr (0, 100),
  .inl (3, [(0, 0), (0, 0), (0, 0), (0, 0), (1, 68), (1, 69), (1, 70)]),
  .inr (0, 10),
  .inr (0, 10),
  .inr (0, 100),
  .inl (5, [(0, 0), (0, 0), (1, 72)]),
  .inr (1, 60),
  .inl (5, [(0, 0), (0, 0), (1, 74)]),
  .inr (1, 60),
  .inl (5, [(0, 0), (0, 0), (1, 76)]),
  .inr (1, 60),
  .inl (5, [(0, 0), (0, 0), (1, 78)]),
  .inr (1, 60),
  .inl (5, [(0, 0), (0, 0), (1, 80)]),
  .inr (1, 60),
  .inl (5, [(0, 0), (0, 0), (1, 82)]),
  .inr (1, 60),
  .inl (7, [(0, 0), (0, 0), (1, 84), (1, 85), (1, 86), (1, 87), (1, 88), (0, 0), (0, 0), (0, 0), (0, 0), (0, 0), (1, 89), (1, 90), (1, 91), (1, 92), (1, 93), (1, 94), (1, 95), (1, 96), (0, 0), (0, 0), (0, 0), (1, 97), (1, 98), (1, 99), (1, 100), (0, 0), (1, 101), (1, 102), (1, 103), (0, 0), (1, 104), (1, 105), (1, 106), (0, 0), (0, 0), (1, 107), (1, 108), (1, 109), (0, 0), (0, 0), (0, 0), (0, 0), (0, 0), (0, 0), (0, 0), (1, 110), (1, 111), (1, 112), (1, 113), (1, 114), (1, 115), (1, 116), (1, 117), (1, 118), (1, 119), (1, 120), (0, 0), (1, 121), (1, 122), (1, 123), (1, 124), (1, 125)]),
  .inr (0, 6),
  .inr (0, 6),
  .inr (0, 6),
  .inr (0, 24),
  .inr (0, 48),
  .inr (0, 100),
  .inr (0, 6),
  .inr (0, 60),
  .inr (0, 60),
  .inr (0, 60),
  .inr (0, 60),
  .inr (0, 600),
  .inr (0, 101),
  .inr (0, 17),
  .inr (2, 100),
  .inr (2, 99),
  .inr (0, 6),
  .inr (0, 48),
  .inr (0, 6),
  .inr (0, 99),
  .inr (0, 5),
  .inr (0, 5),
  .inr (0, 5),
  .inr (0, 10),
  .inr (0, 8),
  .inr (0, 8),
  .inr (0, 6),
  .inr (0, 6),
  .inr (0, 6),
  .inr (0, 24),
  .inr (0, 48),
  .inr (0, 5),
  .inr (0, 5),
  .inr (0, 5),
  .inr (0, 10),
  .inr (0, 8),
  .inr (0, 8),
  .inr (0, 20),
  .inr (0, 6),
  .inr (0, 6),
  .inr (1, 360),
  .inr (1, 60)]
def qN : Nat := 126
def sh (k : Nat) : Sh := shT.getD k (.inl (0, []))
def fval (g : GC) (q : Nat × Nat) (x : Int) : Value := match q.1 with
  | 0 => .int (Int32.ofInt x)
  | 1 => .ref (g.2.2.1 q.2)
  | _ => .ref (g.2.2.1 x.toNat)
def cont (g : GC) (tag : Nat) (row : Int → Int) : (Nat → Int32) ⊕ (Nat → Int64) ⊕ (Nat → UInt32) ⊕ (Nat → UInt64) ⊕ (Nat → Option Nat) := match tag with
  | 1 => .inr (.inl (fun j => Int64.ofInt (row j)))
  | 4 => .inr (.inr (.inr (.inr (fun j => some (g.2.2.1 (47 + 4 * j))))))
  | 5 => .inr (.inr (.inr (.inr (fun j => some (g.2.2.1 (71 + 2 * j))))))
  | _ => .inl (fun j => Int32.ofInt (row j))
def entS (g : GC) (x : Sh) (row : Int → Int) : va_E := match x with
  | .inl o => .inr (o.1, o.2.mapIdx (fun j q => fval g q (row (j : Int))))
  | .inr a => .inl (g.2.2.2.2 a.1, a.2, cont g a.1 row)
def ent (g : GC) (V : MM) (k : Nat) : va_E := entS g (sh k) (V k)
def wl (g : GC) (V : MM) : va_W := (List.range qN).map (fun k => (g.2.2.1 k, ent g V k))
def upR (V : MM) (a : Nat) (f : Int → Int) : MM := fun k => if k = a then f else V k
def ur (f : Int → Int) (i x : Int) : Int → Int := fun j => if j = i then x else f j
theorem upR_s (V : MM) (a : Nat) (f : Int → Int) : upR V a f a = f := by simp [upR]
theorem upR_n {V : MM} {a k : Nat} (f : Int → Int) (h : k ≠ a) : upR V a f k = V k := by simp [upR, h]
theorem upR_u (V : MM) (a : Nat) (f h : Int → Int) : upR (upR V a f) a h = upR V a h := by
  funext k; by_cases e : k = a <;> simp [upR, e]
theorem upR_id (V : MM) (a : Nat) : upR V a (V a) = V := by
  funext k; by_cases e : k = a <;> simp [upR, e]
theorem upR_c {V : MM} {a b : Nat} (f h : Int → Int) (e : a ≠ b) : upR (upR V a f) b h = upR (upR V b h) a f := by
  funext k
  by_cases e1 : k = a <;> by_cases e2 : k = b <;> simp [upR, e1, e2]
  · exact absurd (e1.symm.trans e2) e
  · intro h3; exact absurd h3 e
  · intro h3; exact absurd h3.symm e
theorem ur_s (f : Int → Int) (i x : Int) : ur f i x i = x := by simp [ur]
theorem ur_n {f : Int → Int} {i j : Int} (x : Int) (h : j ≠ i) : ur f i x j = f j := by simp [ur, h]
theorem ur_u (f : Int → Int) (i x y : Int) : ur (ur f i x) i y = ur f i y := by
  funext j; by_cases e : j = i <;> simp [ur, e]
theorem ur_id (f : Int → Int) (i : Int) : ur f i (f i) = f := by
  funext j; by_cases e : j = i <;> simp [ur, e]
def GOK (g : GC) : Prop := (∀ i j : Nat, i < qN → j < qN → g.2.2.1 i = g.2.2.1 j → i = j) ∧ ∀ i : Nat, i < qN → g.2.2.2.1 (g.2.2.1 i)
theorem wl_at (g : GC) (V : MM) {k : Nat} (h : k < qN) : (wl g V)[k]? = some (g.2.2.1 k, ent g V k) := by simp [wl, h]
theorem wl_in {g : GC} {V : MM} {k : Nat} {q : Nat × va_E} (h : (wl g V)[k]? = some q) : k < qN ∧ q = (g.2.2.1 k, ent g V k) := by
  have hk : k < qN := by
    have := (List.getElem?_eq_some_iff.mp h).1
    simpa [wl] using this
  rw [wl_at g V hk] at h
  exact ⟨hk, (Option.some.inj h).symm⟩
theorem wl_set (g : GC) (V : MM) {k : Nat} (h : k < qN) (f : Int → Int) : (wl g V).set k (g.2.2.1 k, entS g (sh k) f) = wl g (upR V k f) := by
  apply List.ext_getElem?
  intro i
  by_cases hi : i < qN
  · rw [List.getElem?_set, wl_at g _ hi]
    by_cases e : k = i
    · subst e
      simp [wl, h, ent, upR]
    · rw [if_neg e, wl_at g (upR V k f) hi]
      simp [ent, upR, Ne.symm e]
  · have h1 : (wl g V).length = qN := by simp [wl]
    have h2 : (wl g (upR V k f)).length = qN := by simp [wl]
    rw [List.getElem?_eq_none (by rw [List.length_set, h1]; omega), List.getElem?_eq_none (by rw [h2]; omega)]
theorem wl_D {g : GC} (hg : GOK g) (V : MM) : va_D g.2.2.2.1 (wl g V) := by
  refine ⟨fun i j p q hp hq e => ?_, fun k q hk => ?_⟩
  · obtain ⟨h1, rfl⟩ := wl_in hp
    obtain ⟨h2, rfl⟩ := wl_in hq
    exact hg.1 i j h1 h2 e
  · obtain ⟨h1, rfl⟩ := wl_in hk
    exact hg.2 k h1
/-- the tables' words that every method takes along -/
def Gs : List Cond := lw_tbl.filter goodWord
theorem Gs_in {i : Nat} {w : Cond} (h : tables_1[i]? = some w) (h2 : goodWord w = true) : w ∈ Gs := List.mem_filter.mpr ⟨List.mem_append_right _ (List.mem_of_getElem? h), h2⟩
theorem Gs_sel {i : Nat} {q : MethodName × Nat} (h : lw_privs[i]? = some q) (h2 : goodWord (Cond.selects q.1.cls q.1 q.1) = true) : Cond.selects q.1.cls q.1 q.1 ∈ Gs := List.mem_filter.mpr ⟨List.mem_append_left _ (List.mem_map.mpr ⟨q, List.mem_of_getElem? h, rfl⟩), h2⟩
theorem Gs_good : GoodIn Gs Gs := fun w h => ⟨h, good_of_word (List.mem_filter.mp h).2⟩
abbrev qtys (g : GC) : List (ClassId × FieldType) := [(g.2.2.2.2 0, .int), (g.2.2.2.2 1, .long), (g.2.2.2.2 2, .boolean), (g.2.2.2.2 3, .char), (g.2.2.2.2 4, .object "TwoBeatsAgo$Hall"), (g.2.2.2.2 5, .object "TwoBeatsAgo$Tape")]
/-- what nobody writes: the literals (places 200.., their bytes 210..), two tables (220, 221), statics of the JDK -/
def roLen : List Nat := [5, 6, 5, 5, 6, 3]
def roByt : List (List Int32) := [[108, 101, 102, 116, 32], [114, 105, 103, 104, 116, 32], [119, 105, 100, 101, 32], [115, 107, 105, 112, 32], [100, 107, 118, 112, 97, 98], [60, 61, 62]]
def roAbove : List Int32 := [-1, 0, 0, 0, 1, 2, 3]
def roBodies : List Int32 := [10, 11, 12, 0, 20, 0, 30, 0, 0, 0, 0, 40, 50, 51, 0, 0, 0, 60, 71, 70, 0]
def Ro (g : GC) (U : State) (H : Heap) : Prop :=
  (vk_S 6 roLen roByt (fun i => g.2.2.1 (200 + i)) (fun i => g.2.2.1 (210 + i)) g.2.2.2.1 U H ∧ va_Z "java/lang/String" "COMPACT_STRINGS" "Z" (.int 1) g.2.2.2.1 U H ∧ va_Zq "jdk/internal/util/Preconditions" "SIOOBE_FORMATTER" "Ljava/util/function/BiFunction;" g.2.2.2.1 U H) ∧
  (va_Z "TwoBeatsAgo" "KIND_ABOVE" "[I" (.ref (g.2.2.1 220)) g.2.2.2.1 U H ∧ va_T .int (g.2.2.1 220) 7 (fun j => .int (roAbove.getD j 0)) g.2.2.2.1 U H) ∧
  (va_Z "TwoBeatsAgo$Acts" "BODIES" "[I" (.ref (g.2.2.1 221)) g.2.2.2.1 U H ∧ va_T .int (g.2.2.1 221) 21 (fun j => .int (roBodies.getD j 0)) g.2.2.2.1 U H)
def roRef (g : GC) (U : State) : Prop := vk_R "TwoBeatsAgo$HallText" 65 "left " (g.2.2.1 200) U ∧ vk_R "TwoBeatsAgo$HallText" 67 "right " (g.2.2.1 201) U ∧ vk_R "TwoBeatsAgo$HallText" 69 "wide " (g.2.2.1 202) U ∧ vk_R "TwoBeatsAgo$HallText" 71 "skip " (g.2.2.1 203) U ∧ vk_R "TwoBeatsAgo$HallText" 85 "dkvpab" (g.2.2.1 204) U ∧ vk_R "TwoBeatsAgo$HallText" 93 "<=>" (g.2.2.1 205) U
theorem Ro.moved {g : GC} {u U : State} {H : Heap} (hvm : u.vm.Alike U.vm) (h : Ro g u H) : Ro g U H :=
  ⟨⟨vk_S.moved hvm h.1.1, va_Z.moved hvm h.1.2.1, va_Zq.moved hvm h.1.2.2⟩, ⟨va_Z.moved hvm h.2.1.1, va_T.moved hvm h.2.1.2⟩, ⟨va_Z.moved hvm h.2.2.1, va_T.moved hvm h.2.2.2⟩⟩
theorem Ro.kept {g : GC} {U : State} {H H1 : Heap} (h : Ro g U H) (hq : ∀ a : Nat, a < H.size → ¬ g.2.2.2.1 a → H1[a]? = H[a]?) : Ro g U H1 :=
  ⟨⟨h.1.1.kept hq, h.1.2.1.kept hq, h.1.2.2.kept hq⟩, ⟨h.2.1.1.kept hq, h.2.1.2.kept hq⟩, ⟨h.2.2.1.kept hq, h.2.2.2.kept hq⟩⟩
theorem roRef.warm {g : GC} {s U : State} (hW : s.WarmedH U.vm) (h : roRef g s) : roRef g U :=
  ⟨h.1.warm hW, h.2.1.warm hW, h.2.2.1.warm hW, h.2.2.2.1.warm hW, h.2.2.2.2.1.warm hW, h.2.2.2.2.2.warm hW⟩
theorem roRef.same {g : GC} {u U : State} (hv : U.vm = u.vm) (h : roRef g u) : roRef g U :=
  ⟨h.1.same hv, h.2.1.same hv, h.2.2.1.same hv, h.2.2.2.1.same hv, h.2.2.2.2.1.same hv, h.2.2.2.2.2.same hv⟩
/-- all that is known of a state beside the memory -/
def Wd (g : GC) (U : State) (H : Heap) : Prop := GOK g ∧ va_K g.2.1 qcl (qtys g) U ∧ Ro g U H ∧ roRef g U
/-- one activation: program, environment, room, start; its arguments, frames below, code; locals' words, room used, what is to be reached -/
abbrev CX : Type := (Program × Env × Room × State × MethodId) × (Array Value × List Frame × Method × Code) × (Nat × Nat × Nat × (State → Prop))
def CxOK (g : GC) (X : CX) (own : String) (cc : ByteArray) : Prop := match X with
  | ((p, _, R, s, m), (args, _, _, c), (nL, cells, slots, _)) => p.tables.exec = Jvm.exec ∧ c.code = cc ∧ c.maxLocals = nL ∧ s.vm.findClass own = some m.cls ∧ (∀ w ∈ Gs, w.before args s = true) ∧ Wd g s s.heap ∧ cells ≤ R.cells ∧ slots ≤ R.slots
def lok (g : GC) (lsA : Array Slot) (nL : Nat) (ls : List (Option AV)) : Prop := lsA.size = nL ∧ lv_wf lsA ∧ (∀ (i : Nat) (v : AV), ls[i]? = some (some v) → lsA[i]? = some (.val (cv g v))) ∧ ls.length ≤ nL
def SW (g : GC) (X : CX) (own : String) (cc : ByteArray) (pc : Nat) (ls : List (Option AV)) (st : List AV) (V : MM) : Prop := CxOK g X own cc → match X with
  | ((p, e, R, s, m), (args, below, meth, c), (nL, cells, slots, Z)) => ∀ (H : Heap) (locs : List Loc) (lsA : Array Slot), va_P g.2.1 qcl (wl g V) H → va_S g.2.2.2.1 s.heap H locs → lok g lsA nL ls → W p g.1 e R s m args below meth c H locs cells slots Z (F0 m pc lsA (st.map (cv g)))
/-- an instruction at a place, and the place behind it -/
def DI (cc : ByteArray) (pc : Nat) (i : Instr) (n nx : Nat) : Prop := decode cc pc = .ok (i, n) ∧ nx = pc + n
def DJ (cc : ByteArray) (pc : Nat) (f : Int → Instr) (tgt nx : Nat) : Prop := ∃ off, decode cc pc = .ok (f off, 3) ∧ (pc : Int) + off = (tgt : Int) ∧ nx = pc + 3
theorem lok_sub {g : GC} {lsA : Array Slot} {nL : Nat} {ls ls' : List (Option AV)} (h : lok g lsA nL ls) (h2 : ∀ (i : Nat) (v : AV), ls'[i]? = some (some v) → ls[i]? = some (some v)) (h3 : ls'.length ≤ ls.length) : lok g lsA nL ls' := ⟨h.1, h.2.1, fun i v q => h.2.2.1 i v (h2 i v q), Nat.le_trans h3 h.2.2.2⟩
/-- not a long -/
def nl : Option (Option AV) → Prop
  | some (some (.inr (.inr _))) => False
  | _ => True
theorem cv_cat1 {g : GC} {v : AV} (h : nl (some (some v))) : (cv g v).category = 1 := by
  match v, h with
  | .inl z, _ => rfl
  | .inr (.inl k), _ => rfl
end
section
section RU
variable {g : GC} {X : CX} {own : String} {cc : ByteArray} {pc nx tgt : Nat} {ls : List (Option AV)} {st : List AV} {V : MM}
theorem io_add (a b : Int) : Int32.ofInt a + Int32.ofInt b = Int32.ofInt (a + b) := (Int32.ofInt_add a b).symm
theorem io_sub (a b : Int) : Int32.ofInt a - Int32.ofInt b = Int32.ofInt (a - b) := (Int32.ofInt_sub a b).symm
theorem io_mul (a b : Int) : Int32.ofInt a * Int32.ofInt b = Int32.ofInt (a * b) := (Int32.ofInt_mul a b).symm
theorem io_neg (a : Int) : - Int32.ofInt a = Int32.ofInt (-a) := (Int32.ofInt_neg a).symm
theorem io_toInt {a : Int} (h : -2147483648 ≤ a ∧ a ≤ 2147483647) : (Int32.ofInt a).toInt = a := Int32.toInt_ofInt_of_le (by simp; omega) (by simp; omega)
theorem io_ofInt (x : Int32) : Int32.ofInt x.toInt = x := Int32.ofInt_toInt x
theorem io_rg (x : Int32) : -2147483648 ≤ x.toInt ∧ x.toInt ≤ 2147483647 := ⟨Int32.le_toInt x, by have := Int32.toInt_lt x; omega⟩
theorem io_lt {a b : Int} (ha : -2147483648 ≤ a ∧ a ≤ 2147483647) (hb : -2147483648 ≤ b ∧ b ≤ 2147483647) : Int32.ofInt a < Int32.ofInt b ↔ a < b := by rw [Int32.lt_iff_toInt_lt, io_toInt ha, io_toInt hb]
theorem io_le {a b : Int} (ha : -2147483648 ≤ a ∧ a ≤ 2147483647) (hb : -2147483648 ≤ b ∧ b ≤ 2147483647) : Int32.ofInt a ≤ Int32.ofInt b ↔ a ≤ b := by rw [Int32.le_iff_toInt_le, io_toInt ha, io_toInt hb]
theorem io_eq {a b : Int} (ha : -2147483648 ≤ a ∧ a ≤ 2147483647) (hb : -2147483648 ≤ b ∧ b ≤ 2147483647) : Int32.ofInt a = Int32.ofInt b ↔ a = b := ⟨fun h => by rw [← io_toInt ha, ← io_toInt hb, h], fun h => by rw [h]⟩
theorem io_0 : Int32.ofInt 0 = 0 := rfl
theorem io_cl {a : Int} (h : -2147483648 ≤ a ∧ a ≤ 2147483647) : (Int32.ofInt a).toNatClampNeg = a.toNat := by rw [Int32.toNatClampNeg, io_toInt h]
theorem io_in {a : Int} {n : Nat} (h : 0 ≤ a) (h2 : a < n) (hn : n < 2147483648) : vp_in (Int32.ofInt a) n := by
  rw [vp_in_iff, io_toInt (by omega)]
  exact ⟨h, h2⟩
theorem io_byte {n : Int} (h : -128 ≤ n ∧ n < 128) : (Int8.ofInt n).toInt32 = Int32.ofInt n := by
  have h8 : (Int8.ofInt n).toInt = n := Int8.toInt_ofInt_of_le (by simp; omega) (by simp; omega)
  rw [← io_ofInt (Int8.ofInt n).toInt32, Int8.toInt_toInt32, h8]
theorem io_short {n : Int} (h : -32768 ≤ n ∧ n < 32768) : (Int16.ofInt n).toInt32 = Int32.ofInt n := by
  have h8 : (Int16.ofInt n).toInt = n := Int16.toInt_ofInt_of_le (by simp; omega) (by simp; omega)
  rw [← io_ofInt (Int16.ofInt n).toInt32, Int16.toInt_toInt32, h8]
theorem jo_ofInt (x : Int64) : Int64.ofInt x.toInt = x := Int64.ofInt_toInt x
theorem jo_toInt {a : Int} (h : -9223372036854775808 ≤ a ∧ a ≤ 9223372036854775807) : (Int64.ofInt a).toInt = a := Int64.toInt_ofInt_of_le (by simp; omega) (by simp; omega)
theorem jo_io {a : Int} (h : -2147483648 ≤ a ∧ a ≤ 2147483647) : (Int32.ofInt a).toInt64 = Int64.ofInt a := by
  rw [← jo_ofInt (Int32.ofInt a).toInt64, Int32.toInt_toInt64, io_toInt h]
theorem DI.at {i : Instr} {n : Nat} (d : DI cc pc i n nx) : decode cc pc = .ok (i, n) := d.1
theorem S_iconst {n : Int} (d : DI cc pc (.iconst n) 1 nx) (k : SW g X own cc nx ls (vi n :: st) V) : SW g X own cc pc ls st V := by
  obtain ⟨⟨p, e, R, s, m⟩, ⟨args, below, meth, c⟩, ⟨nL, cells, slots, Z⟩⟩ := X
  obtain ⟨hd, rfl⟩ := d
  intro hC H locs lsA hP hS hl
  have hx := hC.1
  have hb := hC.2.1
  exact lv_iconst hx hb hd rfl (k hC H locs lsA hP hS hl)
theorem S_bipush {n : Int} (h : -128 ≤ n ∧ n < 128 := by omega) (d : DI cc pc (.bipush n) 2 nx) (k : SW g X own cc nx ls (vi n :: st) V) : SW g X own cc pc ls st V := by
  obtain ⟨⟨p, e, R, s, m⟩, ⟨args, below, meth, c⟩, ⟨nL, cells, slots, Z⟩⟩ := X
  obtain ⟨hd, rfl⟩ := d
  intro hC H locs lsA hP hS hl
  have hx := hC.1
  have hb := hC.2.1
  exact lv_bipush hx hb hd (io_byte h) (k hC H locs lsA hP hS hl)
theorem S_sipush {n : Int} (h : -32768 ≤ n ∧ n < 32768 := by omega) (d : DI cc pc (.sipush n) 3 nx) (k : SW g X own cc nx ls (vi n :: st) V) : SW g X own cc pc ls st V := by
  obtain ⟨⟨p, e, R, s, m⟩, ⟨args, below, meth, c⟩, ⟨nL, cells, slots, Z⟩⟩ := X
  obtain ⟨hd, rfl⟩ := d
  intro hC H locs lsA hP hS hl
  have hx := hC.1
  have hb := hC.2.1
  exact lv_sipush hx hb hd (io_short h) (k hC H locs lsA hP hS hl)
theorem S_lconst {n : Fin 2} (d : DI cc pc (.lconst n) 1 nx) (k : SW g X own cc nx ls (vl ((n : Nat) : Int) :: st) V) : SW g X own cc pc ls st V := by
  obtain ⟨⟨p, e, R, s, m⟩, ⟨args, below, meth, c⟩, ⟨nL, cells, slots, Z⟩⟩ := X
  obtain ⟨hd, rfl⟩ := d
  intro hC H locs lsA hP hS hl
  have hx := hC.1
  have hb := hC.2.1
  exact lv_lconst hx hb hd ((by decide : ∀ z : Fin 2, Int64.ofNat (z : Nat) = Int64.ofInt ((z : Nat) : Int)) n) (k hC H locs lsA hP hS hl)
theorem S_iadd {a b : Int} (d : DI cc pc .iadd 1 nx) (k : SW g X own cc nx ls (vi (a + b) :: st) V) : SW g X own cc pc ls (vi b :: vi a :: st) V := by
  obtain ⟨⟨p, e, R, s, m⟩, ⟨args, below, meth, c⟩, ⟨nL, cells, slots, Z⟩⟩ := X
  obtain ⟨hd, rfl⟩ := d
  intro hC H locs lsA hP hS hl
  have hx := hC.1
  have hb := hC.2.1
  show W p g.1 e R s m args below meth c H locs cells slots Z (F0 m pc lsA (.int (Int32.ofInt b) :: .int (Int32.ofInt a) :: st.map (cv g)))
  refine lv_iadd hx hb hd ?_
  rw [io_add]
  exact k hC H locs lsA hP hS hl
theorem S_isub {a b : Int} (d : DI cc pc .isub 1 nx) (k : SW g X own cc nx ls (vi (a - b) :: st) V) : SW g X own cc pc ls (vi b :: vi a :: st) V := by
  obtain ⟨⟨p, e, R, s, m⟩, ⟨args, below, meth, c⟩, ⟨nL, cells, slots, Z⟩⟩ := X
  obtain ⟨hd, rfl⟩ := d
  intro hC H locs lsA hP hS hl
  have hx := hC.1
  have hb := hC.2.1
  show W p g.1 e R s m args below meth c H locs cells slots Z (F0 m pc lsA (.int (Int32.ofInt b) :: .int (Int32.ofInt a) :: st.map (cv g)))
  refine lv_isub hx hb hd ?_
  rw [io_sub]
  exact k hC H locs lsA hP hS hl
theorem S_imul {a b : Int} (d : DI cc pc .imul 1 nx) (k : SW g X own cc nx ls (vi (a * b) :: st) V) : SW g X own cc pc ls (vi b :: vi a :: st) V := by
  obtain ⟨⟨p, e, R, s, m⟩, ⟨args, below, meth, c⟩, ⟨nL, cells, slots, Z⟩⟩ := X
  obtain ⟨hd, rfl⟩ := d
  intro hC H locs lsA hP hS hl
  have hx := hC.1
  have hb := hC.2.1
  show W p g.1 e R s m args below meth c H locs cells slots Z (F0 m pc lsA (.int (Int32.ofInt b) :: .int (Int32.ofInt a) :: st.map (cv g)))
  refine lv_imul hx hb hd ?_
  rw [io_mul]
  exact k hC H locs lsA hP hS hl
theorem S_ineg {a : Int} (d : DI cc pc .ineg 1 nx) (k : SW g X own cc nx ls (vi (-a) :: st) V) : SW g X own cc pc ls (vi a :: st) V := by
  obtain ⟨⟨p, e, R, s, m⟩, ⟨args, below, meth, c⟩, ⟨nL, cells, slots, Z⟩⟩ := X
  obtain ⟨hd, rfl⟩ := d
  intro hC H locs lsA hP hS hl
  have hx := hC.1
  have hb := hC.2.1
  show W p g.1 e R s m args below meth c H locs cells slots Z (F0 m pc lsA (.int (Int32.ofInt a) :: st.map (cv g)))
  refine lv_ineg hx hb hd ?_
  rw [io_neg]
  exact k hC H locs lsA hP hS hl
theorem S_iand {a b : Int} (d : DI cc pc .iand 1 nx) (k : SW g X own cc nx ls (vi (Int32.ofInt a &&& Int32.ofInt b).toInt :: st) V) : SW g X own cc pc ls (vi b :: vi a :: st) V := by
  obtain ⟨⟨p, e, R, s, m⟩, ⟨args, below, meth, c⟩, ⟨nL, cells, slots, Z⟩⟩ := X
  obtain ⟨hd, rfl⟩ := d
  intro hC H locs lsA hP hS hl
  have hx := hC.1
  have hb := hC.2.1
  show W p g.1 e R s m args below meth c H locs cells slots Z (F0 m pc lsA (.int (Int32.ofInt b) :: .int (Int32.ofInt a) :: st.map (cv g)))
  refine lv_iand hx hb hd ?_
  rw [← io_ofInt (Int32.ofInt a &&& Int32.ofInt b)]
  exact k hC H locs lsA hP hS hl
theorem S_ior {a b : Int} (d : DI cc pc .ior 1 nx) (k : SW g X own cc nx ls (vi (Int32.ofInt a ||| Int32.ofInt b).toInt :: st) V) : SW g X own cc pc ls (vi b :: vi a :: st) V := by
  obtain ⟨⟨p, e, R, s, m⟩, ⟨args, below, meth, c⟩, ⟨nL, cells, slots, Z⟩⟩ := X
  obtain ⟨hd, rfl⟩ := d
  intro hC H locs lsA hP hS hl
  have hx := hC.1
  have hb := hC.2.1
  show W p g.1 e R s m args below meth c H locs cells slots Z (F0 m pc lsA (.int (Int32.ofInt b) :: .int (Int32.ofInt a) :: st.map (cv g)))
  refine lv_ior hx hb hd ?_
  rw [← io_ofInt (Int32.ofInt a ||| Int32.ofInt b)]
  exact k hC H locs lsA hP hS hl
theorem S_ixor {a b : Int} (d : DI cc pc .ixor 1 nx) (k : SW g X own cc nx ls (vi (Int32.ofInt a ^^^ Int32.ofInt b).toInt :: st) V) : SW g X own cc pc ls (vi b :: vi a :: st) V := by
  obtain ⟨⟨p, e, R, s, m⟩, ⟨args, below, meth, c⟩, ⟨nL, cells, slots, Z⟩⟩ := X
  obtain ⟨hd, rfl⟩ := d
  intro hC H locs lsA hP hS hl
  have hx := hC.1
  have hb := hC.2.1
  show W p g.1 e R s m args below meth c H locs cells slots Z (F0 m pc lsA (.int (Int32.ofInt b) :: .int (Int32.ofInt a) :: st.map (cv g)))
  refine lv_ixor hx hb hd ?_
  rw [← io_ofInt (Int32.ofInt a ^^^ Int32.ofInt b)]
  exact k hC H locs lsA hP hS hl
theorem S_ishl {a b : Int} (d : DI cc pc .ishl 1 nx) (k : SW g X own cc nx ls (vi (Int32.ofInt a <<< (Int32.ofInt b &&& 31)).toInt :: st) V) : SW g X own cc pc ls (vi b :: vi a :: st) V := by
  obtain ⟨⟨p, e, R, s, m⟩, ⟨args, below, meth, c⟩, ⟨nL, cells, slots, Z⟩⟩ := X
  obtain ⟨hd, rfl⟩ := d
  intro hC H locs lsA hP hS hl
  have hx := hC.1
  have hb := hC.2.1
  show W p g.1 e R s m args below meth c H locs cells slots Z (F0 m pc lsA (.int (Int32.ofInt b) :: .int (Int32.ofInt a) :: st.map (cv g)))
  refine lv_ishl hx hb hd ?_
  rw [← io_ofInt (Int32.ofInt a <<< (Int32.ofInt b &&& 31))]
  exact k hC H locs lsA hP hS hl
theorem S_land {a b : Int} (d : DI cc pc .land 1 nx) (k : SW g X own cc nx ls (vl (Int64.ofInt a &&& Int64.ofInt b).toInt :: st) V) : SW g X own cc pc ls (vl b :: vl a :: st) V := by
  obtain ⟨⟨p, e, R, s, m⟩, ⟨args, below, meth, c⟩, ⟨nL, cells, slots, Z⟩⟩ := X
  obtain ⟨hd, rfl⟩ := d
  intro hC H locs lsA hP hS hl
  have hx := hC.1
  have hb := hC.2.1
  show W p g.1 e R s m args below meth c H locs cells slots Z (F0 m pc lsA (.long (Int64.ofInt b) :: .long (Int64.ofInt a) :: st.map (cv g)))
  refine lv_land hx hb hd ?_
  rw [← jo_ofInt (Int64.ofInt a &&& Int64.ofInt b)]
  exact k hC H locs lsA hP hS hl
theorem S_lor {a b : Int} (d : DI cc pc .lor 1 nx) (k : SW g X own cc nx ls (vl (Int64.ofInt a ||| Int64.ofInt b).toInt :: st) V) : SW g X own cc pc ls (vl b :: vl a :: st) V := by
  obtain ⟨⟨p, e, R, s, m⟩, ⟨args, below, meth, c⟩, ⟨nL, cells, slots, Z⟩⟩ := X
  obtain ⟨hd, rfl⟩ := d
  intro hC H locs lsA hP hS hl
  have hx := hC.1
  have hb := hC.2.1
  show W p g.1 e R s m args below meth c H locs cells slots Z (F0 m pc lsA (.long (Int64.ofInt b) :: .long (Int64.ofInt a) :: st.map (cv g)))
  refine lv_lor hx hb hd ?_
  rw [← jo_ofInt (Int64.ofInt a ||| Int64.ofInt b)]
  exact k hC H locs lsA hP hS hl
theorem S_lxor {a b : Int} (d : DI cc pc .lxor 1 nx) (k : SW g X own cc nx ls (vl (Int64.ofInt a ^^^ Int64.ofInt b).toInt :: st) V) : SW g X own cc pc ls (vl b :: vl a :: st) V := by
  obtain ⟨⟨p, e, R, s, m⟩, ⟨args, below, meth, c⟩, ⟨nL, cells, slots, Z⟩⟩ := X
  obtain ⟨hd, rfl⟩ := d
  intro hC H locs lsA hP hS hl
  have hx := hC.1
  have hb := hC.2.1
  show W p g.1 e R s m args below meth c H locs cells slots Z (F0 m pc lsA (.long (Int64.ofInt b) :: .long (Int64.ofInt a) :: st.map (cv g)))
  refine lv_lxor hx hb hd ?_
  rw [← jo_ofInt (Int64.ofInt a ^^^ Int64.ofInt b)]
  exact k hC H locs lsA hP hS hl
theorem S_lshl {a b : Int} (d : DI cc pc .lshl 1 nx) (k : SW g X own cc nx ls (vl (Int64.ofInt a <<< ((Int32.ofInt b).toInt64 &&& 63)).toInt :: st) V) : SW g X own cc pc ls (vi b :: vl a :: st) V := by
  obtain ⟨⟨p, e, R, s, m⟩, ⟨args, below, meth, c⟩, ⟨nL, cells, slots, Z⟩⟩ := X
  obtain ⟨hd, rfl⟩ := d
  intro hC H locs lsA hP hS hl
  have hx := hC.1
  have hb := hC.2.1
  show W p g.1 e R s m args below meth c H locs cells slots Z (F0 m pc lsA (.int (Int32.ofInt b) :: .long (Int64.ofInt a) :: st.map (cv g)))
  refine lv_lshl hx hb hd rfl ?_
  rw [← jo_ofInt (Int64.ofInt a <<< ((Int32.ofInt b).toInt64 &&& 63))]
  exact k hC H locs lsA hP hS hl
theorem S_lushr {a b : Int} (d : DI cc pc .lushr 1 nx) (k : SW g X own cc nx ls (vl (((Int64.ofInt a).toUInt64 >>> ((Int32.ofInt b).toInt64.toUInt64 &&& Int64.toUInt64 63)).toInt64).toInt :: st) V) : SW g X own cc pc ls (vi b :: vl a :: st) V := by
  obtain ⟨⟨p, e, R, s, m⟩, ⟨args, below, meth, c⟩, ⟨nL, cells, slots, Z⟩⟩ := X
  obtain ⟨hd, rfl⟩ := d
  intro hC H locs lsA hP hS hl
  have hx := hC.1
  have hb := hC.2.1
  show W p g.1 e R s m args below meth c H locs cells slots Z (F0 m pc lsA (.int (Int32.ofInt b) :: .long (Int64.ofInt a) :: st.map (cv g)))
  refine lv_lushr hx hb hd rfl ?_
  rw [← jo_ofInt (((Int64.ofInt a).toUInt64 >>> ((Int32.ofInt b).toInt64.toUInt64 &&& Int64.toUInt64 63)).toInt64)]
  exact k hC H locs lsA hP hS hl
theorem S_i2l {a : Int} (h : -2147483648 ≤ a ∧ a ≤ 2147483647 := by omega) (d : DI cc pc .i2l 1 nx) (k : SW g X own cc nx ls (vl a :: st) V) : SW g X own cc pc ls (vi a :: st) V := by
  obtain ⟨⟨p, e, R, s, m⟩, ⟨args, below, meth, c⟩, ⟨nL, cells, slots, Z⟩⟩ := X
  obtain ⟨hd, rfl⟩ := d
  intro hC H locs lsA hP hS hl
  have hx := hC.1
  have hb := hC.2.1
  show W p g.1 e R s m args below meth c H locs cells slots Z (F0 m pc lsA (.int (Int32.ofInt a) :: st.map (cv g)))
  exact lv_i2l hx hb hd (jo_io h) (k hC H locs lsA hP hS hl)
theorem S_l2i {a : Int} (d : DI cc pc .l2i 1 nx) (k : SW g X own cc nx ls (vi ((Int64.ofInt a).toInt32).toInt :: st) V) : SW g X own cc pc ls (vl a :: st) V := by
  obtain ⟨⟨p, e, R, s, m⟩, ⟨args, below, meth, c⟩, ⟨nL, cells, slots, Z⟩⟩ := X
  obtain ⟨hd, rfl⟩ := d
  intro hC H locs lsA hP hS hl
  have hx := hC.1
  have hb := hC.2.1
  show W p g.1 e R s m args below meth c H locs cells slots Z (F0 m pc lsA (.long (Int64.ofInt a) :: st.map (cv g)))
  exact lv_l2i hx hb hd (io_ofInt _).symm (k hC H locs lsA hP hS hl)
theorem S_i2b {a : Int} (d : DI cc pc .i2b 1 nx) (k : SW g X own cc nx ls (vi ((Int32.ofInt a).toInt8.toInt32).toInt :: st) V) : SW g X own cc pc ls (vi a :: st) V := by
  obtain ⟨⟨p, e, R, s, m⟩, ⟨args, below, meth, c⟩, ⟨nL, cells, slots, Z⟩⟩ := X
  obtain ⟨hd, rfl⟩ := d
  intro hC H locs lsA hP hS hl
  have hx := hC.1
  have hb := hC.2.1
  show W p g.1 e R s m args below meth c H locs cells slots Z (F0 m pc lsA (.int (Int32.ofInt a) :: st.map (cv g)))
  exact lv_i2b hx hb hd (io_ofInt _).symm (k hC H locs lsA hP hS hl)
theorem S_i2s {a : Int} (d : DI cc pc .i2s 1 nx) (k : SW g X own cc nx ls (vi ((Int32.ofInt a).toInt16.toInt32).toInt :: st) V) : SW g X own cc pc ls (vi a :: st) V := by
  obtain ⟨⟨p, e, R, s, m⟩, ⟨args, below, meth, c⟩, ⟨nL, cells, slots, Z⟩⟩ := X
  obtain ⟨hd, rfl⟩ := d
  intro hC H locs lsA hP hS hl
  have hx := hC.1
  have hb := hC.2.1
  show W p g.1 e R s m args below meth c H locs cells slots Z (F0 m pc lsA (.int (Int32.ofInt a) :: st.map (cv g)))
  exact lv_i2s hx hb hd (io_ofInt _).symm (k hC H locs lsA hP hS hl)
theorem S_i2c {a : Int} (d : DI cc pc .i2c 1 nx) (k : SW g X own cc nx ls (vi (((Int32.ofInt a).toUInt32 % 65536).toInt32).toInt :: st) V) : SW g X own cc pc ls (vi a :: st) V := by
  obtain ⟨⟨p, e, R, s, m⟩, ⟨args, below, meth, c⟩, ⟨nL, cells, slots, Z⟩⟩ := X
  obtain ⟨hd, rfl⟩ := d
  intro hC H locs lsA hP hS hl
  have hx := hC.1
  have hb := hC.2.1
  show W p g.1 e R s m args below meth c H locs cells slots Z (F0 m pc lsA (.int (Int32.ofInt a) :: st.map (cv g)))
  exact lv_i2c hx hb hd (io_ofInt _).symm (k hC H locs lsA hP hS hl)
theorem S_lcmp {a b : Int} (d : DI cc pc .lcmp 1 nx) (k : SW g X own cc nx ls (vi (lg_cmp (Int64.ofInt a) (Int64.ofInt b)).toInt :: st) V) : SW g X own cc pc ls (vl b :: vl a :: st) V := by
  obtain ⟨⟨p, e, R, s, m⟩, ⟨args, below, meth, c⟩, ⟨nL, cells, slots, Z⟩⟩ := X
  obtain ⟨hd, rfl⟩ := d
  intro hC H locs lsA hP hS hl
  have hx := hC.1
  have hb := hC.2.1
  show W p g.1 e R s m args below meth c H locs cells slots Z (F0 m pc lsA (.long (Int64.ofInt b) :: .long (Int64.ofInt a) :: st.map (cv g)))
  refine W.lcmp hx hb hd ?_
  rw [← io_ofInt (lg_cmp (Int64.ofInt a) (Int64.ofInt b))]
  exact k hC H locs lsA hP hS hl
theorem S_dup {v : AV} (h : nl (some (some v)) := by trivial) (d : DI cc pc .dup 1 nx) (k : SW g X own cc nx ls (v :: v :: st) V) : SW g X own cc pc ls (v :: st) V := by
  obtain ⟨⟨p, e, R, s, m⟩, ⟨args, below, meth, c⟩, ⟨nL, cells, slots, Z⟩⟩ := X
  obtain ⟨hd, rfl⟩ := d
  intro hC H locs lsA hP hS hl
  have hx := hC.1
  have hb := hC.2.1
  show W p g.1 e R s m args below meth c H locs cells slots Z (F0 m pc lsA (cv g v :: st.map (cv g)))
  exact lv_dup hx hb hd (cv_cat1 h) (k hC H locs lsA hP hS hl)
theorem S_dup2 {v w : AV} (h : nl (some (some v)) := by trivial) (h2 : nl (some (some w)) := by trivial) (d : DI cc pc .dup2 1 nx) (k : SW g X own cc nx ls (v :: w :: v :: w :: st) V) : SW g X own cc pc ls (v :: w :: st) V := by
  obtain ⟨⟨p, e, R, s, m⟩, ⟨args, below, meth, c⟩, ⟨nL, cells, slots, Z⟩⟩ := X
  obtain ⟨hd, rfl⟩ := d
  intro hC H locs lsA hP hS hl
  have hx := hC.1
  have hb := hC.2.1
  show W p g.1 e R s m args below meth c H locs cells slots Z (F0 m pc lsA (cv g v :: cv g w :: st.map (cv g)))
  exact lv_dup2_11 hx hb hd (cv_cat1 h) (cv_cat1 h2) (k hC H locs lsA hP hS hl)
theorem io_div {a b : Int} (h0 : 0 ≤ a ∧ a ≤ 2147483647) (h1 : 0 < b ∧ b ≤ 2147483647) : Int32.ofInt a / Int32.ofInt b = Int32.ofInt (a / b) := by
  apply Int32.toInt_inj.mp
  have hq : 0 ≤ a / b := Int.ediv_nonneg h0.1 (by omega)
  have hq2 : a / b ≤ a := Int.ediv_le_self b h0.1
  rw [Int32.toInt_div_of_ne_right _ _ (by intro h; have := congrArg Int32.toInt h; rw [io_toInt (by omega)] at this; have h3 : (-1 : Int32).toInt = -1 := rfl; omega), io_toInt (by omega), io_toInt (by omega), io_toInt (by omega), Int.tdiv_eq_ediv_of_nonneg h0.1]
theorem io_rem {a b : Int} (h0 : 0 ≤ a ∧ a ≤ 2147483647) (h1 : 0 < b ∧ b ≤ 2147483647) : Int32.ofInt a - Int32.ofInt a / Int32.ofInt b * Int32.ofInt b = Int32.ofInt (a % b) := by
  rw [io_div h0 h1, io_mul, io_sub, Int.emod_def, Int.mul_comm b]
theorem io_tdiv {a b : Int} (h0 : -2147483648 ≤ a ∧ a ≤ 2147483647) (h1 : 0 < b ∧ b ≤ 2147483647) : Int32.ofInt a / Int32.ofInt b = Int32.ofInt (a.tdiv b) := by
  apply Int32.toInt_inj.mp
  have hq : (a.tdiv b).natAbs ≤ a.natAbs := by rw [Int.natAbs_tdiv]; exact Nat.div_le_self _ _
  rw [Int32.toInt_div_of_ne_right _ _ (by intro h; have := congrArg Int32.toInt h; rw [io_toInt (by omega)] at this; have h3 : (-1 : Int32).toInt = -1 := rfl; omega), io_toInt (by omega), io_toInt (by omega), io_toInt]
  by_cases hn : 0 ≤ a
  · have : 0 ≤ a.tdiv b := Int.tdiv_nonneg hn (by omega)
    omega
  · have := Int.tdiv_nonneg (a := -a) (b := b) (by omega) (by omega)
    rw [Int.neg_tdiv] at this
    omega
theorem io_trem {a b : Int} (h0 : -2147483648 ≤ a ∧ a ≤ 2147483647) (h1 : 0 < b ∧ b ≤ 2147483647) : Int32.ofInt a - Int32.ofInt a / Int32.ofInt b * Int32.ofInt b = Int32.ofInt (a.tmod b) := by
  rw [io_tdiv h0 h1, io_mul, io_sub, Int.tmod_def, Int.mul_comm b]
theorem io_nz {b : Int} (h1 : 0 < b ∧ b ≤ 2147483647) : ¬ Int32.ofInt b = 0 := by
  intro h
  have := congrArg Int32.toInt h
  rw [io_toInt (by omega)] at this
  have h3 : (0 : Int32).toInt = 0 := rfl
  omega
theorem S_idiv {a b : Int} (h0 : 0 ≤ a ∧ a ≤ 2147483647 := by omega) (h1 : 0 < b ∧ b ≤ 2147483647 := by omega) (d : DI cc pc .idiv 1 nx) (k : SW g X own cc nx ls (vi (a / b) :: st) V) : SW g X own cc pc ls (vi b :: vi a :: st) V := by
  obtain ⟨⟨p, e, R, s, m⟩, ⟨args, below, meth, c⟩, ⟨nL, cells, slots, Z⟩⟩ := X
  obtain ⟨hd, rfl⟩ := d
  intro hC H locs lsA hP hS hl
  have hx := hC.1
  have hb := hC.2.1
  show W p g.1 e R s m args below meth c H locs cells slots Z (F0 m pc lsA (.int (Int32.ofInt b) :: .int (Int32.ofInt a) :: st.map (cv g)))
  refine lv_idiv hx hb hd (io_nz h1) ?_
  rw [io_div h0 h1]
  exact k hC H locs lsA hP hS hl
theorem S_irem {a b : Int} (h0 : 0 ≤ a ∧ a ≤ 2147483647 := by omega) (h1 : 0 < b ∧ b ≤ 2147483647 := by omega) (d : DI cc pc .irem 1 nx) (k : SW g X own cc nx ls (vi (a % b) :: st) V) : SW g X own cc pc ls (vi b :: vi a :: st) V := by
  obtain ⟨⟨p, e, R, s, m⟩, ⟨args, below, meth, c⟩, ⟨nL, cells, slots, Z⟩⟩ := X
  obtain ⟨hd, rfl⟩ := d
  intro hC H locs lsA hP hS hl
  have hx := hC.1
  have hb := hC.2.1
  show W p g.1 e R s m args below meth c H locs cells slots Z (F0 m pc lsA (.int (Int32.ofInt b) :: .int (Int32.ofInt a) :: st.map (cv g)))
  refine lv_irem hx hb hd (io_nz h1) ?_
  rw [io_rem h0 h1]
  exact k hC H locs lsA hP hS hl
theorem S_idivT {a b : Int} (h0 : -2147483648 ≤ a ∧ a ≤ 2147483647 := by omega) (h1 : 0 < b ∧ b ≤ 2147483647 := by omega) (d : DI cc pc .idiv 1 nx) (k : SW g X own cc nx ls (vi (a.tdiv b) :: st) V) : SW g X own cc pc ls (vi b :: vi a :: st) V := by
  obtain ⟨⟨p, e, R, s, m⟩, ⟨args, below, meth, c⟩, ⟨nL, cells, slots, Z⟩⟩ := X
  obtain ⟨hd, rfl⟩ := d
  intro hC H locs lsA hP hS hl
  have hx := hC.1
  have hb := hC.2.1
  show W p g.1 e R s m args below meth c H locs cells slots Z (F0 m pc lsA (.int (Int32.ofInt b) :: .int (Int32.ofInt a) :: st.map (cv g)))
  refine lv_idiv hx hb hd (io_nz h1) ?_
  rw [io_tdiv h0 h1]
  exact k hC H locs lsA hP hS hl
theorem S_iremT {a b : Int} (h0 : -2147483648 ≤ a ∧ a ≤ 2147483647 := by omega) (h1 : 0 < b ∧ b ≤ 2147483647 := by omega) (d : DI cc pc .irem 1 nx) (k : SW g X own cc nx ls (vi (a.tmod b) :: st) V) : SW g X own cc pc ls (vi b :: vi a :: st) V := by
  obtain ⟨⟨p, e, R, s, m⟩, ⟨args, below, meth, c⟩, ⟨nL, cells, slots, Z⟩⟩ := X
  obtain ⟨hd, rfl⟩ := d
  intro hC H locs lsA hP hS hl
  have hx := hC.1
  have hb := hC.2.1
  show W p g.1 e R s m args below meth c H locs cells slots Z (F0 m pc lsA (.int (Int32.ofInt b) :: .int (Int32.ofInt a) :: st.map (cv g)))
  refine lv_irem hx hb hd (io_nz h1) ?_
  rw [io_trem h0 h1]
  exact k hC H locs lsA hP hS hl
theorem S_goto (d : DJ cc pc .goto tgt nx) (k : SW g X own cc tgt ls st V) : SW g X own cc pc ls st V := by
  obtain ⟨⟨p, e, R, s, m⟩, ⟨args, below, meth, c⟩, ⟨nL, cells, slots, Z⟩⟩ := X
  obtain ⟨off, hd, ht, -⟩ := d
  intro hC H locs lsA hP hS hl
  exact lv_goto hC.1 hC.2.1 hd ht (k hC H locs lsA hP hS hl)
theorem S_icmp_eq {a b : Int} (ha : -2147483648 ≤ a ∧ a ≤ 2147483647 := by omega) (hb : -2147483648 ≤ b ∧ b ≤ 2147483647 := by omega) (d : DJ cc pc (.if_icmp .eq) tgt nx) (kt : a = b → SW g X own cc tgt ls st V) (kf : ¬ a = b → SW g X own cc nx ls st V) : SW g X own cc pc ls (vi b :: vi a :: st) V := by
  obtain ⟨⟨p, e, R, s, m⟩, ⟨args, below, meth, c⟩, ⟨nL, cells, slots, Z⟩⟩ := X
  obtain ⟨off, hd, ht, rfl⟩ := d
  intro hC H locs lsA hP hS hl
  show W p g.1 e R s m args below meth c H locs cells slots Z (F0 m pc lsA (.int (Int32.ofInt b) :: .int (Int32.ofInt a) :: st.map (cv g)))
  have e1 := io_eq ha hb
  have e2 := io_lt ha hb
  have e3 := io_lt hb ha
  have e4 := io_le ha hb
  have e5 := io_le hb ha
  exact lv_icmp_eq hC.1 hC.2.1 hd ht (fun q => kt (by first | exact e1.mp q | exact fun z => q (e1.mpr z) | exact e2.mp q | exact e3.mp q | exact e4.mp q | exact e5.mp q) hC H locs lsA hP hS hl) (fun q => kf (by first | exact e1.mp q | exact fun z => q (e1.mpr z) | exact Decidable.byContradiction (fun z => q (fun y => z (e1.mp y))) | exact Int.not_lt.mp (fun z => q (e2.mpr z)) | exact Int.not_lt.mp (fun z => q (e3.mpr z)) | exact Int.not_le.mp (fun z => q (e4.mpr z)) | exact Int.not_le.mp (fun z => q (e5.mpr z))) hC H locs lsA hP hS hl)
theorem S_if_eq {a : Int} (ha : -2147483648 ≤ a ∧ a ≤ 2147483647 := by omega) (d : DJ cc pc (.ifCond .eq) tgt nx) (kt : a = 0 → SW g X own cc tgt ls st V) (kf : ¬ a = 0 → SW g X own cc nx ls st V) : SW g X own cc pc ls (vi a :: st) V := by
  obtain ⟨⟨p, e, R, s, m⟩, ⟨args, below, meth, c⟩, ⟨nL, cells, slots, Z⟩⟩ := X
  obtain ⟨off, hd, ht, rfl⟩ := d
  intro hC H locs lsA hP hS hl
  show W p g.1 e R s m args below meth c H locs cells slots Z (F0 m pc lsA (.int (Int32.ofInt a) :: st.map (cv g)))
  have h0 : (-2147483648 : Int) ≤ 0 ∧ (0 : Int) ≤ 2147483647 := by omega
  have e1 : Int32.ofInt a = 0 ↔ a = 0 := io_eq ha h0
  have e2 : Int32.ofInt a < 0 ↔ a < 0 := io_lt ha h0
  have e3 : 0 < Int32.ofInt a ↔ 0 < a := io_lt h0 ha
  have e4 : Int32.ofInt a ≤ 0 ↔ a ≤ 0 := io_le ha h0
  have e5 : 0 ≤ Int32.ofInt a ↔ 0 ≤ a := io_le h0 ha
  exact lv_if_eq hC.1 hC.2.1 hd ht (fun q => kt (by first | exact e1.mp q | exact fun z => q (e1.mpr z) | exact e2.mp q | exact e3.mp q | exact e4.mp q | exact e5.mp q) hC H locs lsA hP hS hl) (fun q => kf (by first | exact e1.mp q | exact fun z => q (e1.mpr z) | exact Decidable.byContradiction (fun z => q (fun y => z (e1.mp y))) | exact Int.not_lt.mp (fun z => q (e2.mpr z)) | exact Int.not_lt.mp (fun z => q (e3.mpr z)) | exact Int.not_le.mp (fun z => q (e4.mpr z)) | exact Int.not_le.mp (fun z => q (e5.mpr z))) hC H locs lsA hP hS hl)
theorem S_icmp_ne {a b : Int} (ha : -2147483648 ≤ a ∧ a ≤ 2147483647 := by omega) (hb : -2147483648 ≤ b ∧ b ≤ 2147483647 := by omega) (d : DJ cc pc (.if_icmp .ne) tgt nx) (kt : ¬ a = b → SW g X own cc tgt ls st V) (kf : a = b → SW g X own cc nx ls st V) : SW g X own cc pc ls (vi b :: vi a :: st) V := by
  obtain ⟨⟨p, e, R, s, m⟩, ⟨args, below, meth, c⟩, ⟨nL, cells, slots, Z⟩⟩ := X
  obtain ⟨off, hd, ht, rfl⟩ := d
  intro hC H locs lsA hP hS hl
  show W p g.1 e R s m args below meth c H locs cells slots Z (F0 m pc lsA (.int (Int32.ofInt b) :: .int (Int32.ofInt a) :: st.map (cv g)))
  have e1 := io_eq ha hb
  have e2 := io_lt ha hb
  have e3 := io_lt hb ha
  have e4 := io_le ha hb
  have e5 := io_le hb ha
  exact lv_icmp_ne hC.1 hC.2.1 hd ht (fun q => kt (by first | exact e1.mp q | exact fun z => q (e1.mpr z) | exact e2.mp q | exact e3.mp q | exact e4.mp q | exact e5.mp q) hC H locs lsA hP hS hl) (fun q => kf (by first | exact e1.mp q | exact fun z => q (e1.mpr z) | exact Decidable.byContradiction (fun z => q (fun y => z (e1.mp y))) | exact Int.not_lt.mp (fun z => q (e2.mpr z)) | exact Int.not_lt.mp (fun z => q (e3.mpr z)) | exact Int.not_le.mp (fun z => q (e4.mpr z)) | exact Int.not_le.mp (fun z => q (e5.mpr z))) hC H locs lsA hP hS hl)
theorem S_if_ne {a : Int} (ha : -2147483648 ≤ a ∧ a ≤ 2147483647 := by omega) (d : DJ cc pc (.ifCond .ne) tgt nx) (kt : ¬ a = 0 → SW g X own cc tgt ls st V) (kf : a = 0 → SW g X own cc nx ls st V) : SW g X own cc pc ls (vi a :: st) V := by
  obtain ⟨⟨p, e, R, s, m⟩, ⟨args, below, meth, c⟩, ⟨nL, cells, slots, Z⟩⟩ := X
  obtain ⟨off, hd, ht, rfl⟩ := d
  intro hC H locs lsA hP hS hl
  show W p g.1 e R s m args below meth c H locs cells slots Z (F0 m pc lsA (.int (Int32.ofInt a) :: st.map (cv g)))
  have h0 : (-2147483648 : Int) ≤ 0 ∧ (0 : Int) ≤ 2147483647 := by omega
  have e1 : Int32.ofInt a = 0 ↔ a = 0 := io_eq ha h0
  have e2 : Int32.ofInt a < 0 ↔ a < 0 := io_lt ha h0
  have e3 : 0 < Int32.ofInt a ↔ 0 < a := io_lt h0 ha
  have e4 : Int32.ofInt a ≤ 0 ↔ a ≤ 0 := io_le ha h0
  have e5 : 0 ≤ Int32.ofInt a ↔ 0 ≤ a := io_le h0 ha
  exact lv_if_ne hC.1 hC.2.1 hd ht (fun q => kt (by first | exact e1.mp q | exact fun z => q (e1.mpr z) | exact e2.mp q | exact e3.mp q | exact e4.mp q | exact e5.mp q) hC H locs lsA hP hS hl) (fun q => kf (by first | exact e1.mp q | exact fun z => q (e1.mpr z) | exact Decidable.byContradiction (fun z => q (fun y => z (e1.mp y))) | exact Int.not_lt.mp (fun z => q (e2.mpr z)) | exact Int.not_lt.mp (fun z => q (e3.mpr z)) | exact Int.not_le.mp (fun z => q (e4.mpr z)) | exact Int.not_le.mp (fun z => q (e5.mpr z))) hC H locs lsA hP hS hl)
theorem S_icmp_lt {a b : Int} (ha : -2147483648 ≤ a ∧ a ≤ 2147483647 := by omega) (hb : -2147483648 ≤ b ∧ b ≤ 2147483647 := by omega) (d : DJ cc pc (.if_icmp .lt) tgt nx) (kt : a < b → SW g X own cc tgt ls st V) (kf : b ≤ a → SW g X own cc nx ls st V) : SW g X own cc pc ls (vi b :: vi a :: st) V := by
  obtain ⟨⟨p, e, R, s, m⟩, ⟨args, below, meth, c⟩, ⟨nL, cells, slots, Z⟩⟩ := X
  obtain ⟨off, hd, ht, rfl⟩ := d
  intro hC H locs lsA hP hS hl
  show W p g.1 e R s m args below meth c H locs cells slots Z (F0 m pc lsA (.int (Int32.ofInt b) :: .int (Int32.ofInt a) :: st.map (cv g)))
  have e1 := io_eq ha hb
  have e2 := io_lt ha hb
  have e3 := io_lt hb ha
  have e4 := io_le ha hb
  have e5 := io_le hb ha
  exact lv_icmp_lt hC.1 hC.2.1 hd ht (fun q => kt (by first | exact e1.mp q | exact fun z => q (e1.mpr z) | exact e2.mp q | exact e3.mp q | exact e4.mp q | exact e5.mp q) hC H locs lsA hP hS hl) (fun q => kf (by first | exact e1.mp q | exact fun z => q (e1.mpr z) | exact Decidable.byContradiction (fun z => q (fun y => z (e1.mp y))) | exact Int.not_lt.mp (fun z => q (e2.mpr z)) | exact Int.not_lt.mp (fun z => q (e3.mpr z)) | exact Int.not_le.mp (fun z => q (e4.mpr z)) | exact Int.not_le.mp (fun z => q (e5.mpr z))) hC H locs lsA hP hS hl)
theorem S_if_lt {a : Int} (ha : -2147483648 ≤ a ∧ a ≤ 2147483647 := by omega) (d : DJ cc pc (.ifCond .lt) tgt nx) (kt : a < 0 → SW g X own cc tgt ls st V) (kf : 0 ≤ a → SW g X own cc nx ls st V) : SW g X own cc pc ls (vi a :: st) V := by
  obtain ⟨⟨p, e, R, s, m⟩, ⟨args, below, meth, c⟩, ⟨nL, cells, slots, Z⟩⟩ := X
  obtain ⟨off, hd, ht, rfl⟩ := d
  intro hC H locs lsA hP hS hl
  show W p g.1 e R s m args below meth c H locs cells slots Z (F0 m pc lsA (.int (Int32.ofInt a) :: st.map (cv g)))
  have h0 : (-2147483648 : Int) ≤ 0 ∧ (0 : Int) ≤ 2147483647 := by omega
  have e1 : Int32.ofInt a = 0 ↔ a = 0 := io_eq ha h0
  have e2 : Int32.ofInt a < 0 ↔ a < 0 := io_lt ha h0
  have e3 : 0 < Int32.ofInt a ↔ 0 < a := io_lt h0 ha
  have e4 : Int32.ofInt a ≤ 0 ↔ a ≤ 0 := io_le ha h0
  have e5 : 0 ≤ Int32.ofInt a ↔ 0 ≤ a := io_le h0 ha
  exact lv_if_lt hC.1 hC.2.1 hd ht (fun q => kt (by first | exact e1.mp q | exact fun z => q (e1.mpr z) | exact e2.mp q | exact e3.mp q | exact e4.mp q | exact e5.mp q) hC H locs lsA hP hS hl) (fun q => kf (by first | exact e1.mp q | exact fun z => q (e1.mpr z) | exact Decidable.byContradiction (fun z => q (fun y => z (e1.mp y))) | exact Int.not_lt.mp (fun z => q (e2.mpr z)) | exact Int.not_lt.mp (fun z => q (e3.mpr z)) | exact Int.not_le.mp (fun z => q (e4.mpr z)) | exact Int.not_le.mp (fun z => q (e5.mpr z))) hC H locs lsA hP hS hl)
theorem S_icmp_ge {a b : Int} (ha : -2147483648 ≤ a ∧ a ≤ 2147483647 := by omega) (hb : -2147483648 ≤ b ∧ b ≤ 2147483647 := by omega) (d : DJ cc pc (.if_icmp .ge) tgt nx) (kt : b ≤ a → SW g X own cc tgt ls st V) (kf : a < b → SW g X own cc nx ls st V) : SW g X own cc pc ls (vi b :: vi a :: st) V := by
  obtain ⟨⟨p, e, R, s, m⟩, ⟨args, below, meth, c⟩, ⟨nL, cells, slots, Z⟩⟩ := X
  obtain ⟨off, hd, ht, rfl⟩ := d
  intro hC H locs lsA hP hS hl
  show W p g.1 e R s m args below meth c H locs cells slots Z (F0 m pc lsA (.int (Int32.ofInt b) :: .int (Int32.ofInt a) :: st.map (cv g)))
  have e1 := io_eq ha hb
  have e2 := io_lt ha hb
  have e3 := io_lt hb ha
  have e4 := io_le ha hb
  have e5 := io_le hb ha
  exact lv_icmp_ge hC.1 hC.2.1 hd ht (fun q => kt (by first | exact e1.mp q | exact fun z => q (e1.mpr z) | exact e2.mp q | exact e3.mp q | exact e4.mp q | exact e5.mp q) hC H locs lsA hP hS hl) (fun q => kf (by first | exact e1.mp q | exact fun z => q (e1.mpr z) | exact Decidable.byContradiction (fun z => q (fun y => z (e1.mp y))) | exact Int.not_lt.mp (fun z => q (e2.mpr z)) | exact Int.not_lt.mp (fun z => q (e3.mpr z)) | exact Int.not_le.mp (fun z => q (e4.mpr z)) | exact Int.not_le.mp (fun z => q (e5.mpr z))) hC H locs lsA hP hS hl)
theorem S_if_ge {a : Int} (ha : -2147483648 ≤ a ∧ a ≤ 2147483647 := by omega) (d : DJ cc pc (.ifCond .ge) tgt nx) (kt : 0 ≤ a → SW g X own cc tgt ls st V) (kf : a < 0 → SW g X own cc nx ls st V) : SW g X own cc pc ls (vi a :: st) V := by
  obtain ⟨⟨p, e, R, s, m⟩, ⟨args, below, meth, c⟩, ⟨nL, cells, slots, Z⟩⟩ := X
  obtain ⟨off, hd, ht, rfl⟩ := d
  intro hC H locs lsA hP hS hl
  show W p g.1 e R s m args below meth c H locs cells slots Z (F0 m pc lsA (.int (Int32.ofInt a) :: st.map (cv g)))
  have h0 : (-2147483648 : Int) ≤ 0 ∧ (0 : Int) ≤ 2147483647 := by omega
  have e1 : Int32.ofInt a = 0 ↔ a = 0 := io_eq ha h0
  have e2 : Int32.ofInt a < 0 ↔ a < 0 := io_lt ha h0
  have e3 : 0 < Int32.ofInt a ↔ 0 < a := io_lt h0 ha
  have e4 : Int32.ofInt a ≤ 0 ↔ a ≤ 0 := io_le ha h0
  have e5 : 0 ≤ Int32.ofInt a ↔ 0 ≤ a := io_le h0 ha
  exact lv_if_ge hC.1 hC.2.1 hd ht (fun q => kt (by first | exact e1.mp q | exact fun z => q (e1.mpr z) | exact e2.mp q | exact e3.mp q | exact e4.mp q | exact e5.mp q) hC H locs lsA hP hS hl) (fun q => kf (by first | exact e1.mp q | exact fun z => q (e1.mpr z) | exact Decidable.byContradiction (fun z => q (fun y => z (e1.mp y))) | exact Int.not_lt.mp (fun z => q (e2.mpr z)) | exact Int.not_lt.mp (fun z => q (e3.mpr z)) | exact Int.not_le.mp (fun z => q (e4.mpr z)) | exact Int.not_le.mp (fun z => q (e5.mpr z))) hC H locs lsA hP hS hl)
theorem S_icmp_gt {a b : Int} (ha : -2147483648 ≤ a ∧ a ≤ 2147483647 := by omega) (hb : -2147483648 ≤ b ∧ b ≤ 2147483647 := by omega) (d : DJ cc pc (.if_icmp .gt) tgt nx) (kt : b < a → SW g X own cc tgt ls st V) (kf : a ≤ b → SW g X own cc nx ls st V) : SW g X own cc pc ls (vi b :: vi a :: st) V := by
  obtain ⟨⟨p, e, R, s, m⟩, ⟨args, below, meth, c⟩, ⟨nL, cells, slots, Z⟩⟩ := X
  obtain ⟨off, hd, ht, rfl⟩ := d
  intro hC H locs lsA hP hS hl
  show W p g.1 e R s m args below meth c H locs cells slots Z (F0 m pc lsA (.int (Int32.ofInt b) :: .int (Int32.ofInt a) :: st.map (cv g)))
  have e1 := io_eq ha hb
  have e2 := io_lt ha hb
  have e3 := io_lt hb ha
  have e4 := io_le ha hb
  have e5 := io_le hb ha
  exact lv_icmp_gt hC.1 hC.2.1 hd ht (fun q => kt (by first | exact e1.mp q | exact fun z => q (e1.mpr z) | exact e2.mp q | exact e3.mp q | exact e4.mp q | exact e5.mp q) hC H locs lsA hP hS hl) (fun q => kf (by first | exact e1.mp q | exact fun z => q (e1.mpr z) | exact Decidable.byContradiction (fun z => q (fun y => z (e1.mp y))) | exact Int.not_lt.mp (fun z => q (e2.mpr z)) | exact Int.not_lt.mp (fun z => q (e3.mpr z)) | exact Int.not_le.mp (fun z => q (e4.mpr z)) | exact Int.not_le.mp (fun z => q (e5.mpr z))) hC H locs lsA hP hS hl)
theorem S_if_gt {a : Int} (ha : -2147483648 ≤ a ∧ a ≤ 2147483647 := by omega) (d : DJ cc pc (.ifCond .gt) tgt nx) (kt : 0 < a → SW g X own cc tgt ls st V) (kf : a ≤ 0 → SW g X own cc nx ls st V) : SW g X own cc pc ls (vi a :: st) V := by
  obtain ⟨⟨p, e, R, s, m⟩, ⟨args, below, meth, c⟩, ⟨nL, cells, slots, Z⟩⟩ := X
  obtain ⟨off, hd, ht, rfl⟩ := d
  intro hC H locs lsA hP hS hl
  show W p g.1 e R s m args below meth c H locs cells slots Z (F0 m pc lsA (.int (Int32.ofInt a) :: st.map (cv g)))
  have h0 : (-2147483648 : Int) ≤ 0 ∧ (0 : Int) ≤ 2147483647 := by omega
  have e1 : Int32.ofInt a = 0 ↔ a = 0 := io_eq ha h0
  have e2 : Int32.ofInt a < 0 ↔ a < 0 := io_lt ha h0
  have e3 : 0 < Int32.ofInt a ↔ 0 < a := io_lt h0 ha
  have e4 : Int32.ofInt a ≤ 0 ↔ a ≤ 0 := io_le ha h0
  have e5 : 0 ≤ Int32.ofInt a ↔ 0 ≤ a := io_le h0 ha
  exact lv_if_gt hC.1 hC.2.1 hd ht (fun q => kt (by first | exact e1.mp q | exact fun z => q (e1.mpr z) | exact e2.mp q | exact e3.mp q | exact e4.mp q | exact e5.mp q) hC H locs lsA hP hS hl) (fun q => kf (by first | exact e1.mp q | exact fun z => q (e1.mpr z) | exact Decidable.byContradiction (fun z => q (fun y => z (e1.mp y))) | exact Int.not_lt.mp (fun z => q (e2.mpr z)) | exact Int.not_lt.mp (fun z => q (e3.mpr z)) | exact Int.not_le.mp (fun z => q (e4.mpr z)) | exact Int.not_le.mp (fun z => q (e5.mpr z))) hC H locs lsA hP hS hl)
theorem S_icmp_le {a b : Int} (ha : -2147483648 ≤ a ∧ a ≤ 2147483647 := by omega) (hb : -2147483648 ≤ b ∧ b ≤ 2147483647 := by omega) (d : DJ cc pc (.if_icmp .le) tgt nx) (kt : a ≤ b → SW g X own cc tgt ls st V) (kf : b < a → SW g X own cc nx ls st V) : SW g X own cc pc ls (vi b :: vi a :: st) V := by
  obtain ⟨⟨p, e, R, s, m⟩, ⟨args, below, meth, c⟩, ⟨nL, cells, slots, Z⟩⟩ := X
  obtain ⟨off, hd, ht, rfl⟩ := d
  intro hC H locs lsA hP hS hl
  show W p g.1 e R s m args below meth c H locs cells slots Z (F0 m pc lsA (.int (Int32.ofInt b) :: .int (Int32.ofInt a) :: st.map (cv g)))
  have e1 := io_eq ha hb
  have e2 := io_lt ha hb
  have e3 := io_lt hb ha
  have e4 := io_le ha hb
  have e5 := io_le hb ha
  exact lv_icmp_le hC.1 hC.2.1 hd ht (fun q => kt (by first | exact e1.mp q | exact fun z => q (e1.mpr z) | exact e2.mp q | exact e3.mp q | exact e4.mp q | exact e5.mp q) hC H locs lsA hP hS hl) (fun q => kf (by first | exact e1.mp q | exact fun z => q (e1.mpr z) | exact Decidable.byContradiction (fun z => q (fun y => z (e1.mp y))) | exact Int.not_lt.mp (fun z => q (e2.mpr z)) | exact Int.not_lt.mp (fun z => q (e3.mpr z)) | exact Int.not_le.mp (fun z => q (e4.mpr z)) | exact Int.not_le.mp (fun z => q (e5.mpr z))) hC H locs lsA hP hS hl)
theorem S_if_le {a : Int} (ha : -2147483648 ≤ a ∧ a ≤ 2147483647 := by omega) (d : DJ cc pc (.ifCond .le) tgt nx) (kt : a ≤ 0 → SW g X own cc tgt ls st V) (kf : 0 < a → SW g X own cc nx ls st V) : SW g X own cc pc ls (vi a :: st) V := by
  obtain ⟨⟨p, e, R, s, m⟩, ⟨args, below, meth, c⟩, ⟨nL, cells, slots, Z⟩⟩ := X
  obtain ⟨off, hd, ht, rfl⟩ := d
  intro hC H locs lsA hP hS hl
  show W p g.1 e R s m args below meth c H locs cells slots Z (F0 m pc lsA (.int (Int32.ofInt a) :: st.map (cv g)))
  have h0 : (-2147483648 : Int) ≤ 0 ∧ (0 : Int) ≤ 2147483647 := by omega
  have e1 : Int32.ofInt a = 0 ↔ a = 0 := io_eq ha h0
  have e2 : Int32.ofInt a < 0 ↔ a < 0 := io_lt ha h0
  have e3 : 0 < Int32.ofInt a ↔ 0 < a := io_lt h0 ha
  have e4 : Int32.ofInt a ≤ 0 ↔ a ≤ 0 := io_le ha h0
  have e5 : 0 ≤ Int32.ofInt a ↔ 0 ≤ a := io_le h0 ha
  exact lv_if_le hC.1 hC.2.1 hd ht (fun q => kt (by first | exact e1.mp q | exact fun z => q (e1.mpr z) | exact e2.mp q | exact e3.mp q | exact e4.mp q | exact e5.mp q) hC H locs lsA hP hS hl) (fun q => kf (by first | exact e1.mp q | exact fun z => q (e1.mpr z) | exact Decidable.byContradiction (fun z => q (fun y => z (e1.mp y))) | exact Int.not_lt.mp (fun z => q (e2.mpr z)) | exact Int.not_lt.mp (fun z => q (e3.mpr z)) | exact Int.not_le.mp (fun z => q (e4.mpr z)) | exact Int.not_le.mp (fun z => q (e5.mpr z))) hC H locs lsA hP hS hl)
theorem S_tabIn {a lo hi dflt off : Int} {offs : Array Int} {len : Nat} (d : decode cc pc = .ok (.tableswitch dflt lo hi offs, len)) (ha : lo ≤ a ∧ a ≤ hi) (hr : -2147483648 ≤ a ∧ a ≤ 2147483647 := by omega) (ho : offs[(a - lo).toNat]? = some off) (ht : (pc : Int) + off = (tgt : Int)) (k : SW g X own cc tgt ls st V) : SW g X own cc pc ls (vi a :: st) V := by
  obtain ⟨⟨p, e, R, s, m⟩, ⟨args, below, meth, c⟩, ⟨nL, cells, slots, Z⟩⟩ := X
  intro hC H locs lsA hP hS hl
  have e0 := io_toInt hr
  show W p g.1 e R s m args below meth c H locs cells slots Z (F0 m pc lsA (.int (Int32.ofInt a) :: st.map (cv g)))
  exact lv_tableIn hC.1 hC.2.1 d (by rw [e0]; omega) (by rw [e0]; omega) (by rw [e0]; exact ho) ht (k hC H locs lsA hP hS hl)
theorem S_tabOut {a lo hi dflt : Int} {offs : Array Int} {len : Nat} (d : decode cc pc = .ok (.tableswitch dflt lo hi offs, len)) (ha : a < lo ∨ hi < a) (hr : -2147483648 ≤ a ∧ a ≤ 2147483647 := by omega) (ht : (pc : Int) + dflt = (tgt : Int)) (k : SW g X own cc tgt ls st V) : SW g X own cc pc ls (vi a :: st) V := by
  obtain ⟨⟨p, e, R, s, m⟩, ⟨args, below, meth, c⟩, ⟨nL, cells, slots, Z⟩⟩ := X
  intro hC H locs lsA hP hS hl
  have e0 := io_toInt hr
  show W p g.1 e R s m args below meth c H locs cells slots Z (F0 m pc lsA (.int (Int32.ofInt a) :: st.map (cv g)))
  exact lv_tableOut hC.1 hC.2.1 d (by rw [e0]; exact ha) ht (k hC H locs lsA hP hS hl)
theorem S_lookup {a dflt off : Int} {ps : Array (Int × Int)} {len : Nat} (d : decode cc pc = .ok (.lookupswitch dflt ps, len)) (hp : (ps.toList.zip (ps.toList.drop 1)).all (fun (a, next) => a.1 < next.1) = true) (hr : -2147483648 ≤ a ∧ a ≤ 2147483647 := by omega) (ho : Op.lookupswitch.offset ps.toList dflt a = off) (ht : (pc : Int) + off = (tgt : Int)) (k : SW g X own cc tgt ls st V) : SW g X own cc pc ls (vi a :: st) V := by
  obtain ⟨⟨p, e, R, s, m⟩, ⟨args, below, meth, c⟩, ⟨nL, cells, slots, Z⟩⟩ := X
  intro hC H locs lsA hP hS hl
  have e0 := io_toInt hr
  show W p g.1 e R s m args below meth c H locs cells slots Z (F0 m pc lsA (.int (Int32.ofInt a) :: st.map (cv g)))
  exact lv_lookup hC.1 hC.2.1 d hp (by rw [e0]; exact ho) ht (k hC H locs lsA hP hS hl)
theorem S_iload {i : Nat} {x : Int} (d : DI cc pc (.iload i) 2 nx) (h : ls[i]? = some (some (vi x))) (k : SW g X own cc nx ls ((vi x) :: st) V) : SW g X own cc pc ls st V := by
  obtain ⟨⟨p, e, R, s, m⟩, ⟨args, below, meth, c⟩, ⟨nL, cells, slots, Z⟩⟩ := X
  obtain ⟨hd, rfl⟩ := d
  intro hC H locs lsA hP hS hl
  have hx := hC.1
  have hb := hC.2.1
  exact lv_iload hx hb hd (hl.2.2.1 i _ h) (k hC H locs lsA hP hS hl)
theorem S_iload_n {i : Nat} {q : Fin 4} {x : Int} (d : DI cc pc (.iload_n q) 1 nx) (hq : (q : Nat) = i) (h : ls[i]? = some (some (vi x))) (k : SW g X own cc nx ls ((vi x) :: st) V) : SW g X own cc pc ls st V := by
  obtain ⟨⟨p, e, R, s, m⟩, ⟨args, below, meth, c⟩, ⟨nL, cells, slots, Z⟩⟩ := X
  obtain ⟨hd, rfl⟩ := d
  intro hC H locs lsA hP hS hl
  have hx := hC.1
  have hb := hC.2.1
  exact lv_iload_n hx hb hd hq (hl.2.2.1 i _ h) (k hC H locs lsA hP hS hl)
theorem S_aload {i : Nat} {x : Nat} (d : DI cc pc (.aload i) 2 nx) (h : ls[i]? = some (some (vr x))) (k : SW g X own cc nx ls ((vr x) :: st) V) : SW g X own cc pc ls st V := by
  obtain ⟨⟨p, e, R, s, m⟩, ⟨args, below, meth, c⟩, ⟨nL, cells, slots, Z⟩⟩ := X
  obtain ⟨hd, rfl⟩ := d
  intro hC H locs lsA hP hS hl
  have hx := hC.1
  have hb := hC.2.1
  exact lv_aload hx hb hd (hl.2.2.1 i _ h) (k hC H locs lsA hP hS hl)
theorem S_aload_n {i : Nat} {q : Fin 4} {x : Nat} (d : DI cc pc (.aload_n q) 1 nx) (hq : (q : Nat) = i) (h : ls[i]? = some (some (vr x))) (k : SW g X own cc nx ls ((vr x) :: st) V) : SW g X own cc pc ls st V := by
  obtain ⟨⟨p, e, R, s, m⟩, ⟨args, below, meth, c⟩, ⟨nL, cells, slots, Z⟩⟩ := X
  obtain ⟨hd, rfl⟩ := d
  intro hC H locs lsA hP hS hl
  have hx := hC.1
  have hb := hC.2.1
  exact lv_aload_n hx hb hd hq (hl.2.2.1 i _ h) (k hC H locs lsA hP hS hl)
theorem S_lload {i : Nat} {x : Int} (d : DI cc pc (.lload i) 2 nx) (h : ls[i]? = some (some (vl x))) (k : SW g X own cc nx ls ((vl x) :: st) V) : SW g X own cc pc ls st V := by
  obtain ⟨⟨p, e, R, s, m⟩, ⟨args, below, meth, c⟩, ⟨nL, cells, slots, Z⟩⟩ := X
  obtain ⟨hd, rfl⟩ := d
  intro hC H locs lsA hP hS hl
  have hx := hC.1
  have hb := hC.2.1
  exact lv_lload hx hb hd (hl.2.2.1 i _ h) (k hC H locs lsA hP hS hl)
theorem S_lload_n {i : Nat} {q : Fin 4} {x : Int} (d : DI cc pc (.lload_n q) 1 nx) (hq : (q : Nat) = i) (h : ls[i]? = some (some (vl x))) (k : SW g X own cc nx ls ((vl x) :: st) V) : SW g X own cc pc ls st V := by
  obtain ⟨⟨p, e, R, s, m⟩, ⟨args, below, meth, c⟩, ⟨nL, cells, slots, Z⟩⟩ := X
  obtain ⟨hd, rfl⟩ := d
  intro hC H locs lsA hP hS hl
  have hx := hC.1
  have hb := hC.2.1
  exact lv_lload_n hx hb hd hq (hl.2.2.1 i _ h) (k hC H locs lsA hP hS hl)
/-- the locals as a list of pairs -/
def alA (g : GC) (ls : List (Option AV)) : List (Nat × Value) := (List.range ls.length).filterMap (fun i => match ls[i]? with
  | some (some v) => some (i, cv g v)
  | _ => none)
theorem alA_in {g : GC} {ls : List (Option AV)} {i : Nat} {v : AV} (h : ls[i]? = some (some v)) : (i, cv g v) ∈ alA g ls := by
  refine List.mem_filterMap.mpr ⟨i, List.mem_range.mpr (List.getElem?_eq_some_iff.mp h).1, ?_⟩
  simp only [h]
theorem alA_of {g : GC} {ls : List (Option AV)} {q : Nat × Value} (h : q ∈ alA g ls) : ∃ v, ls[q.1]? = some (some v) ∧ q.2 = cv g v := by
  obtain ⟨i, -, hi⟩ := List.mem_filterMap.mp h
  cases hv : ls[i]? with
  | none => simp [hv] at hi
  | some o =>
    cases o with
    | none => simp [hv] at hi
    | some v =>
      simp only [hv] at hi
      cases hi
      exact ⟨v, hv, rfl⟩
theorem lok_has {g : GC} {lsA : Array Slot} {nL : Nat} {ls : List (Option AV)} (h : lok g lsA nL ls) : lv_has lsA nL (alA g ls) := ⟨h.1, h.2.1, fun q hq => by
  obtain ⟨v, h1, h2⟩ := alA_of hq
  rw [h2]
  exact h.2.2.1 _ v h1⟩
theorem nl_cat {v : AV} (h : nl (some (some v))) : ¬ (cv g v).category = 2 := by rw [cv_cat1 h]; decide
theorem lok_st1 {lsA lsB : Array Slot} {nL i : Nat} {v : AV} (h : lv_has lsB nL ((i, cv g v) :: (alA g ls).filter (fun q => !(q.1 == i) && !(q.1 + 1 == i && q.2.category == 2)))) (hi : i < ls.length) (hn : 0 < i → nl ls[i - 1]?) (hlen : ls.length ≤ nL) : lok g lsB nL (ls.set i (some v)) := by
  refine ⟨h.1, h.2.1, fun j w hj => ?_, by rw [List.length_set]; exact hlen⟩
  by_cases e : j = i
  · subst e
    rw [List.getElem?_set, if_pos rfl, if_pos hi] at hj
    cases hj
    exact h.2.2 _ List.mem_cons_self
  · rw [List.getElem?_set, if_neg (Ne.symm e)] at hj
    refine h.2.2 (j, cv g w) (List.mem_cons_of_mem _ (List.mem_filter.mpr ⟨alA_in hj, ?_⟩))
    simp only [Bool.and_eq_true, Bool.not_eq_true', beq_eq_false_iff_ne, ne_eq, Bool.and_eq_false_iff]
    refine ⟨e, ?_⟩
    by_cases e2 : j + 1 = i
    · refine Or.inr (nl_cat ?_)
      have h3 := hn (by omega)
      have : i - 1 = j := by omega
      rw [this, hj] at h3
      exact h3
    · exact Or.inl e2
theorem lok_st2 {lsA lsB : Array Slot} {nL i : Nat} {v : AV} (h : lv_has lsB nL ((i, cv g v) :: (alA g ls).filter (fun q => !(q.1 == i) && (!(q.1 == i + 1) && !(q.1 + 1 == i && q.2.category == 2))))) (hi : i + 1 < ls.length) (hn : 0 < i → nl ls[i - 1]?) (hlen : ls.length ≤ nL) : lok g lsB nL ((ls.set i (some v)).set (i + 1) none) := by
  refine ⟨h.1, h.2.1, fun j w hj => ?_, by rw [List.length_set, List.length_set]; exact hlen⟩
  by_cases e1 : j = i + 1
  · subst e1
    rw [List.getElem?_set, if_pos rfl] at hj
    split at hj <;> cases hj
  rw [List.getElem?_set, if_neg (Ne.symm e1)] at hj
  by_cases e : j = i
  · subst e
    rw [List.getElem?_set, if_pos rfl, if_pos (by omega)] at hj
    cases hj
    exact h.2.2 _ List.mem_cons_self
  · rw [List.getElem?_set, if_neg (Ne.symm e)] at hj
    refine h.2.2 (j, cv g w) (List.mem_cons_of_mem _ (List.mem_filter.mpr ⟨alA_in hj, ?_⟩))
    simp only [Bool.and_eq_true, Bool.not_eq_true', beq_eq_false_iff_ne, ne_eq, Bool.and_eq_false_iff]
    refine ⟨e, e1, ?_⟩
    by_cases e2 : j + 1 = i
    · refine Or.inr (nl_cat ?_)
      have h3 := hn (by omega)
      have : i - 1 = j := by omega
      rw [this, hj] at h3
      exact h3
    · exact Or.inl e2
theorem lok_nl {lsA : Array Slot} {nL : Nat} (h : lok g lsA nL ls) {i : Nat} {v : AV} (hi : ls[i]? = some (some v)) : i < nL := by
  have := lv_lt (h.2.2.1 i v hi)
  have := h.1
  omega
theorem S_istore {i : Nat}  {x : Int} (d : DI cc pc (.istore i) 2 nx)  (hi : i < ls.length) (hn : 0 < i → nl ls[i - 1]?) (k : SW g X own cc nx (ls.set i (some (vi x))) st V) : SW g X own cc pc ls ((vi x) :: st) V := by
  obtain ⟨⟨p, e, R, s, m⟩, ⟨args, below, meth, c⟩, ⟨nL, cells, slots, Z⟩⟩ := X
  obtain ⟨hd, rfl⟩ := d
  intro hC H locs lsA hP hS hl
  have hx := hC.1
  have hb := hC.2.1
  exact lv_istore hx hb hd  (lok_has hl) (Nat.lt_of_lt_of_le hi hl.2.2.2) rfl (fun ls2 h2 => k hC H locs ls2 hP hS (lok_st1 (lsA := lsA) h2 hi hn hl.2.2.2))
theorem S_istore_n {i : Nat} {q : Fin 4} {x : Int} (d : DI cc pc (.istore_n q) 1 nx) (hq : (q : Nat) = i) (hi : i < ls.length) (hn : 0 < i → nl ls[i - 1]?) (k : SW g X own cc nx (ls.set i (some (vi x))) st V) : SW g X own cc pc ls ((vi x) :: st) V := by
  obtain ⟨⟨p, e, R, s, m⟩, ⟨args, below, meth, c⟩, ⟨nL, cells, slots, Z⟩⟩ := X
  obtain ⟨hd, rfl⟩ := d
  intro hC H locs lsA hP hS hl
  have hx := hC.1
  have hb := hC.2.1
  exact lv_istore_n hx hb hd hq (lok_has hl) (Nat.lt_of_lt_of_le hi hl.2.2.2) rfl (fun ls2 h2 => k hC H locs ls2 hP hS (lok_st1 (lsA := lsA) h2 hi hn hl.2.2.2))
theorem S_astore {i : Nat}  {x : Nat} (d : DI cc pc (.astore i) 2 nx)  (hi : i < ls.length) (hn : 0 < i → nl ls[i - 1]?) (k : SW g X own cc nx (ls.set i (some (vr x))) st V) : SW g X own cc pc ls ((vr x) :: st) V := by
  obtain ⟨⟨p, e, R, s, m⟩, ⟨args, below, meth, c⟩, ⟨nL, cells, slots, Z⟩⟩ := X
  obtain ⟨hd, rfl⟩ := d
  intro hC H locs lsA hP hS hl
  have hx := hC.1
  have hb := hC.2.1
  exact lv_astore hx hb hd  (lok_has hl) (Nat.lt_of_lt_of_le hi hl.2.2.2) rfl (fun ls2 h2 => k hC H locs ls2 hP hS (lok_st1 (lsA := lsA) h2 hi hn hl.2.2.2))
theorem S_astore_n {i : Nat} {q : Fin 4} {x : Nat} (d : DI cc pc (.astore_n q) 1 nx) (hq : (q : Nat) = i) (hi : i < ls.length) (hn : 0 < i → nl ls[i - 1]?) (k : SW g X own cc nx (ls.set i (some (vr x))) st V) : SW g X own cc pc ls ((vr x) :: st) V := by
  obtain ⟨⟨p, e, R, s, m⟩, ⟨args, below, meth, c⟩, ⟨nL, cells, slots, Z⟩⟩ := X
  obtain ⟨hd, rfl⟩ := d
  intro hC H locs lsA hP hS hl
  have hx := hC.1
  have hb := hC.2.1
  exact lv_astore_n hx hb hd hq (lok_has hl) (Nat.lt_of_lt_of_le hi hl.2.2.2) rfl (fun ls2 h2 => k hC H locs ls2 hP hS (lok_st1 (lsA := lsA) h2 hi hn hl.2.2.2))
theorem S_lstore {i : Nat}  {x : Int} (d : DI cc pc (.lstore i) 2 nx)  (hi : i + 1 < ls.length) (hn : 0 < i → nl ls[i - 1]?) (k : SW g X own cc nx ((ls.set i (some (vl x))).set (i + 1) none) st V) : SW g X own cc pc ls (vl x :: st) V := by
  obtain ⟨⟨p, e, R, s, m⟩, ⟨args, below, meth, c⟩, ⟨nL, cells, slots, Z⟩⟩ := X
  obtain ⟨hd, rfl⟩ := d
  intro hC H locs lsA hP hS hl
  have hx := hC.1
  have hb := hC.2.1
  exact lv_lstore hx hb hd  (lok_has hl) (Nat.lt_of_lt_of_le hi hl.2.2.2) rfl (fun ls2 h2 => k hC H locs ls2 hP hS (lok_st2 (lsA := lsA) h2 hi hn hl.2.2.2))
theorem S_lstore_n {i : Nat} {q : Fin 4} {x : Int} (d : DI cc pc (.lstore_n q) 1 nx) (hq : (q : Nat) = i) (hi : i + 1 < ls.length) (hn : 0 < i → nl ls[i - 1]?) (k : SW g X own cc nx ((ls.set i (some (vl x))).set (i + 1) none) st V) : SW g X own cc pc ls (vl x :: st) V := by
  obtain ⟨⟨p, e, R, s, m⟩, ⟨args, below, meth, c⟩, ⟨nL, cells, slots, Z⟩⟩ := X
  obtain ⟨hd, rfl⟩ := d
  intro hC H locs lsA hP hS hl
  have hx := hC.1
  have hb := hC.2.1
  exact lv_lstore_n hx hb hd hq (lok_has hl) (Nat.lt_of_lt_of_le hi hl.2.2.2) rfl (fun ls2 h2 => k hC H locs ls2 hP hS (lok_st2 (lsA := lsA) h2 hi hn hl.2.2.2))
theorem S_iinc {i : Nat} {n x : Int} (d : DI cc pc (.iinc i n) 3 nx) (h : ls[i]? = some (some (vi x))) (hn : 0 < i → nl ls[i - 1]?) (k : SW g X own cc nx (ls.set i (some (vi (x + n)))) st V) : SW g X own cc pc ls st V := by
  obtain ⟨⟨p, e, R, s, m⟩, ⟨args, below, meth, c⟩, ⟨nL, cells, slots, Z⟩⟩ := X
  obtain ⟨hd, rfl⟩ := d
  intro hC H locs lsA hP hS hl
  have hx := hC.1
  have hb := hC.2.1
  have hm := alA_in (g := g) h
  obtain ⟨k0, hk0⟩ := List.getElem?_of_mem hm
  exact lv_iinc (v := Int32.ofInt (x + n)) hx hb hd (lok_has hl) hk0 (io_add x n) (lok_nl hl h) rfl (fun ls2 h2 => k hC H locs ls2 hP hS (lok_st1 (lsA := lsA) (v := vi (x + n)) h2 (List.getElem?_eq_some_iff.mp h).1 hn hl.2.2.2))
end RU
end
section
set_option maxRecDepth 20000 in
theorem ly_X0 : ∀ w ∈ u_ws RX0 TX0 5, w ∈ Gs := by
  have h : u_ws RX0 TX0 5 = ([172, 174, 176, 178, 180] : List Nat).filterMap (fun i => tables_1[i]?) := by decide +kernel
  have h2 : (u_ws RX0 TX0 5).all goodWord = true := by decide +kernel
  intro w hw
  have h3 := List.all_eq_true.mp h2 w hw
  rw [h] at hw
  obtain ⟨i, -, hi⟩ := List.mem_filterMap.mp hw
  exact Gs_in hi h3
set_option maxRecDepth 20000 in
theorem ly_X1 : ∀ w ∈ u_ws RX1 TX1 9, w ∈ Gs := by
  have h : u_ws RX1 TX1 9 = ([120, 122, 124, 126, 128, 130, 132, 134, 136] : List Nat).filterMap (fun i => tables_1[i]?) := by decide +kernel
  have h2 : (u_ws RX1 TX1 9).all goodWord = true := by decide +kernel
  intro w hw
  have h3 := List.all_eq_true.mp h2 w hw
  rw [h] at hw
  obtain ⟨i, -, hi⟩ := List.mem_filterMap.mp hw
  exact Gs_in hi h3
set_option maxRecDepth 20000 in
theorem ly_X2 : ∀ w ∈ u_ws RX2 TX2 9, w ∈ Gs := by
  have h : u_ws RX2 TX2 9 = ([83, 85, 87, 89, 91, 93, 95, 97, 99] : List Nat).filterMap (fun i => tables_1[i]?) := by decide +kernel
  have h2 : (u_ws RX2 TX2 9).all goodWord = true := by decide +kernel
  intro w hw
  have h3 := List.all_eq_true.mp h2 w hw
  rw [h] at hw
  obtain ⟨i, -, hi⟩ := List.mem_filterMap.mp hw
  exact Gs_in hi h3
set_option maxRecDepth 20000 in
theorem ly_X3 : ∀ w ∈ u_ws RX3 TX3 7, w ∈ Gs := by
  have h : u_ws RX3 TX3 7 = ([42, 44, 46, 48, 50, 52, 54] : List Nat).filterMap (fun i => tables_1[i]?) := by decide +kernel
  have h2 : (u_ws RX3 TX3 7).all goodWord = true := by decide +kernel
  intro w hw
  have h3 := List.all_eq_true.mp h2 w hw
  rw [h] at hw
  obtain ⟨i, -, hi⟩ := List.mem_filterMap.mp hw
  exact Gs_in hi h3
set_option maxRecDepth 20000 in
theorem ly_X4 : ∀ w ∈ u_ws RX4 TX4 3, w ∈ Gs := by
  have h : u_ws RX4 TX4 3 = ([151, 153, 155] : List Nat).filterMap (fun i => tables_1[i]?) := by decide +kernel
  have h2 : (u_ws RX4 TX4 3).all goodWord = true := by decide +kernel
  intro w hw
  have h3 := List.all_eq_true.mp h2 w hw
  rw [h] at hw
  obtain ⟨i, -, hi⟩ := List.mem_filterMap.mp hw
  exact Gs_in hi h3
set_option maxRecDepth 20000 in
theorem ly_X5 : ∀ w ∈ u_ws RX5 TX5 3, w ∈ Gs := by
  have h : u_ws RX5 TX5 3 = ([196, 198, 200] : List Nat).filterMap (fun i => tables_1[i]?) := by decide +kernel
  have h2 : (u_ws RX5 TX5 3).all goodWord = true := by decide +kernel
  intro w hw
  have h3 := List.all_eq_true.mp h2 w hw
  rw [h] at hw
  obtain ⟨i, -, hi⟩ := List.mem_filterMap.mp hw
  exact Gs_in hi h3
set_option maxRecDepth 20000 in
theorem ly_X6 : ∀ w ∈ u_ws RX6 TX6 12, w ∈ Gs := by
  have h : u_ws RX6 TX6 12 = ([216, 218, 220, 222, 224, 226, 228, 230, 232, 234, 236, 238] : List Nat).filterMap (fun i => tables_1[i]?) := by decide +kernel
  have h2 : (u_ws RX6 TX6 12).all goodWord = true := by decide +kernel
  intro w hw
  have h3 := List.all_eq_true.mp h2 w hw
  rw [h] at hw
  obtain ⟨i, -, hi⟩ := List.mem_filterMap.mp hw
  exact Gs_in hi h3
set_option maxRecDepth 20000 in
theorem ly_X7 : ∀ w ∈ u_ws RX7 TX7 64, w ∈ Gs := by
  have h : u_ws RX7 TX7 64 = ([866, 868, 870, 872, 874, 876, 878, 880, 882, 884, 886, 888, 890, 892, 894, 896, 898, 900, 902, 904, 906, 908, 910, 912, 914, 916, 918, 920, 922, 924, 926, 928, 930, 932, 934, 936, 938, 940, 942, 944, 946, 948, 950, 952, 954, 956, 958, 960, 962, 964, 966, 968, 970, 972, 974, 976, 978, 980, 982, 984, 986, 988, 990, 992] : List Nat).filterMap (fun i => tables_1[i]?) := by decide +kernel
  have h2 : (u_ws RX7 TX7 64).all goodWord = true := by decide +kernel
  intro w hw
  have h3 := List.all_eq_true.mp h2 w hw
  rw [h] at hw
  obtain ⟨i, -, hi⟩ := List.mem_filterMap.mp hw
  exact Gs_in hi h3
theorem ly_all {ci : Nat} {q : vw_C} (h : qcl[ci]? = some q) : (∀ w ∈ u_ws q.1 q.2.1 q.2.2, w ∈ Gs) ∧ (∀ a, a < q.2.2 → ∀ b, b < q.2.2 → a ≠ b → (q.2.1 a).2.1 ≠ (q.2.1 b).2.1) ∧ ∃ ty : Nat → FieldType, ∀ k, k < q.2.2 → parseFieldDescriptor (q.2.1 k).2.2.1 = some (ty k) := by
  match ci, h with
  | 0, h => cases h; exact ⟨ly_X0, nmX0, tyX0, tyX0_ok⟩
  | 1, h => cases h; exact ⟨ly_X1, nmX1, tyX1, tyX1_ok⟩
  | 2, h => cases h; exact ⟨ly_X2, nmX2, tyX2, tyX2_ok⟩
  | 3, h => cases h; exact ⟨ly_X3, nmX3, tyX3, tyX3_ok⟩
  | 4, h => cases h; exact ⟨ly_X4, nmX4, tyX4, tyX4_ok⟩
  | 5, h => cases h; exact ⟨ly_X5, nmX5, tyX5, tyX5_ok⟩
  | 6, h => cases h; exact ⟨ly_X6, nmX6, tyX6, tyX6_ok⟩
  | 7, h => cases h; exact ⟨ly_X7, nmX7, tyX7, tyX7_ok⟩
  | n + 8, h => simp [qcl] at h
def fk (k j : Nat) : Option (Nat × Nat × Nat) := match sh k with
  | .inl o => o.2[j]?.map (fun q => (o.1, q))
  | .inr _ => none
def ak (k : Nat) : Option (Nat × Nat) := match sh k with
  | .inl _ => none
  | .inr a => some a
def ok (k : Nat) : Option Nat := match sh k with
  | .inl o => if k < qN then some o.1 else none
  | .inr _ => none
theorem shT_len : shT.length = qN := by decide +kernel
theorem sh_big {k : Nat} (h : ¬ k < qN) : sh k = .inl (0, []) := by
  unfold sh
  rw [List.getD_eq_getElem?_getD, List.getElem?_eq_none (by rw [shT_len]; omega)]
  rfl
theorem fk_lt {k j : Nat} {x : Nat × Nat × Nat} (h : fk k j = some x) : k < qN := by
  by_cases hk : k < qN
  · exact hk
  · unfold fk at h
    rw [sh_big hk] at h
    simp at h
theorem ak_lt {k : Nat} {x : Nat × Nat} (h : ak k = some x) : k < qN := by
  by_cases hk : k < qN
  · exact hk
  · unfold ak at h
    rw [sh_big hk] at h
    simp at h
theorem ok_lt {k : Nat} {x : Nat} (h : ok k = some x) : k < qN := by
  unfold ok at h
  split at h
  · by_cases hk : k < qN
    · exact hk
    · rw [if_neg hk] at h; cases h
  · cases h
theorem ak_small {k : Nat} {x : Nat × Nat} (h : ak k = some x) : x.2 < 2147483648 ∧ x.1 < 6 := by
  have hk := ak_lt h
  have h1 : ∀ k, k < qN → ∀ a, sh k = .inr a → a.2 < 2147483648 ∧ a.1 < 6 := by
    have h2 : ((List.range qN).all (fun k => match sh k with | .inl _ => true | .inr a => decide (a.2 < 2147483648 ∧ a.1 < 6))) = true := by decide +kernel
    intro k hk a ha
    have h3 := List.all_eq_true.mp h2 k (List.mem_range.mpr hk)
    rw [ha] at h3
    simpa using h3
  unfold ak at h
  split at h
  · cases h
  · rename_i a ha
    cases h
    exact h1 k hk _ ha
def FL (own : String) (idx ci j : Nat) : Prop := ∃ q : vw_C, qcl[ci]? = some q ∧ j < q.2.2 ∧ (Cond.fieldLink own idx (q.2.1 j).1 (q.2.1 j).2.1 (q.2.1 j).2.2.1 ∈ Gs ∨ ∃ host, Cond.fieldLinkNest own idx (q.2.1 j).1 (q.2.1 j).2.1 (q.2.1 j).2.2.1 host ∈ Gs)
def FT (ci j : Nat) (ty : FieldType) : Prop := ∃ q : vw_C, qcl[ci]? = some q ∧ (q.2.1 j).2.2.2 = false ∧ parseFieldDescriptor (q.2.1 j).2.2.1 = some ty
theorem ent_o {g : GC} {V : MM} {k : Nat} {o : Nat × List (Nat × Nat)} (h : sh k = .inl o) : ent g V k = .inr (o.1, o.2.mapIdx (fun j q => fval g q (V k (j : Int)))) := by
  unfold ent
  rw [h]
  rfl
theorem ent_a {g : GC} {V : MM} {k : Nat} {a : Nat × Nat} (h : ak k = some a) : sh k = .inr a ∧ ent g V k = .inl (g.2.2.2.2 a.1, a.2, cont g a.1 (V k)) := by
  unfold ak at h
  split at h
  · cases h
  · rename_i b hb
    cases h
    refine ⟨hb, ?_⟩
    unfold ent
    rw [hb]
    rfl
theorem fk_o {k j : Nat} {x : Nat × Nat × Nat} (h : fk k j = some x) : ∃ o, sh k = .inl o ∧ o.1 = x.1 ∧ o.2[j]? = some x.2 := by
  unfold fk at h
  split at h
  · rename_i o ho
    cases hj : o.2[j]? with
    | none => rw [hj] at h; cases h
    | some q =>
      rw [hj] at h
      cases h
      exact ⟨o, ho, rfl, hj⟩
  · cases h
theorem ml_set (g : GC) (l : List (Nat × Nat)) (row : Int → Int) {j : Nat} {q : Nat × Nat} (x : Int) (hj : l[j]? = some q) : (l.mapIdx (fun i q => fval g q (row (i : Int)))).set j (fval g q x) = l.mapIdx (fun i q => fval g q (ur row (j : Int) x (i : Int))) := by
  apply List.ext_getElem?
  intro i
  rw [List.getElem?_set]
  by_cases e : j = i
  · subst e
    have hl : j < l.length := (List.getElem?_eq_some_iff.mp hj).1
    rw [if_pos rfl, if_pos (by rw [List.length_mapIdx]; exact hl), List.getElem?_mapIdx, hj]
    simp [ur]
  · rw [if_neg e, List.getElem?_mapIdx, List.getElem?_mapIdx]
    cases l[i]? with
    | none => rfl
    | some q => 
      have : ¬ (i : Int) = (j : Int) := by omega
      simp [ur, this]
section RM
variable {g : GC} {X : CX} {own : String} {cc : ByteArray} {pc nx tgt : Nat} {ls : List (Option AV)} {st : List AV} {V : MM}
/-- any field -/
theorem S_get {idx ci j k : Nat} {q : Nat × Nat} (d : DI cc pc (.getfield idx) 3 nx) (hf : FL own idx ci j) (hk : fk k j = some (ci, q)) {v : AV} (hv : fval g q (V k (j : Int)) = cv g v) (K : SW g X own cc nx ls (v :: st) V) : SW g X own cc pc ls (vr k :: st) V := by
  obtain ⟨⟨p, e, R, s, m⟩, ⟨args, below, meth, c⟩, ⟨nL, cells, slots, Z⟩⟩ := X
  obtain ⟨hd, rfl⟩ := d
  intro hC H locs lsA hP hS hl
  obtain ⟨hx, hb, hml, hown, hts, hW, hR⟩ := id hC
  have hkl := fk_lt hk
  obtain ⟨o, ho1, ho2, ho3⟩ := fk_o hk
  obtain ⟨⟨C, T, N⟩, hq, hj, hlink⟩ := hf
  obtain ⟨hin, -, -⟩ := ly_all hq
  have he : (wl g V)[k]? = some (g.2.2.1 k, .inr (ci, o.2.mapIdx (fun j q => fval g q (V k (j : Int))))) := by
    rw [wl_at g V hkl, ent_o ho1, ho2]
  have hv2 : (o.2.mapIdx (fun j q => fval g q (V k (j : Int))))[j]? = some (cv g v) := by
    rw [List.getElem?_mapIdx, ho3, ← hv]
    rfl
  rcases hlink with hl1 | ⟨host, hl1⟩
  · exact va_get hx hb hts hin hown hW.2.1 hP k he hq j hj (hts _ hl1) (fun _ h => h) hv2 hd (K hC H locs lsA hP hS hl)
  · exact va_getN hx hb hts hin hown hW.2.1 hP k he hq j hj (hts _ hl1) (fun _ h => h) hv2 hd (K hC H locs lsA hP hS hl)
theorem S_getI {idx ci j k t : Nat} (d : DI cc pc (.getfield idx) 3 nx) (hf : FL own idx ci j) (hk : fk k j = some (ci, 0, t)) (K : SW g X own cc nx ls (vi (V k (j : Int)) :: st) V) : SW g X own cc pc ls (vr k :: st) V := S_get d hf hk rfl K
theorem S_getR {idx ci j k t : Nat} (d : DI cc pc (.getfield idx) 3 nx) (hf : FL own idx ci j) (hk : fk k j = some (ci, 1, t)) (K : SW g X own cc nx ls (vr t :: st) V) : SW g X own cc pc ls (vr k :: st) V := S_get d hf hk rfl K
theorem S_getH {idx ci j k t : Nat} (d : DI cc pc (.getfield idx) 3 nx) (hf : FL own idx ci j) (hk : fk k j = some (ci, 2, t)) (K : SW g X own cc nx ls (vr (V k (j : Int)).toNat :: st) V) : SW g X own cc pc ls (vr k :: st) V := S_get d hf hk rfl K
theorem S_put {idx ci j k : Nat} {q : Nat × Nat} {ty : FieldType} {v : AV} {x : Int} (d : DI cc pc (.putfield idx) 3 nx) (hf : FL own idx ci j) (hk : fk k j = some (ci, q)) (hty : FT ci j ty) (hv : fval g q x = cv g v) (hn : narrow ty (cv g v) = cv g v) (hfit : fits ty (cv g v) = true) (K : SW g X own cc nx ls st (upR V k (ur (V k) (j : Int) x))) : SW g X own cc pc ls (v :: vr k :: st) V := by
  obtain ⟨⟨p, e, R, s, m⟩, ⟨args, below, meth, c⟩, ⟨nL, cells, slots, Z⟩⟩ := X
  obtain ⟨hd, rfl⟩ := d
  intro hC H locs lsA hP hS hl
  obtain ⟨hx, hb, hml, hown, hts, hW, hR⟩ := id hC
  have hkl := fk_lt hk
  obtain ⟨o, ho1, ho2, ho3⟩ := fk_o hk
  obtain ⟨⟨C, T, N⟩, hq, hj, hlink⟩ := hf
  obtain ⟨hin, hnm, ty0, hty0⟩ := ly_all hq
  obtain ⟨q2, hq2, hfin, hd2⟩ := hty
  cases hq.symm.trans hq2
  have he : (wl g V)[k]? = some (g.2.2.1 k, .inr (ci, o.2.mapIdx (fun j q => fval g q (V k (j : Int))))) := by
    rw [wl_at g V hkl, ent_o ho1, ho2]
  have hlen : j < (o.2.mapIdx (fun j q => fval g q (V k (j : Int)))).length := by
    rw [List.length_mapIdx]
    exact (List.getElem?_eq_some_iff.mp ho3).1
  have hset : (wl g V).set k (g.2.2.1 k, .inr (ci, (o.2.mapIdx (fun j q => fval g q (V k (j : Int)))).set j (cv g v))) = wl g (upR V k (ur (V k) (j : Int) x)) := by
    rw [← wl_set g V hkl (ur (V k) (j : Int) x), ho1, ← hv, ml_set g o.2 (V k) x ho3, ← show o.1 = ci from ho2]
    rfl
  rcases hlink with hl1 | ⟨host, hl1⟩
  · exact va_put hx hb hts hin ty0 hty0 hnm hown hW.2.1 hP (wl_D hW.1 V) hS k he hq j hj (hts _ hl1) (fun _ h => h) hfin hd2 hn hfit hlen hd (fun H1 locs1 hP1 _ hS1 => K hC H1 locs1 lsA (hset ▸ hP1) hS1 hl)
  · exact va_putN hx hb hts hin ty0 hty0 hnm hown hW.2.1 hP (wl_D hW.1 V) hS k he hq j hj (hts _ hl1) (fun _ h => h) hfin hd2 hn hfit hlen hd (fun H1 locs1 hP1 _ hS1 => K hC H1 locs1 lsA (hset ▸ hP1) hS1 hl)
theorem S_putI {idx ci j k t : Nat} {x : Int} (d : DI cc pc (.putfield idx) 3 nx) (hf : FL own idx ci j) (hk : fk k j = some (ci, 0, t)) (hty : FT ci j .int) (K : SW g X own cc nx ls st (upR V k (ur (V k) (j : Int) x))) : SW g X own cc pc ls (vi x :: vr k :: st) V := S_put d hf hk hty rfl rfl rfl K
theorem S_putZ {idx ci j k t : Nat} {x : Int} (d : DI cc pc (.putfield idx) 3 nx) (hf : FL own idx ci j) (hk : fk k j = some (ci, 0, t)) (hty : FT ci j .boolean) (h01 : x = 0 ∨ x = 1 := by omega) (K : SW g X own cc nx ls st (upR V k (ur (V k) (j : Int) x))) : SW g X own cc pc ls (vi x :: vr k :: st) V := S_put d hf hk hty rfl (by rcases h01 with rfl | rfl <;> rfl) (by rcases h01 with rfl | rfl <;> rfl) K
theorem S_putH {idx ci j k t h : Nat} {C : String} (d : DI cc pc (.putfield idx) 3 nx) (hf : FL own idx ci j) (hk : fk k j = some (ci, 2, t)) (hty : FT ci j (.object C)) (K : SW g X own cc nx ls st (upR V k (ur (V k) (j : Int) (h : Int)))) : SW g X own cc pc ls (vr h :: vr k :: st) V := S_put d hf hk hty rfl rfl rfl K
theorem qty_at {g : GC} {t : Nat} (h : t < 6) : ∃ ty, (qtys g)[t]? = some (g.2.2.2.2 t, ty) := by
  match t, h with
  | 0, _ => exact ⟨_, rfl⟩
  | 1, _ => exact ⟨_, rfl⟩
  | 2, _ => exact ⟨_, rfl⟩
  | 3, _ => exact ⟨_, rfl⟩
  | 4, _ => exact ⟨_, rfl⟩
  | 5, _ => exact ⟨_, rfl⟩
theorem S_alen {k : Nat} {a : Nat × Nat} (d : DI cc pc .arraylength 1 nx) (hk : ak k = some a) (K : SW g X own cc nx ls (vi (a.2 : Int) :: st) V) : SW g X own cc pc ls (vr k :: st) V := by
  obtain ⟨⟨p, e, R, s, m⟩, ⟨args, below, meth, c⟩, ⟨nL, cells, slots, Z⟩⟩ := X
  obtain ⟨hd, rfl⟩ := d
  intro hC H locs lsA hP hS hl
  obtain ⟨hx, hb, hml, hown, hts, hW, hR⟩ := id hC
  have hkl := ak_lt hk
  obtain ⟨ty, hty⟩ := qty_at (g := g) (ak_small hk).2
  have he : (wl g V)[k]? = some (g.2.2.1 k, .inl (g.2.2.2.2 a.1, a.2, cont g a.1 (V k))) := by rw [wl_at g V hkl, (ent_a hk).2]
  exact va_alen hx hb hW.2.1 hP k a.1 he hty Int32.ofInt_eq_ofNat.symm hd (K hC H locs lsA hP hS hl)
theorem S_iald {k n : Nat} {i : Int} (d : DI cc pc .iaload 1 nx) (hk : ak k = some (0, n)) (h0 : 0 ≤ i ∧ i < n := by omega) (K : SW g X own cc nx ls (vi (V k i) :: st) V) : SW g X own cc pc ls (vi i :: vr k :: st) V := by
  obtain ⟨⟨p, e, R, s, m⟩, ⟨args, below, meth, c⟩, ⟨nL, cells, slots, Z⟩⟩ := X
  obtain ⟨hd, rfl⟩ := d
  intro hC H locs lsA hP hS hl
  obtain ⟨hx, hb, hml, hown, hts, hW, hR⟩ := id hC
  have hkl := ak_lt hk
  have hn := (ak_small hk).1
  have he : (wl g V)[k]? = some (g.2.2.1 k, .inl (g.2.2.2.2 0, n, .inl (fun j => Int32.ofInt (V k (j : Int))))) := by rw [wl_at g V hkl, (ent_a hk).2]; rfl
  have hc : (Int32.ofInt i).toNatClampNeg = i.toNat := io_cl (by simp at hn; omega)
  refine va_iald (f := fun j => Int32.ofInt (V k (j : Int))) hx hb hW.2.1 hP k 0 he rfl (io_in h0.1 h0.2 hn) hd ?_
  show W p g.1 e R s m args below meth c H locs cells slots Z (F0 m (pc + 1) lsA (.int (Int32.ofInt (V k ((Int32.ofInt i).toNatClampNeg : Int))) :: st.map (cv g)))
  rw [hc, Int.toNat_of_nonneg h0.1]
  exact K hC H locs lsA hP hS hl
theorem S_bald {k n : Nat} {i : Int} (d : DI cc pc .baload 1 nx) (hk : ak k = some (2, n)) (h0 : 0 ≤ i ∧ i < n := by omega) (K : SW g X own cc nx ls (vi (V k i) :: st) V) : SW g X own cc pc ls (vi i :: vr k :: st) V := by
  obtain ⟨⟨p, e, R, s, m⟩, ⟨args, below, meth, c⟩, ⟨nL, cells, slots, Z⟩⟩ := X
  obtain ⟨hd, rfl⟩ := d
  intro hC H locs lsA hP hS hl
  obtain ⟨hx, hb, hml, hown, hts, hW, hR⟩ := id hC
  have hkl := ak_lt hk
  have hn := (ak_small hk).1
  have he : (wl g V)[k]? = some (g.2.2.1 k, .inl (g.2.2.2.2 2, n, .inl (fun j => Int32.ofInt (V k (j : Int))))) := by rw [wl_at g V hkl, (ent_a hk).2]; rfl
  have hc : (Int32.ofInt i).toNatClampNeg = i.toNat := io_cl (by simp at hn; omega)
  refine va_zald (f := fun j => Int32.ofInt (V k (j : Int))) hx hb hW.2.1 hP k 2 he rfl (io_in h0.1 h0.2 hn) hd ?_
  show W p g.1 e R s m args below meth c H locs cells slots Z (F0 m (pc + 1) lsA (.int (Int32.ofInt (V k ((Int32.ofInt i).toNatClampNeg : Int))) :: st.map (cv g)))
  rw [hc, Int.toNat_of_nonneg h0.1]
  exact K hC H locs lsA hP hS hl
theorem S_cald {k n : Nat} {i : Int} (d : DI cc pc .caload 1 nx) (hk : ak k = some (3, n)) (h0 : 0 ≤ i ∧ i < n := by omega) (K : SW g X own cc nx ls (vi (V k i) :: st) V) : SW g X own cc pc ls (vi i :: vr k :: st) V := by
  obtain ⟨⟨p, e, R, s, m⟩, ⟨args, below, meth, c⟩, ⟨nL, cells, slots, Z⟩⟩ := X
  obtain ⟨hd, rfl⟩ := d
  intro hC H locs lsA hP hS hl
  obtain ⟨hx, hb, hml, hown, hts, hW, hR⟩ := id hC
  have hkl := ak_lt hk
  have hn := (ak_small hk).1
  have he : (wl g V)[k]? = some (g.2.2.1 k, .inl (g.2.2.2.2 3, n, .inl (fun j => Int32.ofInt (V k (j : Int))))) := by rw [wl_at g V hkl, (ent_a hk).2]; rfl
  have hc : (Int32.ofInt i).toNatClampNeg = i.toNat := io_cl (by simp at hn; omega)
  refine va_cald (f := fun j => Int32.ofInt (V k (j : Int))) hx hb hW.2.1 hP k 3 he rfl (io_in h0.1 h0.2 hn) hd ?_
  show W p g.1 e R s m args below meth c H locs cells slots Z (F0 m (pc + 1) lsA (.int (Int32.ofInt (V k ((Int32.ofInt i).toNatClampNeg : Int))) :: st.map (cv g)))
  rw [hc, Int.toNat_of_nonneg h0.1]
  exact K hC H locs lsA hP hS hl
theorem S_lald {k n : Nat} {i : Int} (d : DI cc pc .laload 1 nx) (hk : ak k = some (1, n)) (h0 : 0 ≤ i ∧ i < n := by omega) (K : SW g X own cc nx ls (vl (V k i) :: st) V) : SW g X own cc pc ls (vi i :: vr k :: st) V := by
  obtain ⟨⟨p, e, R, s, m⟩, ⟨args, below, meth, c⟩, ⟨nL, cells, slots, Z⟩⟩ := X
  obtain ⟨hd, rfl⟩ := d
  intro hC H locs lsA hP hS hl
  obtain ⟨hx, hb, hml, hown, hts, hW, hR⟩ := id hC
  have hkl := ak_lt hk
  have hn := (ak_small hk).1
  have he : (wl g V)[k]? = some (g.2.2.1 k, .inl (g.2.2.2.2 1, n, .inr (.inl (fun j => Int64.ofInt (V k (j : Int)))))) := by rw [wl_at g V hkl, (ent_a hk).2]; rfl
  have hc : (Int32.ofInt i).toNatClampNeg = i.toNat := io_cl (by simp at hn; omega)
  refine va_lald (f := fun j => Int64.ofInt (V k (j : Int))) hx hb hW.2.1 hP k 1 he rfl (io_in h0.1 h0.2 hn) hd ?_
  show W p g.1 e R s m args below meth c H locs cells slots Z (F0 m (pc + 1) lsA (.long (Int64.ofInt (V k ((Int32.ofInt i).toNatClampNeg : Int))) :: st.map (cv g)))
  rw [hc, Int.toNat_of_nonneg h0.1]
  exact K hC H locs lsA hP hS hl
theorem S_aaldH {k n : Nat} {i : Int} (d : DI cc pc .aaload 1 nx) (hk : ak k = some (4, n)) (h0 : 0 ≤ i ∧ i < n := by omega) (K : SW g X own cc nx ls (vr (47 + 4 * i.toNat) :: st) V) : SW g X own cc pc ls (vi i :: vr k :: st) V := by
  obtain ⟨⟨p, e, R, s, m⟩, ⟨args, below, meth, c⟩, ⟨nL, cells, slots, Z⟩⟩ := X
  obtain ⟨hd, rfl⟩ := d
  intro hC H locs lsA hP hS hl
  obtain ⟨hx, hb, hml, hown, hts, hW, hR⟩ := id hC
  have hkl := ak_lt hk
  have hn := (ak_small hk).1
  have he : (wl g V)[k]? = some (g.2.2.1 k, .inl (g.2.2.2.2 4, n, .inr (.inr (.inr (.inr (fun j => some (g.2.2.1 (47 + 4 * j)))))))) := by rw [wl_at g V hkl, (ent_a hk).2]; rfl
  have hc : (Int32.ofInt i).toNatClampNeg = i.toNat := io_cl (by simp at hn; omega)
  refine va_aldq (f := fun j => some (g.2.2.1 (47 + 4 * j))) hx hb hW.2.1 hP k 4 he rfl (io_in h0.1 h0.2 hn) hd ?_
  show W p g.1 e R s m args below meth c H locs cells slots Z (F0 m (pc + 1) lsA (.ref (g.2.2.1 (47 + 4 * (Int32.ofInt i).toNatClampNeg)) :: st.map (cv g)))
  rw [hc]
  exact K hC H locs lsA hP hS hl
theorem S_aaldT {k n : Nat} {i : Int} (d : DI cc pc .aaload 1 nx) (hk : ak k = some (5, n)) (h0 : 0 ≤ i ∧ i < n := by omega) (K : SW g X own cc nx ls (vr (71 + 2 * i.toNat) :: st) V) : SW g X own cc pc ls (vi i :: vr k :: st) V := by
  obtain ⟨⟨p, e, R, s, m⟩, ⟨args, below, meth, c⟩, ⟨nL, cells, slots, Z⟩⟩ := X
  obtain ⟨hd, rfl⟩ := d
  intro hC H locs lsA hP hS hl
  obtain ⟨hx, hb, hml, hown, hts, hW, hR⟩ := id hC
  have hkl := ak_lt hk
  have hn := (ak_small hk).1
  have he : (wl g V)[k]? = some (g.2.2.1 k, .inl (g.2.2.2.2 5, n, .inr (.inr (.inr (.inr (fun j => some (g.2.2.1 (71 + 2 * j)))))))) := by rw [wl_at g V hkl, (ent_a hk).2]; rfl
  have hc : (Int32.ofInt i).toNatClampNeg = i.toNat := io_cl (by simp at hn; omega)
  refine va_aldq (f := fun j => some (g.2.2.1 (71 + 2 * j))) hx hb hW.2.1 hP k 5 he rfl (io_in h0.1 h0.2 hn) hd ?_
  show W p g.1 e R s m args below meth c H locs cells slots Z (F0 m (pc + 1) lsA (.ref (g.2.2.1 (71 + 2 * (Int32.ofInt i).toNatClampNeg)) :: st.map (cv g)))
  rw [hc]
  exact K hC H locs lsA hP hS hl
theorem up_ur (row : Int → Int) {i : Int} (h : 0 ≤ i) (x : Int) : upd (fun j : Nat => Int32.ofInt (row (j : Int))) i.toNat (Int32.ofInt x) = fun j : Nat => Int32.ofInt (ur row i x (j : Int)) := by
  funext j
  unfold upd ur
  by_cases e : j = i.toNat
  · rw [if_pos e, if_pos (by omega)]
  · rw [if_neg e, if_neg (by omega)]
theorem upL_ur (row : Int → Int) {i : Int} (h : 0 ≤ i) (x : Int) : vp_updL (fun j : Nat => Int64.ofInt (row (j : Int))) i.toNat (Int64.ofInt x) = fun j : Nat => Int64.ofInt (ur row i x (j : Int)) := by
  funext j
  unfold vp_updL ur
  by_cases e : j = i.toNat
  · rw [if_pos e, if_pos (by omega)]
  · rw [if_neg e, if_neg (by omega)]
theorem S_iast {k n : Nat} {i x : Int} (d : DI cc pc .iastore 1 nx) (hk : ak k = some (0, n)) (h0 : 0 ≤ i ∧ i < n := by omega) (K : SW g X own cc nx ls st (upR V k (ur (V k) i x))) : SW g X own cc pc ls (vi x :: vi i :: vr k :: st) V := by
  obtain ⟨⟨p, e, R, s, m⟩, ⟨args, below, meth, c⟩, ⟨nL, cells, slots, Z⟩⟩ := X
  obtain ⟨hd, rfl⟩ := d
  intro hC H locs lsA hP hS hl
  obtain ⟨hx, hb, hml, hown, hts, hW, hR⟩ := id hC
  have hkl := ak_lt hk
  have hn := (ak_small hk).1
  have he : (wl g V)[k]? = some (g.2.2.1 k, .inl (g.2.2.2.2 0, n, .inl (fun j => Int32.ofInt (V k (j : Int))))) := by rw [wl_at g V hkl, (ent_a hk).2]; rfl
  have hc : (Int32.ofInt i).toNatClampNeg = i.toNat := io_cl (by simp at hn; omega)
  refine va_iast (f := fun j => Int32.ofInt (V k (j : Int))) (x := Int32.ofInt x) hx hb hW.2.1 hP (wl_D hW.1 V) hS k 0 he rfl (io_in h0.1 h0.2 hn) hd (fun H1 locs1 hP1 _ hS1 => K hC H1 locs1 lsA ?_ hS1 hl)
  have hset : (wl g V).set k (g.2.2.1 k, .inl (g.2.2.2.2 0, n, .inl (upd (fun j => Int32.ofInt (V k (j : Int))) (Int32.ofInt i).toNatClampNeg (Int32.ofInt x)))) = wl g (upR V k (ur (V k) i x)) := by
    rw [← wl_set g V hkl (ur (V k) i x), (ent_a (g := g) (V := V) hk).1, hc, up_ur (V k) h0.1 x]
    rfl
  exact hset ▸ hP1
theorem S_bast {k n : Nat} {i x : Int} (d : DI cc pc .bastore 1 nx) (hk : ak k = some (2, n)) (h0 : 0 ≤ i ∧ i < n := by omega) (h01 : x = 0 ∨ x = 1 := by omega) (K : SW g X own cc nx ls st (upR V k (ur (V k) i x))) : SW g X own cc pc ls (vi x :: vi i :: vr k :: st) V := by
  obtain ⟨⟨p, e, R, s, m⟩, ⟨args, below, meth, c⟩, ⟨nL, cells, slots, Z⟩⟩ := X
  obtain ⟨hd, rfl⟩ := d
  intro hC H locs lsA hP hS hl
  obtain ⟨hx, hb, hml, hown, hts, hW, hR⟩ := id hC
  have hkl := ak_lt hk
  have hn := (ak_small hk).1
  have he : (wl g V)[k]? = some (g.2.2.1 k, .inl (g.2.2.2.2 2, n, .inl (fun j => Int32.ofInt (V k (j : Int))))) := by rw [wl_at g V hkl, (ent_a hk).2]; rfl
  have hc : (Int32.ofInt i).toNatClampNeg = i.toNat := io_cl (by simp at hn; omega)
  have hx1 : vp_nar .boolean (Int32.ofInt x) = Int32.ofInt x := by rcases h01 with rfl | rfl <;> rfl
  refine va_zast (f := fun j => Int32.ofInt (V k (j : Int))) (x := Int32.ofInt x) hx hb hW.2.1 hP (wl_D hW.1 V) hS k 2 he rfl (io_in h0.1 h0.2 hn) hd (fun H1 locs1 hP1 _ hS1 => K hC H1 locs1 lsA ?_ hS1 hl)
  have hset : (wl g V).set k (g.2.2.1 k, .inl (g.2.2.2.2 2, n, .inl (upd (fun j => Int32.ofInt (V k (j : Int))) (Int32.ofInt i).toNatClampNeg (vp_nar .boolean (Int32.ofInt x))))) = wl g (upR V k (ur (V k) i x)) := by
    rw [← wl_set g V hkl (ur (V k) i x), (ent_a (g := g) (V := V) hk).1, hc, hx1, up_ur (V k) h0.1 x]
    rfl
  exact hset ▸ hP1
theorem S_cast {k n : Nat} {i x : Int} (d : DI cc pc .castore 1 nx) (hk : ak k = some (3, n)) (h0 : 0 ≤ i ∧ i < n := by omega) (hx1 : vp_nar .char (Int32.ofInt x) = Int32.ofInt x) (K : SW g X own cc nx ls st (upR V k (ur (V k) i x))) : SW g X own cc pc ls (vi x :: vi i :: vr k :: st) V := by
  obtain ⟨⟨p, e, R, s, m⟩, ⟨args, below, meth, c⟩, ⟨nL, cells, slots, Z⟩⟩ := X
  obtain ⟨hd, rfl⟩ := d
  intro hC H locs lsA hP hS hl
  obtain ⟨hx, hb, hml, hown, hts, hW, hR⟩ := id hC
  have hkl := ak_lt hk
  have hn := (ak_small hk).1
  have he : (wl g V)[k]? = some (g.2.2.1 k, .inl (g.2.2.2.2 3, n, .inl (fun j => Int32.ofInt (V k (j : Int))))) := by rw [wl_at g V hkl, (ent_a hk).2]; rfl
  have hc : (Int32.ofInt i).toNatClampNeg = i.toNat := io_cl (by simp at hn; omega)
  refine va_cast (f := fun j => Int32.ofInt (V k (j : Int))) (x := Int32.ofInt x) hx hb hW.2.1 hP (wl_D hW.1 V) hS k 3 he rfl (io_in h0.1 h0.2 hn) hd (fun H1 locs1 hP1 _ hS1 => K hC H1 locs1 lsA ?_ hS1 hl)
  have hset : (wl g V).set k (g.2.2.1 k, .inl (g.2.2.2.2 3, n, .inl (upd (fun j => Int32.ofInt (V k (j : Int))) (Int32.ofInt i).toNatClampNeg (vp_nar .char (Int32.ofInt x))))) = wl g (upR V k (ur (V k) i x)) := by
    rw [← wl_set g V hkl (ur (V k) i x), (ent_a (g := g) (V := V) hk).1, hc, hx1, up_ur (V k) h0.1 x]
    rfl
  exact hset ▸ hP1
theorem S_last {k n : Nat} {i x : Int} (d : DI cc pc .lastore 1 nx) (hk : ak k = some (1, n)) (h0 : 0 ≤ i ∧ i < n := by omega) (K : SW g X own cc nx ls st (upR V k (ur (V k) i x))) : SW g X own cc pc ls (vl x :: vi i :: vr k :: st) V := by
  obtain ⟨⟨p, e, R, s, m⟩, ⟨args, below, meth, c⟩, ⟨nL, cells, slots, Z⟩⟩ := X
  obtain ⟨hd, rfl⟩ := d
  intro hC H locs lsA hP hS hl
  obtain ⟨hx, hb, hml, hown, hts, hW, hR⟩ := id hC
  have hkl := ak_lt hk
  have hn := (ak_small hk).1
  have he : (wl g V)[k]? = some (g.2.2.1 k, .inl (g.2.2.2.2 1, n, .inr (.inl (fun j => Int64.ofInt (V k (j : Int)))))) := by rw [wl_at g V hkl, (ent_a hk).2]; rfl
  have hc : (Int32.ofInt i).toNatClampNeg = i.toNat := io_cl (by simp at hn; omega)
  refine va_last (f := fun j => Int64.ofInt (V k (j : Int))) (x := Int64.ofInt x) hx hb hW.2.1 hP (wl_D hW.1 V) hS k 1 he rfl (io_in h0.1 h0.2 hn) hd (fun H1 locs1 hP1 _ hS1 => K hC H1 locs1 lsA ?_ hS1 hl)
  have hset : (wl g V).set k (g.2.2.1 k, .inl (g.2.2.2.2 1, n, .inr (.inl (vp_updL (fun j => Int64.ofInt (V k (j : Int))) (Int32.ofInt i).toNatClampNeg (Int64.ofInt x))))) = wl g (upR V k (ur (V k) i x)) := by
    rw [← wl_set g V hkl (ur (V k) i x), (ent_a (g := g) (V := V) hk).1, hc, upL_ur (V k) h0.1 x]
    rfl
  exact hset ▸ hP1
end RM
end
section
/-! contracts, returns, calls -/
abbrev MN : Type := MethodName × ByteArray × Nat × Option FieldType
def rmd (d : Nat) : Room := { frames := d, cells := 0, slots := 0, locals := 64 * d }
def Qc (g : GC) (Q : Option AV → MM → Prop) : Array Value → State → Outcome → State → Prop := fun _ st oc t => (∃ (r : Option AV) (V : MM), oc = .returned (r.map (cv g)) ∧ Q r V ∧ va_P g.2.1 qcl (wl g V) t.heap) ∧ va_F g.2.2.2.1 st t
/-- the contract: from every state that holds the memory V the method returns r and holds V', with Q r V' -/
def Ct (g : GC) (M : MN) (d : Nat) (as : List AV) (V : MM) (Q : Option AV → MM → Prop) : Prop := Met g.1 M.1 (Cond.code M.1 M.2.1 M.2.2.1 M.2.2.2 :: Gs) (rmd d) (va_Pc (as.map (cv g)) (fun U => va_P g.2.1 qcl (wl g V) U.heap ∧ Wd g U U.heap)) (Qc g Q) 0 0 g.2.2.2.1
/-- what a method's end must reach; how deep it may call -/
def Fi (g : GC) (X : CX) (rt : Option FieldType) (Q : Option AV → MM → Prop) : Prop := match X with
  | ((_, _, _, s, _), (args, below, meth, _), (_, cells, slots, Z)) => Z = MQ below (Qc g Q) args s cells slots g.2.2.2.1 ∧ meth.sig.returnType = rt ∧ meth.locks = false
def Dp (X : CX) (d : Nat) : Prop := match X with
  | ((_, _, R, _, _), _, _) => d ≤ R.frames ∧ 64 * d ≤ R.locals
def elA : List AV → List (Option AV)
  | [] => []
  | .inr (.inr z) :: vs => some (vl z) :: none :: elA vs
  | v :: vs => some v :: elA vs
theorem elA_len (g : GC) (as : List AV) : (elA as).length = (lg_sl (as.map (cv g))).length := by
  induction as with
  | nil => rfl
  | cons v vs ih =>
    match v with
    | .inl z => simpa [elA, lg_sl, cv, Value.category] using ih
    | .inr (.inl k) => simpa [elA, lg_sl, cv, Value.category] using ih
    | .inr (.inr z) => simpa [elA, lg_sl, cv, Value.category] using ih
theorem elA_args (g : GC) (as : List AV) : ∀ (o i : Nat) (v : AV), (elA as)[i]? = some (some v) → (o + i, cv g v) ∈ lv_args o (as.map (cv g)) := by
  induction as with
  | nil => intro o i v h; simp [elA] at h
  | cons w vs ih =>
    intro o i v h
    match w, h with
    | .inl z, h =>
      cases i with
      | zero => simp [elA] at h; subst h; exact List.mem_cons_self
      | succ i =>
        have h2 : (elA vs)[i]? = some (some v) := by simpa [elA] using h
        have := ih (o + 1) i v h2
        exact List.mem_cons_of_mem _ (by rw [show o + (i + 1) = o + 1 + i by omega]; exact this)
    | .inr (.inl k), h =>
      cases i with
      | zero => simp [elA] at h; subst h; exact List.mem_cons_self
      | succ i =>
        have h2 : (elA vs)[i]? = some (some v) := by simpa [elA] using h
        have := ih (o + 1) i v h2
        exact List.mem_cons_of_mem _ (by rw [show o + (i + 1) = o + 1 + i by omega]; exact this)
    | .inr (.inr z), h =>
      match i, h with
      | 0, h => simp [elA] at h; subst h; exact List.mem_cons_self
      | 1, h => simp [elA] at h
      | i + 2, h =>
        have h2 : (elA vs)[i]? = some (some v) := by simpa [elA] using h
        have := ih (o + 2) i v h2
        exact List.mem_cons_of_mem _ (by rw [show o + (i + 2) = o + 2 + i by omega]; exact this)
theorem Ct.of {g : GC} {M : MN} {d : Nat} {as : List AV} {V : MM} {Q : Option AV → MM → Prop} {ls : List (Option AV)} (hpl : plainName M.1.cls = true) (hls : elA as ++ List.replicate (M.2.2.1 - (elA as).length) none = ls) (hlen : (elA as).length ≤ M.2.2.1)
    (k : ∀ X : CX, Fi g X M.2.2.2 Q → Dp X d → SW g X M.1.cls M.2.1 0 ls [] V) : Ct g M d as V Q := by
  obtain ⟨y, cc, maxL, ret⟩ := M
  refine Met.ofW (cc := cc) (maxL := maxL) (ret := ret) hpl rfl ?_
  intro p e s m args below meth c s₁ B hml hv
  obtain ⟨rfl, hP, hW⟩ := hv
  have hall : ∀ w ∈ Cond.code y cc maxL ret :: Gs, w.before _ s = true := atoms_spec (ws := Cond.code y cc maxL ret :: Gs) B.pre
  have hown : s.vm.findClass y.cls = some m.cls := findClass_of_methodNamed B.named
  have hlen2 : (lg_sl (as.map (cv g))).length ≤ maxL := by rw [← elA_len g as]; exact hlen
  have hl := lv_entry (as.map (cv g)) (n := maxL) hlen2
  rw [lg_entry_eq]
  generalize (lg_sl (as.map (cv g)) ++ List.replicate (maxL - (lg_sl (as.map (cv g))).length) Slot.unset).toArray = lsA at hl ⊢
  have hlok : lok g lsA maxL ls := by
    refine ⟨hl.1, hl.2.1, fun i v hi => ?_, ?_⟩
    · rw [← hls] at hi
      by_cases hi2 : i < (elA as).length
      · rw [List.getElem?_append_left hi2] at hi
        have h3 := elA_args g as 0 i v hi
        rw [Nat.zero_add] at h3
        exact hl.2.2 _ h3
      · rw [List.getElem?_append_right (by omega)] at hi
        have := List.eq_of_mem_replicate (List.mem_of_getElem? hi)
        cases this
    · rw [← hls, List.length_append, List.length_replicate]
      show (elA as).length + (maxL - (elA as).length) ≤ maxL
      have : (elA as).length ≤ maxL := hlen
      omega
  have K := k ((p, e, rmd d, s, m), ((as.map (cv g)).toArray, below, meth, c), (maxL, 0, 0, MQ below (Qc g Q) (as.map (cv g)).toArray s 0 0 g.2.2.2.1)) ⟨rfl, B.returns, B.notSynchronized⟩ ⟨Nat.le_refl _, Nat.le_refl _⟩
  exact K ⟨B.exec, B.bytes, hml, hown, fun w hw => hall w (List.mem_cons_of_mem _ hw), hW, Nat.zero_le _, Nat.zero_le _⟩ s.heap [] lsA hP va_S.rf hlok
theorem Ct.mono {g : GC} {M : MN} {d : Nat} {as : List AV} {V : MM} {Q Q' : Option AV → MM → Prop} (h : Ct g M d as V Q) (hq : ∀ r V', Q r V' → Q' r V') : Ct g M d as V Q' := by
  intro p e h1 h2 h3 s m args below a1 a2 a3 a4
  obtain ⟨n, o, b1, b2, b3, ⟨⟨r, V1, c1, c2, c3⟩, c4⟩, b5⟩ := h p e h1 h2 h3 s m args below a1 a2 a3 a4
  exact ⟨n, o, b1, b2, b3, ⟨⟨r, V1, c1, hq r V1 c2, c3⟩, c4⟩, b5⟩
section RC
variable {g : GC} {X : CX} {own : String} {cc : ByteArray} {pc nx tgt : Nat} {ls : List (Option AV)} {st : List AV} {V : MM} {Q : Option AV → MM → Prop}
theorem SW.weak {ls' : List (Option AV)} (k : SW g X own cc pc ls' st V) (h2 : ∀ (i : Nat) (v : AV), ls'[i]? = some (some v) → ls[i]? = some (some v)) (h3 : ls'.length ≤ ls.length) : SW g X own cc pc ls st V := by
  obtain ⟨⟨p, e, R, s, m⟩, ⟨args, below, meth, c⟩, ⟨nL, cells, slots, Z⟩⟩ := X
  intro hC H locs lsA hP hS hl
  exact k hC H locs lsA hP hS (lok_sub hl h2 h3)
theorem S_iret {x : Int} (hz : Fi g X (some .int) Q) (d : DI cc pc .ireturn 1 nx) (h : Q (some (vi x)) V) : SW g X own cc pc ls [vi x] V := by
  obtain ⟨⟨p, e, R, s, m⟩, ⟨args, below, meth, c⟩, ⟨nL, cells, slots, Z⟩⟩ := X
  obtain ⟨hd, rfl⟩ := d
  obtain ⟨rfl, hr, hk⟩ := hz
  intro hC H locs lsA hP hS hl
  exact W.iret hC.1 hC.2.1 hr (fun t ht hW => ⟨⟨some (vi x), V, rfl, h, by rw [ht]; exact hP⟩, hS.F ht⟩) hS.2.2 hd hk
theorem S_zret {x : Int} (hz : Fi g X (some .boolean) Q) (d : DI cc pc .ireturn 1 nx) (h01 : x = 0 ∨ x = 1) (h : Q (some (vi x)) V) : SW g X own cc pc ls [vi x] V := by
  obtain ⟨⟨p, e, R, s, m⟩, ⟨args, below, meth, c⟩, ⟨nL, cells, slots, Z⟩⟩ := X
  obtain ⟨hd, rfl⟩ := d
  obtain ⟨rfl, hr, hk⟩ := hz
  intro hC H locs lsA hP hS hl
  exact W.zret hC.1 hC.2.1 hr (by rcases h01 with rfl | rfl <;> rfl) (fun t ht hW => ⟨⟨some (vi x), V, rfl, h, by rw [ht]; exact hP⟩, hS.F ht⟩) hS.2.2 hd hk
theorem S_cret {x : Int} (hz : Fi g X (some .char) Q) (d : DI cc pc .ireturn 1 nx) (hx : narrow .char (.int (Int32.ofInt x)) = .int (Int32.ofInt x)) (h : Q (some (vi x)) V) : SW g X own cc pc ls [vi x] V := by
  obtain ⟨⟨p, e, R, s, m⟩, ⟨args, below, meth, c⟩, ⟨nL, cells, slots, Z⟩⟩ := X
  obtain ⟨hd, rfl⟩ := d
  obtain ⟨rfl, hr, hk⟩ := hz
  intro hC H locs lsA hP hS hl
  exact W.zret hC.1 hC.2.1 hr hx (fun t ht hW => ⟨⟨some (vi x), V, rfl, h, by rw [ht]; exact hP⟩, hS.F ht⟩) hS.2.2 hd hk
theorem S_lret {x : Int} (hz : Fi g X (some .long) Q) (d : DI cc pc .lreturn 1 nx) (h : Q (some (vl x)) V) : SW g X own cc pc ls [vl x] V := by
  obtain ⟨⟨p, e, R, s, m⟩, ⟨args, below, meth, c⟩, ⟨nL, cells, slots, Z⟩⟩ := X
  obtain ⟨hd, rfl⟩ := d
  obtain ⟨rfl, hr, hk⟩ := hz
  intro hC H locs lsA hP hS hl
  exact W.lret hC.1 hC.2.1 hr (fun t ht hW => ⟨⟨some (vl x), V, rfl, h, by rw [ht]; exact hP⟩, hS.F ht⟩) hS.2.2 hd hk
theorem S_vret (hz : Fi g X none Q) (d : DI cc pc .return_ 1 nx) (h : Q none V) : SW g X own cc pc ls [] V := by
  obtain ⟨⟨p, e, R, s, m⟩, ⟨args, below, meth, c⟩, ⟨nL, cells, slots, Z⟩⟩ := X
  obtain ⟨hd, rfl⟩ := d
  obtain ⟨rfl, hr, hk⟩ := hz
  intro hC H locs lsA hP hS hl
  exact W.vret hC.1 hC.2.1 hr (fun t ht hW => ⟨⟨none, V, rfl, h, by rw [ht]; exact hP⟩, hS.F ht⟩) hS.2.2 hd hk
theorem S_aret {k : Nat} {C : String} (hz : Fi g X (some (.object C)) Q) (d : DI cc pc .areturn 1 nx) (h : Q (some (vr k)) V) : SW g X own cc pc ls [vr k] V := by
  obtain ⟨⟨p, e, R, s, m⟩, ⟨args, below, meth, c⟩, ⟨nL, cells, slots, Z⟩⟩ := X
  obtain ⟨hd, rfl⟩ := d
  obtain ⟨rfl, hr, hk⟩ := hz
  intro hC H locs lsA hP hS hl
  exact W.aret hC.1 hC.2.1 hr (Or.inl ⟨_, rfl⟩) (Or.inr ⟨_, rfl⟩) (fun t ht hW => ⟨⟨some (vr k), V, rfl, h, by rw [ht]; exact hP⟩, hS.F ht⟩) hS.2.2 hd hk
/-- a method's own words; a call's link -/
def MO (M : MN) (n : Nat) : Prop := Cond.code M.1 M.2.1 M.2.2.1 M.2.2.2 ∈ Gs ∧ Cond.initialized M.1.cls ∈ Gs ∧ (M.1.cls ≠ "java/lang/invoke/MethodHandle" ∧ M.1.cls ≠ "java/lang/invoke/VarHandle" ∧ (parseMethodDescriptor M.1.desc).map (fun d => d.parameters.length) = some n) ∧ M.2.2.1 ≤ 45
def MV (M : MN) (n : Nat) : Prop := MO M n ∧ Cond.instanceMethod M.1 ∈ Gs ∧ Cond.selects M.1.cls M.1 M.1 ∈ Gs
def MS (M : MN) (n : Nat) : Prop := MO M n ∧ Cond.static M.1 ∈ Gs
def ML (own : String) (idx : Nat) (M : MN) : Prop := Cond.methodLink own idx M.1 ∈ Gs ∨ ∃ host, Cond.methodLinkNest own idx M.1 host ∈ Gs
theorem Gs_code {M : MN} {n : Nat} (h : MO M n) : GoodIn Gs (Cond.code M.1 M.2.1 M.2.2.1 M.2.2.2 :: Gs) := fun w hw => by
  rcases List.mem_cons.mp hw with rfl | hw
  · exact Gs_good _ h.1
  · exact Gs_good _ hw
def rcv (k : Nat) (C : String) : Prop := ∃ ci T N, ok k = some ci ∧ qcl[ci]? = some (C, T, N)
theorem rcv_at {g : GC} {s : State} {H : Heap} {k : Nat} {C : String} (h : rcv k C) (hK : va_K g.2.1 qcl (qtys g) s) (hP : va_P g.2.1 qcl (wl g V) H) : ∃ cell : Cell, H[g.2.2.1 k]? = some cell ∧ cell.vm.isStatics = false ∧ s.vm.findClass C = some cell.cls := by
  obtain ⟨ci, T, N, hk, hq⟩ := h
  have hkl := ok_lt hk
  unfold ok at hk
  split at hk
  · rename_i o ho
    rw [if_pos hkl] at hk
    have he : (wl g V)[k]? = some (g.2.2.1 k, .inr (ci, o.2.mapIdx (fun j q => fval g q (V k (j : Int))))) := by
      rw [wl_at g V hkl, ent_o ho, Option.some.inj hk]
    exact va_recv hK hP hq he
  · cases hk
def wcat : AV → Nat
  | .inr (.inr _) => 2
  | _ => 1
theorem wcat_eq (g : GC) (v : AV) : (cv g v).category = wcat v := by
  match v with
  | .inl z => rfl
  | .inr (.inl k) => rfl
  | .inr (.inr z) => rfl
theorem wcat_sum (g : GC) (l : List AV) : ((l.map (cv g)).map fun v => v.category).sum = (l.map wcat).sum := by
  induction l with
  | nil => rfl
  | cons v l ih => simp only [List.map_cons, List.sum_cons, ih, wcat_eq]
/-- behind a call -/
theorem SW.back {p : Program} {e : Env} {R : Room} {s : State} {m : MethodId} {args : Array Value} {below : List Frame} {meth : Method} {c : Code} {nL cells slots : Nat} {Z : State → Prop} {H : Heap} {locs : List Loc} {lsA : Array Slot} {st0 : List Value} {Qr : Option AV → MM → Prop} {as : List AV} {rest : List AV} {a : Array Value}
    (hr : va_Run p g.1 e R s m args below meth c H locs cells slots 0 0 (F0 m pc lsA st0) (rest.map (cv g)) (Qc g Qr a) g.2.2.2.1) (hC : CxOK g ((p, e, R, s, m), (args, below, meth, c), (nL, cells, slots, Z)) own cc) (hS : va_S g.2.2.2.1 s.heap H locs) (hl : lok g lsA nL ls)
    (kk : ∀ (r : Option AV) (V1 : MM), Qr r V1 → SW g ((p, e, R, s, m), (args, below, meth, c), (nL, cells, slots, Z)) own cc (pc + 3) ls (r.toList ++ rest) V1) : W p g.1 e R s m args below meth c H locs cells slots Z (F0 m pc lsA st0) := by
  intro T hT X0
  obtain ⟨v, st₀, t, T', L, h0, X', hL, e1, e2, ⟨⟨r, V1, hv, hQ, hP1⟩, hz, hk⟩, st⟩ := hr T hT X0
  have hv2 : v = r.map (cv g) := by injection hv
  subst hv2
  rw [h0] at hz hk
  have hS1 : va_S g.2.2.2.1 s.heap T'.heap (locs ++ L) := ⟨Nat.le_trans hS.1 (by rw [e1]; exact hz), fun q h1 h2 => by rw [e1, hk q (Nat.lt_of_lt_of_le h1 hS.1) h2]; exact hS.2.1 q h1 h2, fun q hq => by
      rcases List.mem_append.mp hq with h | h
      · exact hS.2.2 q h
      · exact hL q h⟩
  have hst : (r.map (cv g)).toList ++ rest.map (cv g) = (r.toList ++ rest).map (cv g) := by cases r <;> rfl
  obtain ⟨t2, a1, b1⟩ := kk r V1 hQ hC T'.heap (locs ++ L) lsA (by rw [e1]; exact hP1) hS1 hl T' rfl X'
  rw [hst] at st
  exact ⟨t2, st t2 a1, b1⟩
theorem Wd.at {g : GC} {s U : State} {H : Heap} {locs : List Loc} (h : Wd g s s.heap) (hS : va_S g.2.2.2.1 s.heap H locs) (hU : U.heap = H) (hW : s.WarmedH U.vm) : Wd g U U.heap :=
  ⟨h.1, va_K.moved hW.alike h.2.1, by rw [hU]; exact (h.2.2.1.kept hS.2.1).moved hW.alike, h.2.2.2.warm hW⟩
theorem Pc_blind {g : GC} {as : List AV} {V : MM} : FrameBlind (va_Pc (as.map (cv g)) (fun U => va_P g.2.1 qcl (wl g V) U.heap ∧ Wd g U U.heap)) := fun a U f mk q =>
  ⟨q.1, q.2.1, q.2.2.1, va_K.moved (u := U) (U := U.calling f mk a) (Vm.Alike.refl U.vm) q.2.2.2.1, Ro.moved (u := U) (U := U.calling f mk a) (Vm.Alike.refl U.vm) q.2.2.2.2.1, roRef.same (u := U) (U := U.calling f mk a) rfl q.2.2.2.2.2⟩
/-- a call of an object's method: as is the receiver and the arguments -/
theorem S_callV {idx n d d' b : Nat} {M : MN} {as rest : List AV} {Qr : Option AV → MM → Prop} (hD : Dp X d) (dd : DI cc pc (.invokevirtual idx) 3 nx) (hl0 : ML own idx M) (hm : MV M n) (hr : rcv b M.1.cls) (hc : Ct g M d' (vr b :: as) V Qr) (hd : d' + 1 ≤ d) (hn : as.length = n) (hst : st = as.reverse ++ vr b :: rest) (hw : (rest.map wcat).sum ≤ 8)
    (kk : ∀ (r : Option AV) (V1 : MM), Qr r V1 → SW g X own cc nx ls (r.toList ++ rest) V1) : SW g X own cc pc ls st V := by
  obtain ⟨⟨p, e, R, s, m⟩, ⟨args, below, meth, c⟩, ⟨nL, cells, slots, Z⟩⟩ := X
  obtain ⟨hdg, rfl⟩ := dd
  subst hst
  intro hC H locs lsA hP hS hl
  obtain ⟨hx, hb, hml, hown, hts, hW, hR1, hR2⟩ := id hC
  obtain ⟨⟨hcd, hini, hnm, hmx⟩, hin, hse⟩ := hm
  have hG := Gs_code (M := M) (n := n) ⟨hcd, hini, hnm, hmx⟩
  have hroom : (rmd d').frames + 1 ≤ R.frames ∧ 8 + (M.2.2.1 + 11) + (rmd d').locals ≤ R.locals := by
    obtain ⟨h1, h2⟩ := hD
    show d' + 1 ≤ R.frames ∧ 8 + (M.2.2.1 + 11) + 64 * d' ≤ R.locals
    omega
  have hpv : PreV s H M.1.cls (g.2.2.1 b) (va_Pc ((vr b :: as).map (cv g)) (fun U => va_P g.2.1 qcl (wl g V) U.heap ∧ Wd g U U.heap)) (as.map (cv g)) := ⟨Pc_blind, rcv_at hr hW.2.1 hP, fun U hU hWU => ⟨rfl, by rw [hU]; exact hP, hW.at hS hU hWU⟩⟩
  have hwr : 2 * (F0 m pc lsA ((as.reverse ++ vr b :: rest).map (cv g))).monitorRoom + ((rest.map (cv g)).map fun v => v.category).sum ≤ 8 := by
    show 2 * 0 + _ ≤ 8
    rw [wcat_sum]
    omega
  have hstk : (F0 m pc lsA ((as.reverse ++ vr b :: rest).map (cv g))).stack = (as.map (cv g)).reverse ++ .ref (g.2.2.1 b) :: rest.map (cv g) := by
    show (as.reverse ++ vr b :: rest).map (cv g) = _
    rw [List.map_append, List.map_reverse]
    rfl
  rcases hl0 with hl0 | ⟨host, hl0⟩
  · exact SW.back (as := as) (va_runV (As := as.map (cv g)) (rest := rest.map (cv g)) ⟨hx, hb, hml, hown, hts⟩ hc ⟨callB_of n hts hG rfl rfl rfl (hts _ hini) (hts _ hl0) hnm hroom, hts _ hin, hts _ hse⟩ hpv rfl (by rw [List.length_map]; exact hn) hl.1 hstk hwr hdg ⟨hR1, hR2⟩) hC hS hl kk
  · exact SW.back (as := as) (va_runVN (As := as.map (cv g)) (rest := rest.map (cv g)) ⟨hx, hb, hml, hown, hts⟩ hc ⟨va_cnB (ws' := Gs) (rm := rmd d') (mc := 0) (ms := 0) n hts hG rfl rfl rfl (va_tabs rfl rfl (hts _ hl0)) (hts _ hini) hnm hroom, hts _ hin, hts _ hse⟩ hpv rfl (by rw [List.length_map]; exact hn) hl.1 hstk hwr hdg ⟨hR1, hR2⟩) hC hS hl kk
theorem S_callS {idx n d d' : Nat} {M : MN} {as rest : List AV} {Qr : Option AV → MM → Prop} (hD : Dp X d) (dd : DI cc pc (.invokestatic idx) 3 nx) (hl0 : ML own idx M) (hm : MS M n) (hc : Ct g M d' as V Qr) (hd : d' + 1 ≤ d) (hn : as.length = n) (hst : st = as.reverse ++ rest) (hw : (rest.map wcat).sum ≤ 8)
    (kk : ∀ (r : Option AV) (V1 : MM), Qr r V1 → SW g X own cc nx ls (r.toList ++ rest) V1) : SW g X own cc pc ls st V := by
  obtain ⟨⟨p, e, R, s, m⟩, ⟨args, below, meth, c⟩, ⟨nL, cells, slots, Z⟩⟩ := X
  obtain ⟨hdg, rfl⟩ := dd
  subst hst
  intro hC H locs lsA hP hS hl
  obtain ⟨hx, hb, hml, hown, hts, hW, hR1, hR2⟩ := id hC
  obtain ⟨⟨hcd, hini, hnm, hmx⟩, hss⟩ := hm
  have hG := Gs_code (M := M) (n := n) ⟨hcd, hini, hnm, hmx⟩
  have hroom : (rmd d').frames + 1 ≤ R.frames ∧ 8 + (M.2.2.1 + 11) + (rmd d').locals ≤ R.locals := by
    obtain ⟨h1, h2⟩ := hD
    show d' + 1 ≤ R.frames ∧ 8 + (M.2.2.1 + 11) + 64 * d' ≤ R.locals
    omega
  have hpv : PreS s H (va_Pc (as.map (cv g)) (fun U => va_P g.2.1 qcl (wl g V) U.heap ∧ Wd g U U.heap)) (as.map (cv g)) := ⟨Pc_blind, fun U hU hWU => ⟨rfl, by rw [hU]; exact hP, hW.at hS hU hWU⟩⟩
  have hwr : 2 * (F0 m pc lsA ((as.reverse ++ rest).map (cv g))).monitorRoom + ((rest.map (cv g)).map fun v => v.category).sum ≤ 8 := by
    show 2 * 0 + _ ≤ 8
    rw [wcat_sum]
    omega
  have hstk : (F0 m pc lsA ((as.reverse ++ rest).map (cv g))).stack = (as.map (cv g)).reverse ++ rest.map (cv g) := by
    show (as.reverse ++ rest).map (cv g) = _
    rw [List.map_append, List.map_reverse]
  rcases hl0 with hl0 | ⟨host, hl0⟩
  · exact SW.back (as := as) (va_runS (As := as.map (cv g)) (rest := rest.map (cv g)) ⟨hx, hb, hml, hown, hts⟩ hc ⟨callB_of n hts hG rfl rfl rfl (hts _ hini) (hts _ hl0) hnm hroom, hts _ hss⟩ hpv rfl (by rw [List.length_map]; exact hn) hl.1 hstk hwr hdg ⟨hR1, hR2⟩) hC hS hl kk
  · exact SW.back (as := as) (va_runSN (As := as.map (cv g)) (rest := rest.map (cv g)) ⟨hx, hb, hml, hown, hts⟩ hc ⟨va_cnB (ws' := Gs) (rm := rmd d') (mc := 0) (ms := 0) n hts hG rfl rfl rfl (va_tabs rfl rfl (hts _ hl0)) (hts _ hini) hnm hroom, hts _ hss, trivial⟩ hpv rfl (by rw [List.length_map]; exact hn) hl.1 hstk hwr hdg ⟨hR1, hR2⟩) hC hS hl kk
end RC
end
