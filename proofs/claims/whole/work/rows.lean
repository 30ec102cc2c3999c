section
-- ===== PART A: goes FIRST, ahead of the names: the tables' words, and 'selects' of the private methods out of them =====
/-- a private method of a class that the tables say can be made, by its rows of tables_1 -/
def lw_okq (q : MethodName × Nat) : Prop := (q.1.cls ≠ "java/lang/invoke/MethodHandle" ∧ q.1.cls ≠ "java/lang/invoke/VarHandle") ∧ Cond.instantiable q.1.cls q.2 ∈ tables_1 ∧ Cond.privateMethod q.1 ∈ tables_1 ∧ Cond.instanceMethod q.1 ∈ tables_1
theorem lw_p0 : lw_okq (⟨"TurnedCards", "startAgain", "(I)V"⟩, 7) := ⟨⟨by decide +kernel, by decide +kernel⟩, List.mem_of_getElem? (i := 10) (by decide +kernel), List.mem_of_getElem? (i := 121) (by decide +kernel), List.mem_of_getElem? (i := 122) (by decide +kernel)⟩
theorem lw_p1 : lw_okq (⟨"TurnedCards", "isCard", "(I)Z"⟩, 7) := ⟨⟨by decide +kernel, by decide +kernel⟩, List.mem_of_getElem? (i := 10) (by decide +kernel), List.mem_of_getElem? (i := 165) (by decide +kernel), List.mem_of_getElem? (i := 166) (by decide +kernel)⟩
theorem lw_p2 : lw_okq (⟨"TurnedCards$Card", "exchange", "(II)V"⟩, 15) := ⟨⟨by decide +kernel, by decide +kernel⟩, List.mem_of_getElem? (i := 19) (by decide +kernel), List.mem_of_getElem? (i := 187) (by decide +kernel), List.mem_of_getElem? (i := 188) (by decide +kernel)⟩
theorem lw_p3 : lw_okq (⟨"TurnedCards$Card", "slantOf", "(II)I"⟩, 15) := ⟨⟨by decide +kernel, by decide +kernel⟩, List.mem_of_getElem? (i := 19) (by decide +kernel), List.mem_of_getElem? (i := 221) (by decide +kernel), List.mem_of_getElem? (i := 222) (by decide +kernel)⟩
theorem lw_p4 : lw_okq (⟨"TurnedCards$Card", "move", "(I)V"⟩, 15) := ⟨⟨by decide +kernel, by decide +kernel⟩, List.mem_of_getElem? (i := 19) (by decide +kernel), List.mem_of_getElem? (i := 225) (by decide +kernel), List.mem_of_getElem? (i := 226) (by decide +kernel)⟩
theorem lw_p5 : lw_okq (⟨"TurnedCards", "isPick", "(I)Z"⟩, 7) := ⟨⟨by decide +kernel, by decide +kernel⟩, List.mem_of_getElem? (i := 10) (by decide +kernel), List.mem_of_getElem? (i := 270) (by decide +kernel), List.mem_of_getElem? (i := 271) (by decide +kernel)⟩
theorem lw_p6 : lw_okq (⟨"TurnedCards", "repeatsBy", "(I)Z"⟩, 7) := ⟨⟨by decide +kernel, by decide +kernel⟩, List.mem_of_getElem? (i := 10) (by decide +kernel), List.mem_of_getElem? (i := 314) (by decide +kernel), List.mem_of_getElem? (i := 315) (by decide +kernel)⟩
theorem lw_p7 : lw_okq (⟨"TurnedCards", "likeRows", "(II)Z"⟩, 7) := ⟨⟨by decide +kernel, by decide +kernel⟩, List.mem_of_getElem? (i := 10) (by decide +kernel), List.mem_of_getElem? (i := 318) (by decide +kernel), List.mem_of_getElem? (i := 319) (by decide +kernel)⟩
theorem lw_p8 : lw_okq (⟨"TurnedCards", "mirroredIn", "(I)Z"⟩, 7) := ⟨⟨by decide +kernel, by decide +kernel⟩, List.mem_of_getElem? (i := 10) (by decide +kernel), List.mem_of_getElem? (i := 326) (by decide +kernel), List.mem_of_getElem? (i := 327) (by decide +kernel)⟩
theorem lw_p9 : lw_okq (⟨"TurnedCards", "likeBackIn", "(I)Z"⟩, 7) := ⟨⟨by decide +kernel, by decide +kernel⟩, List.mem_of_getElem? (i := 10) (by decide +kernel), List.mem_of_getElem? (i := 330) (by decide +kernel), List.mem_of_getElem? (i := 331) (by decide +kernel)⟩
theorem lw_p10 : lw_okq (⟨"TurnedCards", "shownAhead", "(I)Z"⟩, 7) := ⟨⟨by decide +kernel, by decide +kernel⟩, List.mem_of_getElem? (i := 10) (by decide +kernel), List.mem_of_getElem? (i := 338) (by decide +kernel), List.mem_of_getElem? (i := 339) (by decide +kernel)⟩
theorem lw_p11 : lw_okq (⟨"TurnedCards", "goingOf", "(II)I"⟩, 7) := ⟨⟨by decide +kernel, by decide +kernel⟩, List.mem_of_getElem? (i := 10) (by decide +kernel), List.mem_of_getElem? (i := 353) (by decide +kernel), List.mem_of_getElem? (i := 354) (by decide +kernel)⟩
theorem lw_p12 : lw_okq (⟨"TurnedCards", "evensOut", "(III)Z"⟩, 7) := ⟨⟨by decide +kernel, by decide +kernel⟩, List.mem_of_getElem? (i := 10) (by decide +kernel), List.mem_of_getElem? (i := 357) (by decide +kernel), List.mem_of_getElem? (i := 358) (by decide +kernel)⟩
theorem lw_p13 : lw_okq (⟨"TurnedCards", "forgetPlans", "()V"⟩, 7) := ⟨⟨by decide +kernel, by decide +kernel⟩, List.mem_of_getElem? (i := 10) (by decide +kernel), List.mem_of_getElem? (i := 375) (by decide +kernel), List.mem_of_getElem? (i := 376) (by decide +kernel)⟩
theorem lw_p14 : lw_okq (⟨"TurnedCards", "wovenRows", "()I"⟩, 7) := ⟨⟨by decide +kernel, by decide +kernel⟩, List.mem_of_getElem? (i := 10) (by decide +kernel), List.mem_of_getElem? (i := 383) (by decide +kernel), List.mem_of_getElem? (i := 384) (by decide +kernel)⟩
theorem lw_p15 : lw_okq (⟨"TurnedCards", "plannedCard", "(I)LTurnedCards$Card;"⟩, 7) := ⟨⟨by decide +kernel, by decide +kernel⟩, List.mem_of_getElem? (i := 10) (by decide +kernel), List.mem_of_getElem? (i := 398) (by decide +kernel), List.mem_of_getElem? (i := 399) (by decide +kernel)⟩
def lw_privs_1 : List (MethodName × Nat) := [(⟨"TurnedCards", "startAgain", "(I)V"⟩, 7), (⟨"TurnedCards", "isCard", "(I)Z"⟩, 7), (⟨"TurnedCards$Card", "exchange", "(II)V"⟩, 15), (⟨"TurnedCards$Card", "slantOf", "(II)I"⟩, 15), (⟨"TurnedCards$Card", "move", "(I)V"⟩, 15), (⟨"TurnedCards", "isPick", "(I)Z"⟩, 7), (⟨"TurnedCards", "repeatsBy", "(I)Z"⟩, 7), (⟨"TurnedCards", "likeRows", "(II)Z"⟩, 7), (⟨"TurnedCards", "mirroredIn", "(I)Z"⟩, 7), (⟨"TurnedCards", "likeBackIn", "(I)Z"⟩, 7), (⟨"TurnedCards", "shownAhead", "(I)Z"⟩, 7), (⟨"TurnedCards", "goingOf", "(II)I"⟩, 7), (⟨"TurnedCards", "evensOut", "(III)Z"⟩, 7), (⟨"TurnedCards", "forgetPlans", "()V"⟩, 7), (⟨"TurnedCards", "wovenRows", "()I"⟩, 7), (⟨"TurnedCards", "plannedCard", "(I)LTurnedCards$Card;"⟩, 7)]
theorem lw_r1 : ∀ q ∈ lw_privs_1, lw_okq q := List.forall_mem_cons.mpr ⟨lw_p0, List.forall_mem_cons.mpr ⟨lw_p1, List.forall_mem_cons.mpr ⟨lw_p2, List.forall_mem_cons.mpr ⟨lw_p3, List.forall_mem_cons.mpr ⟨lw_p4, List.forall_mem_cons.mpr ⟨lw_p5, List.forall_mem_cons.mpr ⟨lw_p6, List.forall_mem_cons.mpr ⟨lw_p7, List.forall_mem_cons.mpr ⟨lw_p8, List.forall_mem_cons.mpr ⟨lw_p9, List.forall_mem_cons.mpr ⟨lw_p10, List.forall_mem_cons.mpr ⟨lw_p11, List.forall_mem_cons.mpr ⟨lw_p12, List.forall_mem_cons.mpr ⟨lw_p13, List.forall_mem_cons.mpr ⟨lw_p14, List.forall_mem_cons.mpr ⟨lw_p15, fun _ h => absurd h List.not_mem_nil⟩⟩⟩⟩⟩⟩⟩⟩⟩⟩⟩⟩⟩⟩⟩⟩
theorem lw_p16 : lw_okq (⟨"TurnedCards$Planner", "fillEnd", "(I)V"⟩, 8) := ⟨⟨by decide +kernel, by decide +kernel⟩, List.mem_of_getElem? (i := 89) (by decide +kernel), List.mem_of_getElem? (i := 406) (by decide +kernel), List.mem_of_getElem? (i := 407) (by decide +kernel)⟩
theorem lw_p17 : lw_okq (⟨"TurnedCards$Planner", "fillRow", "(LTurnedCards$Card;II)V"⟩, 8) := ⟨⟨by decide +kernel, by decide +kernel⟩, List.mem_of_getElem? (i := 89) (by decide +kernel), List.mem_of_getElem? (i := 423) (by decide +kernel), List.mem_of_getElem? (i := 424) (by decide +kernel)⟩
theorem lw_p18 : lw_okq (⟨"TurnedCards$Planner", "offerTurned", "(LTurnedCards$Card;III)V"⟩, 8) := ⟨⟨by decide +kernel, by decide +kernel⟩, List.mem_of_getElem? (i := 89) (by decide +kernel), List.mem_of_getElem? (i := 427) (by decide +kernel), List.mem_of_getElem? (i := 428) (by decide +kernel)⟩
theorem lw_p19 : lw_okq (⟨"TurnedCards$Planner", "offer", "(IJ)V"⟩, 8) := ⟨⟨by decide +kernel, by decide +kernel⟩, List.mem_of_getElem? (i := 89) (by decide +kernel), List.mem_of_getElem? (i := 442) (by decide +kernel), List.mem_of_getElem? (i := 443) (by decide +kernel)⟩
theorem lw_p20 : lw_okq (⟨"TurnedCards$Planner", "wantLeastTwist", "(LTurnedCards$Card;JI)V"⟩, 8) := ⟨⟨by decide +kernel, by decide +kernel⟩, List.mem_of_getElem? (i := 89) (by decide +kernel), List.mem_of_getElem? (i := 449) (by decide +kernel), List.mem_of_getElem? (i := 450) (by decide +kernel)⟩
theorem lw_p21 : lw_okq (⟨"TurnedCards$Planner", "firstTurn", "(LTurnedCards$Card;I)I"⟩, 8) := ⟨⟨by decide +kernel, by decide +kernel⟩, List.mem_of_getElem? (i := 89) (by decide +kernel), List.mem_of_getElem? (i := 456) (by decide +kernel), List.mem_of_getElem? (i := 457) (by decide +kernel)⟩
theorem lw_p22 : lw_okq (⟨"TurnedCards$Planner", "wantedBehind", "(I)J"⟩, 8) := ⟨⟨by decide +kernel, by decide +kernel⟩, List.mem_of_getElem? (i := 89) (by decide +kernel), List.mem_of_getElem? (i := 460) (by decide +kernel), List.mem_of_getElem? (i := 461) (by decide +kernel)⟩
theorem lw_p23 : lw_okq (⟨"TurnedCards$Planner", "goOn", "(LTurnedCards$Card;I)V"⟩, 8) := ⟨⟨by decide +kernel, by decide +kernel⟩, List.mem_of_getElem? (i := 89) (by decide +kernel), List.mem_of_getElem? (i := 464) (by decide +kernel), List.mem_of_getElem? (i := 465) (by decide +kernel)⟩
theorem lw_p24 : lw_okq (⟨"TurnedCards", "listWrongTurns", "(LTurnedCards$Card;)I"⟩, 7) := ⟨⟨by decide +kernel, by decide +kernel⟩, List.mem_of_getElem? (i := 10) (by decide +kernel), List.mem_of_getElem? (i := 502) (by decide +kernel), List.mem_of_getElem? (i := 503) (by decide +kernel)⟩
theorem lw_p25 : lw_okq (⟨"TurnedCards", "paintedCells", "()I"⟩, 7) := ⟨⟨by decide +kernel, by decide +kernel⟩, List.mem_of_getElem? (i := 10) (by decide +kernel), List.mem_of_getElem? (i := 519) (by decide +kernel), List.mem_of_getElem? (i := 520) (by decide +kernel)⟩
theorem lw_p26 : lw_okq (⟨"TurnedCards", "cardsThreadedZ", "()I"⟩, 7) := ⟨⟨by decide +kernel, by decide +kernel⟩, List.mem_of_getElem? (i := 10) (by decide +kernel), List.mem_of_getElem? (i := 523) (by decide +kernel), List.mem_of_getElem? (i := 524) (by decide +kernel)⟩
theorem lw_p27 : lw_okq (⟨"TurnedCards", "unlikeColours", "()I"⟩, 7) := ⟨⟨by decide +kernel, by decide +kernel⟩, List.mem_of_getElem? (i := 10) (by decide +kernel), List.mem_of_getElem? (i := 527) (by decide +kernel), List.mem_of_getElem? (i := 528) (by decide +kernel)⟩
theorem lw_p28 : lw_okq (⟨"TurnedCardsModel", "begin", "(I)V"⟩, 26) := ⟨⟨by decide +kernel, by decide +kernel⟩, List.mem_of_getElem? (i := 537) (by decide +kernel), List.mem_of_getElem? (i := 544) (by decide +kernel), List.mem_of_getElem? (i := 545) (by decide +kernel)⟩
theorem lw_p29 : lw_okq (⟨"TurnedCardsModel", "noCard", "(I)Z"⟩, 26) := ⟨⟨by decide +kernel, by decide +kernel⟩, List.mem_of_getElem? (i := 537) (by decide +kernel), List.mem_of_getElem? (i := 639) (by decide +kernel), List.mem_of_getElem? (i := 640) (by decide +kernel)⟩
theorem lw_p30 : lw_okq (⟨"TurnedCardsModel", "make", "(II)V"⟩, 26) := ⟨⟨by decide +kernel, by decide +kernel⟩, List.mem_of_getElem? (i := 537) (by decide +kernel), List.mem_of_getElem? (i := 669) (by decide +kernel), List.mem_of_getElem? (i := 670) (by decide +kernel)⟩
theorem lw_p31 : lw_okq (⟨"TurnedCardsModel", "keep", "(I)V"⟩, 26) := ⟨⟨by decide +kernel, by decide +kernel⟩, List.mem_of_getElem? (i := 537) (by decide +kernel), List.mem_of_getElem? (i := 673) (by decide +kernel), List.mem_of_getElem? (i := 674) (by decide +kernel)⟩
def lw_privs_2 : List (MethodName × Nat) := [(⟨"TurnedCards$Planner", "fillEnd", "(I)V"⟩, 8), (⟨"TurnedCards$Planner", "fillRow", "(LTurnedCards$Card;II)V"⟩, 8), (⟨"TurnedCards$Planner", "offerTurned", "(LTurnedCards$Card;III)V"⟩, 8), (⟨"TurnedCards$Planner", "offer", "(IJ)V"⟩, 8), (⟨"TurnedCards$Planner", "wantLeastTwist", "(LTurnedCards$Card;JI)V"⟩, 8), (⟨"TurnedCards$Planner", "firstTurn", "(LTurnedCards$Card;I)I"⟩, 8), (⟨"TurnedCards$Planner", "wantedBehind", "(I)J"⟩, 8), (⟨"TurnedCards$Planner", "goOn", "(LTurnedCards$Card;I)V"⟩, 8), (⟨"TurnedCards", "listWrongTurns", "(LTurnedCards$Card;)I"⟩, 7), (⟨"TurnedCards", "paintedCells", "()I"⟩, 7), (⟨"TurnedCards", "cardsThreadedZ", "()I"⟩, 7), (⟨"TurnedCards", "unlikeColours", "()I"⟩, 7), (⟨"TurnedCardsModel", "begin", "(I)V"⟩, 26), (⟨"TurnedCardsModel", "noCard", "(I)Z"⟩, 26), (⟨"TurnedCardsModel", "make", "(II)V"⟩, 26), (⟨"TurnedCardsModel", "keep", "(I)V"⟩, 26)]
theorem lw_r2 : ∀ q ∈ lw_privs_2, lw_okq q := List.forall_mem_cons.mpr ⟨lw_p16, List.forall_mem_cons.mpr ⟨lw_p17, List.forall_mem_cons.mpr ⟨lw_p18, List.forall_mem_cons.mpr ⟨lw_p19, List.forall_mem_cons.mpr ⟨lw_p20, List.forall_mem_cons.mpr ⟨lw_p21, List.forall_mem_cons.mpr ⟨lw_p22, List.forall_mem_cons.mpr ⟨lw_p23, List.forall_mem_cons.mpr ⟨lw_p24, List.forall_mem_cons.mpr ⟨lw_p25, List.forall_mem_cons.mpr ⟨lw_p26, List.forall_mem_cons.mpr ⟨lw_p27, List.forall_mem_cons.mpr ⟨lw_p28, List.forall_mem_cons.mpr ⟨lw_p29, List.forall_mem_cons.mpr ⟨lw_p30, List.forall_mem_cons.mpr ⟨lw_p31, fun _ h => absurd h List.not_mem_nil⟩⟩⟩⟩⟩⟩⟩⟩⟩⟩⟩⟩⟩⟩⟩⟩
theorem lw_p32 : lw_okq (⟨"TurnedCardsModel", "move", "(II)V"⟩, 26) := ⟨⟨by decide +kernel, by decide +kernel⟩, List.mem_of_getElem? (i := 537) (by decide +kernel), List.mem_of_getElem? (i := 677) (by decide +kernel), List.mem_of_getElem? (i := 678) (by decide +kernel)⟩
theorem lw_p33 : lw_okq (⟨"TurnedCardsModel", "noPick", "(I)Z"⟩, 26) := ⟨⟨by decide +kernel, by decide +kernel⟩, List.mem_of_getElem? (i := 537) (by decide +kernel), List.mem_of_getElem? (i := 694) (by decide +kernel), List.mem_of_getElem? (i := 695) (by decide +kernel)⟩
theorem lw_p34 : lw_okq (⟨"TurnedCardsModel", "behindOf", "(II)I"⟩, 26) := ⟨⟨by decide +kernel, by decide +kernel⟩, List.mem_of_getElem? (i := 537) (by decide +kernel), List.mem_of_getElem? (i := 702) (by decide +kernel), List.mem_of_getElem? (i := 703) (by decide +kernel)⟩
theorem lw_p35 : lw_okq (⟨"TurnedCardsModel", "colourOf", "(II)I"⟩, 26) := ⟨⟨by decide +kernel, by decide +kernel⟩, List.mem_of_getElem? (i := 537) (by decide +kernel), List.mem_of_getElem? (i := 706) (by decide +kernel), List.mem_of_getElem? (i := 707) (by decide +kernel)⟩
theorem lw_p36 : lw_okq (⟨"TurnedCardsModel", "isLike", "(II)Z"⟩, 26) := ⟨⟨by decide +kernel, by decide +kernel⟩, List.mem_of_getElem? (i := 537) (by decide +kernel), List.mem_of_getElem? (i := 730) (by decide +kernel), List.mem_of_getElem? (i := 731) (by decide +kernel)⟩
theorem lw_p37 : lw_okq (⟨"TurnedCardsModel", "goingOf", "(II)I"⟩, 26) := ⟨⟨by decide +kernel, by decide +kernel⟩, List.mem_of_getElem? (i := 537) (by decide +kernel), List.mem_of_getElem? (i := 754) (by decide +kernel), List.mem_of_getElem? (i := 755) (by decide +kernel)⟩
theorem lw_p38 : lw_okq (⟨"TurnedCardsModel", "goes", "(III)Z"⟩, 26) := ⟨⟨by decide +kernel, by decide +kernel⟩, List.mem_of_getElem? (i := 537) (by decide +kernel), List.mem_of_getElem? (i := 758) (by decide +kernel), List.mem_of_getElem? (i := 759) (by decide +kernel)⟩
theorem lw_p39 : lw_okq (⟨"TurnedCardsModel", "seenRows", "()I"⟩, 26) := ⟨⟨by decide +kernel, by decide +kernel⟩, List.mem_of_getElem? (i := 537) (by decide +kernel), List.mem_of_getElem? (i := 781) (by decide +kernel), List.mem_of_getElem? (i := 782) (by decide +kernel)⟩
theorem lw_p40 : lw_okq (⟨"TurnedCardsModel", "fits", "(III)Z"⟩, 26) := ⟨⟨by decide +kernel, by decide +kernel⟩, List.mem_of_getElem? (i := 537) (by decide +kernel), List.mem_of_getElem? (i := 785) (by decide +kernel), List.mem_of_getElem? (i := 786) (by decide +kernel)⟩
theorem lw_p41 : lw_okq (⟨"TurnedCardsModel", "look", "(I)I"⟩, 26) := ⟨⟨by decide +kernel, by decide +kernel⟩, List.mem_of_getElem? (i := 537) (by decide +kernel), List.mem_of_getElem? (i := 793) (by decide +kernel), List.mem_of_getElem? (i := 794) (by decide +kernel)⟩
theorem lw_p42 : lw_okq (⟨"TurnedCardsModel", "by", "(IIIIIII)I"⟩, 26) := ⟨⟨by decide +kernel, by decide +kernel⟩, List.mem_of_getElem? (i := 537) (by decide +kernel), List.mem_of_getElem? (i := 801) (by decide +kernel), List.mem_of_getElem? (i := 802) (by decide +kernel)⟩
theorem lw_p43 : lw_okq (⟨"TurnedCardsModel", "lies", "(III)I"⟩, 26) := ⟨⟨by decide +kernel, by decide +kernel⟩, List.mem_of_getElem? (i := 537) (by decide +kernel), List.mem_of_getElem? (i := 805) (by decide +kernel), List.mem_of_getElem? (i := 806) (by decide +kernel)⟩
theorem lw_p44 : lw_okq (⟨"TurnedCardsModel", "quarrelOf", "(I)I"⟩, 26) := ⟨⟨by decide +kernel, by decide +kernel⟩, List.mem_of_getElem? (i := 537) (by decide +kernel), List.mem_of_getElem? (i := 826) (by decide +kernel), List.mem_of_getElem? (i := 827) (by decide +kernel)⟩
theorem lw_p45 : lw_okq (⟨"TurnedCardsModel", "wrongOf", "(IIZ)I"⟩, 26) := ⟨⟨by decide +kernel, by decide +kernel⟩, List.mem_of_getElem? (i := 537) (by decide +kernel), List.mem_of_getElem? (i := 838) (by decide +kernel), List.mem_of_getElem? (i := 839) (by decide +kernel)⟩
theorem lw_p46 : lw_okq (⟨"TurnedCardsModel", "would", "(III)Z"⟩, 26) := ⟨⟨by decide +kernel, by decide +kernel⟩, List.mem_of_getElem? (i := 537) (by decide +kernel), List.mem_of_getElem? (i := 842) (by decide +kernel), List.mem_of_getElem? (i := 843) (by decide +kernel)⟩
def lw_privs_3 : List (MethodName × Nat) := [(⟨"TurnedCardsModel", "move", "(II)V"⟩, 26), (⟨"TurnedCardsModel", "noPick", "(I)Z"⟩, 26), (⟨"TurnedCardsModel", "behindOf", "(II)I"⟩, 26), (⟨"TurnedCardsModel", "colourOf", "(II)I"⟩, 26), (⟨"TurnedCardsModel", "isLike", "(II)Z"⟩, 26), (⟨"TurnedCardsModel", "goingOf", "(II)I"⟩, 26), (⟨"TurnedCardsModel", "goes", "(III)Z"⟩, 26), (⟨"TurnedCardsModel", "seenRows", "()I"⟩, 26), (⟨"TurnedCardsModel", "fits", "(III)Z"⟩, 26), (⟨"TurnedCardsModel", "look", "(I)I"⟩, 26), (⟨"TurnedCardsModel", "by", "(IIIIIII)I"⟩, 26), (⟨"TurnedCardsModel", "lies", "(III)I"⟩, 26), (⟨"TurnedCardsModel", "quarrelOf", "(I)I"⟩, 26), (⟨"TurnedCardsModel", "wrongOf", "(IIZ)I"⟩, 26), (⟨"TurnedCardsModel", "would", "(III)Z"⟩, 26)]
theorem lw_r3 : ∀ q ∈ lw_privs_3, lw_okq q := List.forall_mem_cons.mpr ⟨lw_p32, List.forall_mem_cons.mpr ⟨lw_p33, List.forall_mem_cons.mpr ⟨lw_p34, List.forall_mem_cons.mpr ⟨lw_p35, List.forall_mem_cons.mpr ⟨lw_p36, List.forall_mem_cons.mpr ⟨lw_p37, List.forall_mem_cons.mpr ⟨lw_p38, List.forall_mem_cons.mpr ⟨lw_p39, List.forall_mem_cons.mpr ⟨lw_p40, List.forall_mem_cons.mpr ⟨lw_p41, List.forall_mem_cons.mpr ⟨lw_p42, List.forall_mem_cons.mpr ⟨lw_p43, List.forall_mem_cons.mpr ⟨lw_p44, List.forall_mem_cons.mpr ⟨lw_p45, List.forall_mem_cons.mpr ⟨lw_p46, fun _ h => absurd h List.not_mem_nil⟩⟩⟩⟩⟩⟩⟩⟩⟩⟩⟩⟩⟩⟩⟩
def lw_privs : List (MethodName × Nat) := lw_privs_1 ++ (lw_privs_2 ++ (lw_privs_3))
def lw_tbl : List Cond := k2_sels lw_privs ++ tables_1
theorem lw_privs_ok : ∀ q ∈ lw_privs, lw_okq q := by
  show ∀ q ∈ lw_privs_1 ++ (lw_privs_2 ++ (lw_privs_3)), lw_okq q
  exact List.forall_mem_append.mpr ⟨lw_r1, List.forall_mem_append.mpr ⟨lw_r2, lw_r3⟩⟩

def TT : List Cond := lw_tbl.filter goodWord
theorem tt_mem {w : Cond} (i : Nat) (h : lw_tbl[i]? = some w) (g : goodWord w = true) : w ∈ TT := List.mem_filter.mpr ⟨List.mem_of_getElem? h, g⟩
end
section
def RX0 : String := "TurnedCards$Card"
def TX0 : u_T := fun k => match k with
  | 0 => ("TurnedCards$Card", "threadAt", "[I", true)
  | 1 => ("TurnedCards$Card", "colours", "[I", true)
  | 2 => ("TurnedCards$Card", "turns", "[I", true)
  | 3 => ("TurnedCards$Card", "fronts", "[I", true)
  | 4 => ("TurnedCards$Card", "slants", "[I", true)
  | 5 => ("TurnedCards$Card", "flipsAhead", "[I", true)
  | 6 => ("TurnedCards$Card", "picture", "[I", true)
  | 7 => ("TurnedCards$Card", "plan", "[I", true)
  | 8 => ("TurnedCards$Card", "threaded", "I", false)
  | 9 => ("TurnedCards$Card", "inPack", "I", false)
  | 10 => ("TurnedCards$Card", "twist", "I", false)
  | 11 => ("TurnedCards$Card", "flips", "I", false)
  | 12 => ("TurnedCards$Card", "planIdles", "I", false)
  | 13 => ("TurnedCards$Card", "planTwist", "I", false)
  | _ => ("TurnedCards$Card", "planned", "Z", false)
def tyX0 : Nat → FieldType := fun k => match k with
  | 0 => .array .int
  | 1 => .array .int
  | 2 => .array .int
  | 3 => .array .int
  | 4 => .array .int
  | 5 => .array .int
  | 6 => .array .int
  | 7 => .array .int
  | 8 => .int
  | 9 => .int
  | 10 => .int
  | 11 => .int
  | 12 => .int
  | 13 => .int
  | _ => .boolean
theorem nmX0 : ∀ a, a < 15 → ∀ b, b < 15 → a ≠ b → (TX0 a).2.1 ≠ (TX0 b).2.1 := by decide +kernel
theorem tyX0_ok : ∀ k, k < 15 → parseFieldDescriptor (TX0 k).2.2.1 = some (tyX0 k) := by decide +kernel
abbrev cX0_init : ByteArray := prog_2_method_1_code
def yX0_init : MethodName := ⟨RX0, "<init>", "()V"⟩
abbrev cX0_reset : ByteArray := prog_2_method_2_code
def yX0_reset : MethodName := ⟨RX0, "reset", "()V"⟩
abbrev cX0_sense : ByteArray := prog_2_method_3_code
def yX0_sense : MethodName := ⟨RX0, "sense", "()I"⟩
abbrev cX0_twistOf : ByteArray := prog_2_method_4_code
def yX0_twistOf : MethodName := ⟨RX0, "twistOf", "(I)I"⟩
abbrev cX0_turnOver : ByteArray := prog_2_method_5_code
def yX0_turnOver : MethodName := ⟨RX0, "turnOver", "()V"⟩
abbrev cX0_exchange : ByteArray := prog_2_method_6_code
def yX0_exchange : MethodName := ⟨RX0, "exchange", "(II)V"⟩
abbrev cX0_turnIn : ByteArray := prog_2_method_7_code
def yX0_turnIn : MethodName := ⟨RX0, "turnIn", "(II)V"⟩
abbrev cX0_takeBack : ByteArray := prog_2_method_8_code
def yX0_takeBack : MethodName := ⟨RX0, "takeBack", "(I)V"⟩
abbrev cX0_opposite : ByteArray := prog_2_method_9_code
def yX0_opposite : MethodName := ⟨RX0, "opposite", "(I)I"⟩
abbrev cX0_slantOf : ByteArray := prog_2_method_10_code
def yX0_slantOf : MethodName := ⟨RX0, "slantOf", "(II)I"⟩
abbrev cX0_move : ByteArray := prog_2_method_11_code
def yX0_move : MethodName := ⟨RX0, "move", "(I)V"⟩
abbrev cX0_showing : ByteArray := prog_2_method_12_code
def yX0_showing : MethodName := ⟨RX0, "showing", "(I)I"⟩
abbrev cX0_threadOn : ByteArray := prog_2_method_13_code
def yX0_threadOn : MethodName := ⟨RX0, "threadOn", "(IZ)I"⟩
abbrev cX0_colourOn : ByteArray := prog_2_method_14_code
def yX0_colourOn : MethodName := ⟨RX0, "colourOn", "(IZ)I"⟩
abbrev cX0_idleBehind : ByteArray := prog_2_method_15_code
def yX0_idleBehind : MethodName := ⟨RX0, "idleBehind", "(I)I"⟩
abbrev cX0_longestFloat : ByteArray := prog_2_method_16_code
def yX0_longestFloat : MethodName := ⟨RX0, "longestFloat", "(I)I"⟩
abbrev cX0_fits : ByteArray := prog_2_method_17_code
def yX0_fits : MethodName := ⟨RX0, "fits", "(II)Z"⟩
abbrev cX0_threadAfter : ByteArray := prog_2_method_18_code
def yX0_threadAfter : MethodName := ⟨RX0, "threadAfter", "(II)I"⟩
abbrev cX0_wantedOf : ByteArray := prog_2_method_19_code
def yX0_wantedOf : MethodName := ⟨RX0, "wantedOf", "(II)I"⟩
abbrev cX0_quarrelRow : ByteArray := prog_2_method_20_code
def yX0_quarrelRow : MethodName := ⟨RX0, "quarrelRow", "(I)I"⟩
abbrev cX0_fitsWith : ByteArray := prog_2_method_21_code
def yX0_fitsWith : MethodName := ⟨RX0, "fitsWith", "(III)Z"⟩
def RX1 : String := "TurnedCards$Planner"
def TX1 : u_T := fun k => match k with
  | 0 => ("TurnedCards$Planner", "fewest", "[I", true)
  | 1 => ("TurnedCards$Planner", "surplus", "[J", true)
  | 2 => ("TurnedCards$Planner", "bestIdles", "I", false)
  | 3 => ("TurnedCards$Planner", "bestSurplus", "J", false)
  | 4 => ("TurnedCards$Planner", "turned", "I", false)
  | 5 => ("TurnedCards$Planner", "place", "I", false)
  | 6 => ("TurnedCards$Planner", "run", "I", false)
  | _ => ("TurnedCards$Planner", "wanted", "J", false)
def tyX1 : Nat → FieldType := fun k => match k with
  | 0 => .array .int
  | 1 => .array .long
  | 2 => .int
  | 3 => .long
  | 4 => .int
  | 5 => .int
  | 6 => .int
  | _ => .long
theorem nmX1 : ∀ a, a < 8 → ∀ b, b < 8 → a ≠ b → (TX1 a).2.1 ≠ (TX1 b).2.1 := by decide +kernel
theorem tyX1_ok : ∀ k, k < 8 → parseFieldDescriptor (TX1 k).2.2.1 = some (tyX1 k) := by decide +kernel
abbrev cX1_init : ByteArray := prog_3_method_1_code
def yX1_init : MethodName := ⟨RX1, "<init>", "()V"⟩
abbrev cX1_plan : ByteArray := prog_3_method_2_code
def yX1_plan : MethodName := ⟨RX1, "plan", "(LTurnedCards$Card;III)V"⟩
abbrev cX1_index : ByteArray := prog_3_method_3_code
def yX1_index : MethodName := ⟨RX1, "index", "(IIII)I"⟩
abbrev cX1_roundFrom : ByteArray := prog_3_method_4_code
def yX1_roundFrom : MethodName := ⟨RX1, "roundFrom", "(II)I"⟩
abbrev cX1_fillEnd : ByteArray := prog_3_method_5_code
def yX1_fillEnd : MethodName := ⟨RX1, "fillEnd", "(I)V"⟩
abbrev cX1_fillRow : ByteArray := prog_3_method_6_code
def yX1_fillRow : MethodName := ⟨RX1, "fillRow", "(LTurnedCards$Card;II)V"⟩
abbrev cX1_offerTurned : ByteArray := prog_3_method_7_code
def yX1_offerTurned : MethodName := ⟨RX1, "offerTurned", "(LTurnedCards$Card;III)V"⟩
abbrev cX1_offer : ByteArray := prog_3_method_8_code
def yX1_offer : MethodName := ⟨RX1, "offer", "(IJ)V"⟩
abbrev cX1_wantLeastTwist : ByteArray := prog_3_method_9_code
def yX1_wantLeastTwist : MethodName := ⟨RX1, "wantLeastTwist", "(LTurnedCards$Card;JI)V"⟩
abbrev cX1_firstTurn : ByteArray := prog_3_method_10_code
def yX1_firstTurn : MethodName := ⟨RX1, "firstTurn", "(LTurnedCards$Card;I)I"⟩
abbrev cX1_wantedBehind : ByteArray := prog_3_method_11_code
def yX1_wantedBehind : MethodName := ⟨RX1, "wantedBehind", "(I)J"⟩
abbrev cX1_goOn : ByteArray := prog_3_method_12_code
def yX1_goOn : MethodName := ⟨RX1, "goOn", "(LTurnedCards$Card;I)V"⟩
def RX2 : String := "TurnedCards"
def TX2 : u_T := fun k => match k with
  | 0 => ("TurnedCards", "band", "[LTurnedCards$Card;", true)
  | 1 => ("TurnedCards", "planner", "LTurnedCards$Planner;", true)
  | 2 => ("TurnedCards", "wrongTurns", "[I", true)
  | 3 => ("TurnedCards", "width", "I", false)
  | 4 => ("TurnedCards", "picks", "I", false)
  | 5 => ("TurnedCards", "height", "I", false)
  | _ => ("TurnedCards", "floats", "I", false)
def tyX2 : Nat → FieldType := fun k => match k with
  | 0 => .array (.object "TurnedCards$Card")
  | 1 => .object "TurnedCards$Planner"
  | 2 => .array .int
  | 3 => .int
  | 4 => .int
  | 5 => .int
  | _ => .int
theorem nmX2 : ∀ a, a < 7 → ∀ b, b < 7 → a ≠ b → (TX2 a).2.1 ≠ (TX2 b).2.1 := by decide +kernel
theorem tyX2_ok : ∀ k, k < 7 → parseFieldDescriptor (TX2 k).2.2.1 = some (tyX2 k) := by decide +kernel
abbrev cX2_init : ByteArray := prog_1_method_1_code
def yX2_init : MethodName := ⟨RX2, "<init>", "()V"⟩
abbrev cX2_cards : ByteArray := prog_1_method_2_code
def yX2_cards : MethodName := ⟨RX2, "cards", "(I)I"⟩
abbrev cX2_thread : ByteArray := prog_1_method_3_code
def yX2_thread : MethodName := ⟨RX2, "thread", "(III)I"⟩
abbrev cX2_way : ByteArray := prog_1_method_4_code
def yX2_way : MethodName := ⟨RX2, "way", "(II)I"⟩
abbrev cX2_flip : ByteArray := prog_1_method_5_code
def yX2_flip : MethodName := ⟨RX2, "flip", "(I)I"⟩
abbrev cX2_pack : ByteArray := prog_1_method_6_code
def yX2_pack : MethodName := ⟨RX2, "pack", "(II)I"⟩
abbrev cX2_about : ByteArray := prog_1_method_7_code
def yX2_about : MethodName := ⟨RX2, "about", "(II)I"⟩
abbrev cX2_at : ByteArray := prog_1_method_8_code
def yX2_at : MethodName := ⟨RX2, "at", "(II)I"⟩
abbrev cX2_pick : ByteArray := prog_1_method_9_code
def yX2_pick : MethodName := ⟨RX2, "pick", "(II)I"⟩
abbrev cX2_packs : ByteArray := prog_1_method_10_code
def yX2_packs : MethodName := ⟨RX2, "packs", "(IIII)I"⟩
abbrev cX2_unweave : ByteArray := prog_1_method_11_code
def yX2_unweave : MethodName := ⟨RX2, "unweave", "()I"⟩
abbrev cX2_turn : ByteArray := prog_1_method_12_code
def yX2_turn : MethodName := ⟨RX2, "turn", "(II)I"⟩
abbrev cX2_shows : ByteArray := prog_1_method_13_code
def yX2_shows : MethodName := ⟨RX2, "shows", "(IIZ)I"⟩
abbrev cX2_shown : ByteArray := prog_1_method_14_code
def yX2_shown : MethodName := ⟨RX2, "shown", "(IIZ)I"⟩
abbrev cX2_slant : ByteArray := prog_1_method_15_code
def yX2_slant : MethodName := ⟨RX2, "slant", "(II)I"⟩
abbrev cX2_longest : ByteArray := prog_1_method_16_code
def yX2_longest : MethodName := ⟨RX2, "longest", "(I)I"⟩
abbrev cX2_many : ByteArray := prog_1_method_17_code
def yX2_many : MethodName := ⟨RX2, "many", "(II)I"⟩
abbrev cX2_repeat : ByteArray := prog_1_method_18_code
def yX2_repeat : MethodName := ⟨RX2, "repeat", "()I"⟩
abbrev cX2_is : ByteArray := prog_1_method_19_code
def yX2_is : MethodName := ⟨RX2, "is", "(I)I"⟩
abbrev cX2_rows : ByteArray := prog_1_method_20_code
def yX2_rows : MethodName := ⟨RX2, "rows", "()I"⟩
abbrev cX2_worst : ByteArray := prog_1_method_21_code
def yX2_worst : MethodName := ⟨RX2, "worst", "(Z)I"⟩
abbrev cX2_going : ByteArray := prog_1_method_22_code
def yX2_going : MethodName := ⟨RX2, "going", "(II)I"⟩
abbrev cX2_evens : ByteArray := prog_1_method_23_code
def yX2_evens : MethodName := ⟨RX2, "evens", "(I)I"⟩
abbrev cX2_paint : ByteArray := prog_1_method_24_code
def yX2_paint : MethodName := ⟨RX2, "paint", "(III)I"⟩
abbrev cX2_rule : ByteArray := prog_1_method_25_code
def yX2_rule : MethodName := ⟨RX2, "rule", "(II)I"⟩
abbrev cX2_unlike : ByteArray := prog_1_method_26_code
def yX2_unlike : MethodName := ⟨RX2, "unlike", "()I"⟩
abbrev cX2_idles : ByteArray := prog_1_method_27_code
def yX2_idles : MethodName := ⟨RX2, "idles", "(I)I"⟩
abbrev cX2_turning : ByteArray := prog_1_method_28_code
def yX2_turning : MethodName := ⟨RX2, "turning", "(II)I"⟩
abbrev cX2_behind : ByteArray := prog_1_method_29_code
def yX2_behind : MethodName := ⟨RX2, "behind", "(I)I"⟩
abbrev cX2_weave : ByteArray := prog_1_method_30_code
def yX2_weave : MethodName := ⟨RX2, "weave", "()I"⟩
abbrev cX2_threading : ByteArray := prog_1_method_31_code
def yX2_threading : MethodName := ⟨RX2, "threading", "(II)I"⟩
abbrev cX2_quarrel : ByteArray := prog_1_method_32_code
def yX2_quarrel : MethodName := ⟨RX2, "quarrel", "(I)I"⟩
abbrev cX2_wrongs : ByteArray := prog_1_method_33_code
def yX2_wrongs : MethodName := ⟨RX2, "wrongs", "(I)I"⟩
abbrev cX2_wrong : ByteArray := prog_1_method_34_code
def yX2_wrong : MethodName := ⟨RX2, "wrong", "(II)I"⟩
abbrev cX2_count : ByteArray := prog_1_method_35_code
def yX2_count : MethodName := ⟨RX2, "count", "(I)I"⟩
abbrev cX2_within : ByteArray := prog_1_method_36_code
def yX2_within : MethodName := ⟨RX2, "within", "(III)Z"⟩
abbrev cX2_isCard : ByteArray := prog_1_method_37_code
def yX2_isCard : MethodName := ⟨RX2, "isCard", "(I)Z"⟩
abbrev cX2_isPick : ByteArray := prog_1_method_38_code
def yX2_isPick : MethodName := ⟨RX2, "isPick", "(I)Z"⟩
abbrev cX2_isThread : ByteArray := prog_1_method_39_code
def yX2_isThread : MethodName := ⟨RX2, "isThread", "(I)Z"⟩
abbrev cX2_isPack : ByteArray := prog_1_method_40_code
def yX2_isPack : MethodName := ⟨RX2, "isPack", "(I)Z"⟩
abbrev cX2_isColour : ByteArray := prog_1_method_41_code
def yX2_isColour : MethodName := ⟨RX2, "isColour", "(I)Z"⟩
abbrev cX2_isTurn : ByteArray := prog_1_method_42_code
def yX2_isTurn : MethodName := ⟨RX2, "isTurn", "(I)Z"⟩
abbrev cX2_startAgain : ByteArray := prog_1_method_43_code
def yX2_startAgain : MethodName := ⟨RX2, "startAgain", "(I)V"⟩
abbrev cX2_turnOfBits : ByteArray := prog_1_method_44_code
def yX2_turnOfBits : MethodName := ⟨RX2, "turnOfBits", "(III)I"⟩
abbrev cX2_turnOfPack : ByteArray := prog_1_method_45_code
def yX2_turnOfPack : MethodName := ⟨RX2, "turnOfPack", "(IIIII)I"⟩
abbrev cX2_likeRows : ByteArray := prog_1_method_46_code
def yX2_likeRows : MethodName := ⟨RX2, "likeRows", "(II)Z"⟩
abbrev cX2_repeatsBy : ByteArray := prog_1_method_47_code
def yX2_repeatsBy : MethodName := ⟨RX2, "repeatsBy", "(I)Z"⟩
abbrev cX2_shownAhead : ByteArray := prog_1_method_48_code
def yX2_shownAhead : MethodName := ⟨RX2, "shownAhead", "(I)Z"⟩
abbrev cX2_mirroredIn : ByteArray := prog_1_method_49_code
def yX2_mirroredIn : MethodName := ⟨RX2, "mirroredIn", "(I)Z"⟩
abbrev cX2_likeBackIn : ByteArray := prog_1_method_50_code
def yX2_likeBackIn : MethodName := ⟨RX2, "likeBackIn", "(I)Z"⟩
abbrev cX2_goingOf : ByteArray := prog_1_method_51_code
def yX2_goingOf : MethodName := ⟨RX2, "goingOf", "(II)I"⟩
abbrev cX2_evensOut : ByteArray := prog_1_method_52_code
def yX2_evensOut : MethodName := ⟨RX2, "evensOut", "(III)Z"⟩
abbrev cX2_wovenRows : ByteArray := prog_1_method_53_code
def yX2_wovenRows : MethodName := ⟨RX2, "wovenRows", "()I"⟩
abbrev cX2_forgetPlans : ByteArray := prog_1_method_54_code
def yX2_forgetPlans : MethodName := ⟨RX2, "forgetPlans", "()V"⟩
abbrev cX2_plannedCard : ByteArray := prog_1_method_55_code
def yX2_plannedCard : MethodName := ⟨RX2, "plannedCard", "(I)LTurnedCards$Card;"⟩
abbrev cX2_listWrongTurns : ByteArray := prog_1_method_56_code
def yX2_listWrongTurns : MethodName := ⟨RX2, "listWrongTurns", "(LTurnedCards$Card;)I"⟩
abbrev cX2_paintedCells : ByteArray := prog_1_method_57_code
def yX2_paintedCells : MethodName := ⟨RX2, "paintedCells", "()I"⟩
abbrev cX2_cardsThreadedZ : ByteArray := prog_1_method_58_code
def yX2_cardsThreadedZ : MethodName := ⟨RX2, "cardsThreadedZ", "()I"⟩
abbrev cX2_unlikeColours : ByteArray := prog_1_method_59_code
def yX2_unlikeColours : MethodName := ⟨RX2, "unlikeColours", "()I"⟩
def RX3 : String := "TurnedCardsModel"
def TX3 : u_T := fun k => match k with
  | 0 => ("TurnedCardsModel", "thrown", "I", false)
  | 1 => ("TurnedCardsModel", "cards", "I", false)
  | 2 => ("TurnedCardsModel", "picks", "I", false)
  | 3 => ("TurnedCardsModel", "colour", "[I", true)
  | 4 => ("TurnedCardsModel", "at", "[I", true)
  | 5 => ("TurnedCardsModel", "way", "[I", true)
  | 6 => ("TurnedCardsModel", "pack", "[I", true)
  | 7 => ("TurnedCardsModel", "twist", "[I", true)
  | 8 => ("TurnedCardsModel", "idle", "[I", true)
  | 9 => ("TurnedCardsModel", "flips", "[I", true)
  | 10 => ("TurnedCardsModel", "wasAt", "[I", true)
  | 11 => ("TurnedCardsModel", "wasWay", "[I", true)
  | 12 => ("TurnedCardsModel", "wasTwist", "[I", true)
  | 13 => ("TurnedCardsModel", "wasIdle", "[I", true)
  | 14 => ("TurnedCardsModel", "wasFlips", "[I", true)
  | 15 => ("TurnedCardsModel", "turns", "[I", true)
  | 16 => ("TurnedCardsModel", "front", "[I", true)
  | 17 => ("TurnedCardsModel", "back", "[I", true)
  | 18 => ("TurnedCardsModel", "slants", "[I", true)
  | 19 => ("TurnedCardsModel", "picture", "[I", true)
  | 20 => ("TurnedCardsModel", "height", "I", false)
  | 21 => ("TurnedCardsModel", "floats", "I", false)
  | 22 => ("TurnedCardsModel", "best", "[I", true)
  | 23 => ("TurnedCardsModel", "found", "[I", true)
  | 24 => ("TurnedCardsModel", "all", "[I", true)
  | _ => ("TurnedCardsModel", "twisted", "I", false)
def tyX3 : Nat → FieldType := fun k => match k with
  | 0 => .int
  | 1 => .int
  | 2 => .int
  | 3 => .array .int
  | 4 => .array .int
  | 5 => .array .int
  | 6 => .array .int
  | 7 => .array .int
  | 8 => .array .int
  | 9 => .array .int
  | 10 => .array .int
  | 11 => .array .int
  | 12 => .array .int
  | 13 => .array .int
  | 14 => .array .int
  | 15 => .array .int
  | 16 => .array .int
  | 17 => .array .int
  | 18 => .array .int
  | 19 => .array .int
  | 20 => .int
  | 21 => .int
  | 22 => .array .int
  | 23 => .array .int
  | 24 => .array .int
  | _ => .int
theorem nmX3 : ∀ a, a < 26 → ∀ b, b < 26 → a ≠ b → (TX3 a).2.1 ≠ (TX3 b).2.1 := by decide +kernel
theorem tyX3_ok : ∀ k, k < 26 → parseFieldDescriptor (TX3 k).2.2.1 = some (tyX3 k) := by decide +kernel
abbrev cX3_init : ByteArray := prog_5_method_1_code
def yX3_init : MethodName := ⟨RX3, "<init>", "()V"⟩
abbrev cX3_in : ByteArray := prog_5_method_3_code
def yX3_in : MethodName := ⟨RX3, "in", "(JJJ)Z"⟩
abbrev cX3_size : ByteArray := prog_5_method_4_code
def yX3_size : MethodName := ⟨RX3, "size", "(I)I"⟩
abbrev cX3_noCard : ByteArray := prog_5_method_5_code
def yX3_noCard : MethodName := ⟨RX3, "noCard", "(I)Z"⟩
abbrev cX3_noPick : ByteArray := prog_5_method_6_code
def yX3_noPick : MethodName := ⟨RX3, "noPick", "(I)Z"⟩
abbrev cX3_begin : ByteArray := prog_5_method_7_code
def yX3_begin : MethodName := ⟨RX3, "begin", "(I)V"⟩
abbrev cX3_cards : ByteArray := prog_5_method_8_code
def yX3_cards : MethodName := ⟨RX3, "cards", "(I)I"⟩
abbrev cX3_thread : ByteArray := prog_5_method_9_code
def yX3_thread : MethodName := ⟨RX3, "thread", "(III)I"⟩
abbrev cX3_way : ByteArray := prog_5_method_10_code
def yX3_way : MethodName := ⟨RX3, "way", "(II)I"⟩
abbrev cX3_flip : ByteArray := prog_5_method_11_code
def yX3_flip : MethodName := ⟨RX3, "flip", "(I)I"⟩
abbrev cX3_pack : ByteArray := prog_5_method_12_code
def yX3_pack : MethodName := ⟨RX3, "pack", "(II)I"⟩
abbrev cX3_about : ByteArray := prog_5_method_13_code
def yX3_about : MethodName := ⟨RX3, "about", "(II)I"⟩
abbrev cX3_at : ByteArray := prog_5_method_14_code
def yX3_at : MethodName := ⟨RX3, "at", "(II)I"⟩
abbrev cX3_keep : ByteArray := prog_5_method_15_code
def yX3_keep : MethodName := ⟨RX3, "keep", "(I)V"⟩
abbrev cX3_move : ByteArray := prog_5_method_16_code
def yX3_move : MethodName := ⟨RX3, "move", "(II)V"⟩
abbrev cX3_make : ByteArray := prog_5_method_17_code
def yX3_make : MethodName := ⟨RX3, "make", "(II)V"⟩
abbrev cX3_pick : ByteArray := prog_5_method_18_code
def yX3_pick : MethodName := ⟨RX3, "pick", "(II)I"⟩
abbrev cX3_packs : ByteArray := prog_5_method_19_code
def yX3_packs : MethodName := ⟨RX3, "packs", "(IIII)I"⟩
abbrev cX3_unweave : ByteArray := prog_5_method_20_code
def yX3_unweave : MethodName := ⟨RX3, "unweave", "()I"⟩
abbrev cX3_turn : ByteArray := prog_5_method_21_code
def yX3_turn : MethodName := ⟨RX3, "turn", "(II)I"⟩
abbrev cX3_colourOf : ByteArray := prog_5_method_22_code
def yX3_colourOf : MethodName := ⟨RX3, "colourOf", "(II)I"⟩
abbrev cX3_behindOf : ByteArray := prog_5_method_23_code
def yX3_behindOf : MethodName := ⟨RX3, "behindOf", "(II)I"⟩
abbrev cX3_shows : ByteArray := prog_5_method_24_code
def yX3_shows : MethodName := ⟨RX3, "shows", "(IIZ)I"⟩
abbrev cX3_shown : ByteArray := prog_5_method_25_code
def yX3_shown : MethodName := ⟨RX3, "shown", "(IIZ)I"⟩
abbrev cX3_slant : ByteArray := prog_5_method_26_code
def yX3_slant : MethodName := ⟨RX3, "slant", "(II)I"⟩
abbrev cX3_longest : ByteArray := prog_5_method_27_code
def yX3_longest : MethodName := ⟨RX3, "longest", "(I)I"⟩
abbrev cX3_many : ByteArray := prog_5_method_28_code
def yX3_many : MethodName := ⟨RX3, "many", "(II)I"⟩
abbrev cX3_isLike : ByteArray := prog_5_method_29_code
def yX3_isLike : MethodName := ⟨RX3, "isLike", "(II)Z"⟩
abbrev cX3_repeat : ByteArray := prog_5_method_30_code
def yX3_repeat : MethodName := ⟨RX3, "repeat", "()I"⟩
abbrev cX3_is : ByteArray := prog_5_method_31_code
def yX3_is : MethodName := ⟨RX3, "is", "(I)I"⟩
abbrev cX3_rows : ByteArray := prog_5_method_32_code
def yX3_rows : MethodName := ⟨RX3, "rows", "()I"⟩
abbrev cX3_worst : ByteArray := prog_5_method_33_code
def yX3_worst : MethodName := ⟨RX3, "worst", "(Z)I"⟩
abbrev cX3_goes : ByteArray := prog_5_method_34_code
def yX3_goes : MethodName := ⟨RX3, "goes", "(III)Z"⟩
abbrev cX3_goingOf : ByteArray := prog_5_method_35_code
def yX3_goingOf : MethodName := ⟨RX3, "goingOf", "(II)I"⟩
abbrev cX3_going : ByteArray := prog_5_method_36_code
def yX3_going : MethodName := ⟨RX3, "going", "(II)I"⟩
abbrev cX3_evens : ByteArray := prog_5_method_37_code
def yX3_evens : MethodName := ⟨RX3, "evens", "(I)I"⟩
abbrev cX3_paint : ByteArray := prog_5_method_38_code
def yX3_paint : MethodName := ⟨RX3, "paint", "(III)I"⟩
abbrev cX3_rule : ByteArray := prog_5_method_39_code
def yX3_rule : MethodName := ⟨RX3, "rule", "(II)I"⟩
abbrev cX3_fits : ByteArray := prog_5_method_40_code
def yX3_fits : MethodName := ⟨RX3, "fits", "(III)Z"⟩
abbrev cX3_seenRows : ByteArray := prog_5_method_41_code
def yX3_seenRows : MethodName := ⟨RX3, "seenRows", "()I"⟩
abbrev cX3_unlike : ByteArray := prog_5_method_42_code
def yX3_unlike : MethodName := ⟨RX3, "unlike", "()I"⟩
abbrev cX3_lies : ByteArray := prog_5_method_43_code
def yX3_lies : MethodName := ⟨RX3, "lies", "(III)I"⟩
abbrev cX3_spot : ByteArray := prog_5_method_44_code
def yX3_spot : MethodName := ⟨RX3, "spot", "(IIIII)I"⟩
abbrev cX3_by : ByteArray := prog_5_method_45_code
def yX3_by : MethodName := ⟨RX3, "by", "(IIIIIII)I"⟩
abbrev cX3_look : ByteArray := prog_5_method_46_code
def yX3_look : MethodName := ⟨RX3, "look", "(I)I"⟩
abbrev cX3_idles : ByteArray := prog_5_method_47_code
def yX3_idles : MethodName := ⟨RX3, "idles", "(I)I"⟩
abbrev cX3_turning : ByteArray := prog_5_method_48_code
def yX3_turning : MethodName := ⟨RX3, "turning", "(II)I"⟩
abbrev cX3_behind : ByteArray := prog_5_method_49_code
def yX3_behind : MethodName := ⟨RX3, "behind", "(I)I"⟩
abbrev cX3_weave : ByteArray := prog_5_method_50_code
def yX3_weave : MethodName := ⟨RX3, "weave", "()I"⟩
abbrev cX3_quarrelOf : ByteArray := prog_5_method_51_code
def yX3_quarrelOf : MethodName := ⟨RX3, "quarrelOf", "(I)I"⟩
abbrev cX3_threading : ByteArray := prog_5_method_52_code
def yX3_threading : MethodName := ⟨RX3, "threading", "(II)I"⟩
abbrev cX3_quarrel : ByteArray := prog_5_method_53_code
def yX3_quarrel : MethodName := ⟨RX3, "quarrel", "(I)I"⟩
abbrev cX3_would : ByteArray := prog_5_method_54_code
def yX3_would : MethodName := ⟨RX3, "would", "(III)Z"⟩
abbrev cX3_wrongOf : ByteArray := prog_5_method_55_code
def yX3_wrongOf : MethodName := ⟨RX3, "wrongOf", "(IIZ)I"⟩
abbrev cX3_wrongs : ByteArray := prog_5_method_56_code
def yX3_wrongs : MethodName := ⟨RX3, "wrongs", "(I)I"⟩
abbrev cX3_wrong : ByteArray := prog_5_method_57_code
def yX3_wrong : MethodName := ⟨RX3, "wrong", "(II)I"⟩
abbrev cX3_count : ByteArray := prog_5_method_58_code
def yX3_count : MethodName := ⟨RX3, "count", "(I)I"⟩
def RJ6 : String := "java/lang/Integer"
def TJ6 : u_T := fun k => match k with
  | _ => ("", "", "", false)
def tyJ6 : Nat → FieldType := fun k => match k with
  | _ => .int
theorem nmJ6 : ∀ a, a < 0 → ∀ b, b < 0 → a ≠ b → (TJ6 a).2.1 ≠ (TJ6 b).2.1 := by decide +kernel
theorem tyJ6_ok : ∀ k, k < 0 → parseFieldDescriptor (TJ6 k).2.2.1 = some (tyJ6 k) := by decide +kernel
abbrev cJ6_bitCount_0f7a4 : ByteArray := prog_6_method_49_code
def yJ6_bitCount_0f7a4 : MethodName := ⟨RJ6, "bitCount", "(I)I"⟩
def RJ9 : String := "java/lang/Math"
def TJ9 : u_T := fun k => match k with
  | _ => ("", "", "", false)
def tyJ9 : Nat → FieldType := fun k => match k with
  | _ => .int
theorem nmJ9 : ∀ a, a < 0 → ∀ b, b < 0 → a ≠ b → (TJ9 a).2.1 ≠ (TJ9 b).2.1 := by decide +kernel
theorem tyJ9_ok : ∀ k, k < 0 → parseFieldDescriptor (TJ9 k).2.2.1 = some (tyJ9 k) := by decide +kernel
abbrev cJ9_floorMod_7cf53 : ByteArray := prog_7_method_50_code
def yJ9_floorMod_7cf53 : MethodName := ⟨RJ9, "floorMod", "(II)I"⟩
abbrev cJ9_abs_0f7a4 : ByteArray := prog_7_method_59_code
def yJ9_abs_0f7a4 : MethodName := ⟨RJ9, "abs", "(I)I"⟩
abbrev cJ9_max_7cf53 : ByteArray := prog_7_method_65_code
def yJ9_max_7cf53 : MethodName := ⟨RJ9, "max", "(II)I"⟩
abbrev cJ9_min_7cf53 : ByteArray := prog_7_method_69_code
def yJ9_min_7cf53 : MethodName := ⟨RJ9, "min", "(II)I"⟩
def RJ10 : String := "java/lang/System"
def TJ10 : u_T := fun k => match k with
  | _ => ("", "", "", false)
def tyJ10 : Nat → FieldType := fun k => match k with
  | _ => .int
theorem nmJ10 : ∀ a, a < 0 → ∀ b, b < 0 → a ≠ b → (TJ10 a).2.1 ≠ (TJ10 b).2.1 := by decide +kernel
theorem tyJ10_ok : ∀ k, k < 0 → parseFieldDescriptor (TJ10 k).2.2.1 = some (tyJ10 k) := by decide +kernel
def RJ7 : String := "java/util/Arrays"
def TJ7 : u_T := fun k => match k with
  | _ => ("", "", "", false)
def tyJ7 : Nat → FieldType := fun k => match k with
  | _ => .int
theorem nmJ7 : ∀ a, a < 0 → ∀ b, b < 0 → a ≠ b → (TJ7 a).2.1 ≠ (TJ7 b).2.1 := by decide +kernel
theorem tyJ7_ok : ∀ k, k < 0 → parseFieldDescriptor (TJ7 k).2.2.1 = some (tyJ7 k) := by decide +kernel
abbrev cJ7_rangeCheck_23922 : ByteArray := prog_9_method_30_code
def yJ7_rangeCheck_23922 : MethodName := ⟨RJ7, "rangeCheck", "(III)V"⟩
abbrev cJ7_fill_bad5a : ByteArray := prog_9_method_102_code
def yJ7_fill_bad5a : MethodName := ⟨RJ7, "fill", "([JIIJ)V"⟩
abbrev cJ7_fill_53178 : ByteArray := prog_9_method_103_code
def yJ7_fill_53178 : MethodName := ⟨RJ7, "fill", "([II)V"⟩
abbrev cJ7_fill_fda19 : ByteArray := prog_9_method_104_code
def yJ7_fill_fda19 : MethodName := ⟨RJ7, "fill", "([IIII)V"⟩
def RL : String := "TurnedCardsLaw"
abbrev cL_law : ByteArray := code
def yL_law : MethodName := ⟨RL, "law", "([I)Z"⟩
abbrev vwCl : List vw_C := [(RX0, TX0, 15), (RX1, TX1, 8), (RX2, TX2, 7), (RX3, TX3, 26)]
end
section
theorem dX3_init_0 : decode cX3_init 0 = .ok (.aload_n 0, 1) := by decide +kernel
theorem dX3_init_1 : decode cX3_init 1 = .ok (.invokespecial 1, 3) := by decide +kernel
theorem dX3_init_4 : decode cX3_init 4 = .ok (.aload_n 0, 1) := by decide +kernel
theorem dX3_init_5 : decode cX3_init 5 = .ok (.iconst 4, 1) := by decide +kernel
theorem dX3_init_6 : decode cX3_init 6 = .ok (.putfield 7, 3) := by decide +kernel
theorem dX3_init_9 : decode cX3_init 9 = .ok (.aload_n 0, 1) := by decide +kernel
theorem dX3_init_10 : decode cX3_init 10 = .ok (.bipush 64, 2) := by decide +kernel
theorem dX3_init_12 : decode cX3_init 12 = .ok (.newarray .int, 2) := by decide +kernel
theorem dX3_init_14 : decode cX3_init 14 = .ok (.putfield 13, 3) := by decide +kernel
theorem dX3_init_17 : decode cX3_init 17 = .ok (.aload_n 0, 1) := by decide +kernel
theorem dX3_init_18 : decode cX3_init 18 = .ok (.bipush 64, 2) := by decide +kernel
theorem dX3_init_20 : decode cX3_init 20 = .ok (.newarray .int, 2) := by decide +kernel
theorem dX3_init_22 : decode cX3_init 22 = .ok (.putfield 17, 3) := by decide +kernel
theorem dX3_init_25 : decode cX3_init 25 = .ok (.aload_n 0, 1) := by decide +kernel
theorem dX3_init_26 : decode cX3_init 26 = .ok (.bipush 16, 2) := by decide +kernel
theorem dX3_init_28 : decode cX3_init 28 = .ok (.newarray .int, 2) := by decide +kernel
theorem dX3_init_30 : decode cX3_init 30 = .ok (.putfield 20, 3) := by decide +kernel
theorem dX3_init_33 : decode cX3_init 33 = .ok (.aload_n 0, 1) := by decide +kernel
theorem dX3_init_34 : decode cX3_init 34 = .ok (.bipush 16, 2) := by decide +kernel
theorem dX3_init_36 : decode cX3_init 36 = .ok (.newarray .int, 2) := by decide +kernel
theorem dX3_init_38 : decode cX3_init 38 = .ok (.putfield 23, 3) := by decide +kernel
theorem dX3_init_41 : decode cX3_init 41 = .ok (.aload_n 0, 1) := by decide +kernel
theorem dX3_init_42 : decode cX3_init 42 = .ok (.bipush 16, 2) := by decide +kernel
theorem dX3_init_44 : decode cX3_init 44 = .ok (.newarray .int, 2) := by decide +kernel
theorem dX3_init_46 : decode cX3_init 46 = .ok (.putfield 26, 3) := by decide +kernel
theorem dX3_init_49 : decode cX3_init 49 = .ok (.aload_n 0, 1) := by decide +kernel
theorem dX3_init_50 : decode cX3_init 50 = .ok (.bipush 16, 2) := by decide +kernel
theorem dX3_init_52 : decode cX3_init 52 = .ok (.newarray .int, 2) := by decide +kernel
theorem dX3_init_54 : decode cX3_init 54 = .ok (.putfield 29, 3) := by decide +kernel
theorem dX3_init_57 : decode cX3_init 57 = .ok (.aload_n 0, 1) := by decide +kernel
theorem dX3_init_58 : decode cX3_init 58 = .ok (.bipush 16, 2) := by decide +kernel
theorem dX3_init_60 : decode cX3_init 60 = .ok (.newarray .int, 2) := by decide +kernel
theorem dX3_init_62 : decode cX3_init 62 = .ok (.putfield 32, 3) := by decide +kernel
theorem dX3_init_65 : decode cX3_init 65 = .ok (.aload_n 0, 1) := by decide +kernel
theorem dX3_init_66 : decode cX3_init 66 = .ok (.sipush 3840, 3) := by decide +kernel
theorem dX3_init_69 : decode cX3_init 69 = .ok (.newarray .int, 2) := by decide +kernel
theorem dX3_init_71 : decode cX3_init 71 = .ok (.putfield 35, 3) := by decide +kernel
theorem dX3_init_74 : decode cX3_init 74 = .ok (.aload_n 0, 1) := by decide +kernel
theorem dX3_init_75 : decode cX3_init 75 = .ok (.sipush 960, 3) := by decide +kernel
theorem dX3_init_78 : decode cX3_init 78 = .ok (.newarray .int, 2) := by decide +kernel
theorem dX3_init_80 : decode cX3_init 80 = .ok (.putfield 38, 3) := by decide +kernel
theorem dX3_init_83 : decode cX3_init 83 = .ok (.aload_n 0, 1) := by decide +kernel
theorem dX3_init_84 : decode cX3_init 84 = .ok (.sipush 960, 3) := by decide +kernel
theorem dX3_init_87 : decode cX3_init 87 = .ok (.newarray .int, 2) := by decide +kernel
theorem dX3_init_89 : decode cX3_init 89 = .ok (.putfield 41, 3) := by decide +kernel
theorem dX3_init_92 : decode cX3_init 92 = .ok (.aload_n 0, 1) := by decide +kernel
theorem dX3_init_93 : decode cX3_init 93 = .ok (.sipush 960, 3) := by decide +kernel
theorem dX3_init_96 : decode cX3_init 96 = .ok (.newarray .int, 2) := by decide +kernel
theorem dX3_init_98 : decode cX3_init 98 = .ok (.putfield 44, 3) := by decide +kernel
theorem dX3_init_101 : decode cX3_init 101 = .ok (.aload_n 0, 1) := by decide +kernel
theorem dX3_init_102 : decode cX3_init 102 = .ok (.sipush 960, 3) := by decide +kernel
theorem dX3_init_105 : decode cX3_init 105 = .ok (.newarray .int, 2) := by decide +kernel
theorem dX3_init_107 : decode cX3_init 107 = .ok (.putfield 47, 3) := by decide +kernel
theorem dX3_init_110 : decode cX3_init 110 = .ok (.aload_n 0, 1) := by decide +kernel
theorem dX3_init_111 : decode cX3_init 111 = .ok (.sipush 960, 3) := by decide +kernel
theorem dX3_init_114 : decode cX3_init 114 = .ok (.newarray .int, 2) := by decide +kernel
theorem dX3_init_116 : decode cX3_init 116 = .ok (.putfield 50, 3) := by decide +kernel
theorem dX3_init_119 : decode cX3_init 119 = .ok (.aload_n 0, 1) := by decide +kernel
theorem dX3_init_120 : decode cX3_init 120 = .ok (.sipush 960, 3) := by decide +kernel
theorem dX3_init_123 : decode cX3_init 123 = .ok (.newarray .int, 2) := by decide +kernel
theorem dX3_init_125 : decode cX3_init 125 = .ok (.putfield 53, 3) := by decide +kernel
theorem dX3_init_128 : decode cX3_init 128 = .ok (.aload_n 0, 1) := by decide +kernel
theorem dX3_init_129 : decode cX3_init 129 = .ok (.sipush 960, 3) := by decide +kernel
theorem dX3_init_132 : decode cX3_init 132 = .ok (.newarray .int, 2) := by decide +kernel
theorem dX3_init_134 : decode cX3_init 134 = .ok (.putfield 56, 3) := by decide +kernel
theorem dX3_init_137 : decode cX3_init 137 = .ok (.aload_n 0, 1) := by decide +kernel
theorem dX3_init_138 : decode cX3_init 138 = .ok (.sipush 960, 3) := by decide +kernel
theorem dX3_init_141 : decode cX3_init 141 = .ok (.newarray .int, 2) := by decide +kernel
theorem dX3_init_143 : decode cX3_init 143 = .ok (.putfield 59, 3) := by decide +kernel
theorem dX3_init_146 : decode cX3_init 146 = .ok (.aload_n 0, 1) := by decide +kernel
theorem dX3_init_147 : decode cX3_init 147 = .ok (.sipush 480, 3) := by decide +kernel
theorem dX3_init_150 : decode cX3_init 150 = .ok (.newarray .int, 2) := by decide +kernel
theorem dX3_init_152 : decode cX3_init 152 = .ok (.putfield 62, 3) := by decide +kernel
theorem dX3_init_155 : decode cX3_init 155 = .ok (.aload_n 0, 1) := by decide +kernel
theorem dX3_init_156 : decode cX3_init 156 = .ok (.iconst 1, 1) := by decide +kernel
theorem dX3_init_157 : decode cX3_init 157 = .ok (.putfield 65, 3) := by decide +kernel
theorem dX3_init_160 : decode cX3_init 160 = .ok (.aload_n 0, 1) := by decide +kernel
theorem dX3_init_161 : decode cX3_init 161 = .ok (.iconst 3, 1) := by decide +kernel
theorem dX3_init_162 : decode cX3_init 162 = .ok (.putfield 68, 3) := by decide +kernel
theorem dX3_init_165 : decode cX3_init 165 = .ok (.aload_n 0, 1) := by decide +kernel
theorem dX3_init_166 : decode cX3_init 166 = .ok (.ldc 71, 2) := by decide +kernel
theorem dX3_init_168 : decode cX3_init 168 = .ok (.newarray .int, 2) := by decide +kernel
theorem dX3_init_170 : decode cX3_init 170 = .ok (.putfield 72, 3) := by decide +kernel
theorem dX3_init_173 : decode cX3_init 173 = .ok (.aload_n 0, 1) := by decide +kernel
theorem dX3_init_174 : decode cX3_init 174 = .ok (.bipush 30, 2) := by decide +kernel
theorem dX3_init_176 : decode cX3_init 176 = .ok (.newarray .int, 2) := by decide +kernel
theorem dX3_init_178 : decode cX3_init 178 = .ok (.putfield 75, 3) := by decide +kernel
theorem dX3_init_181 : decode cX3_init 181 = .ok (.aload_n 0, 1) := by decide +kernel
theorem dX3_init_182 : decode cX3_init 182 = .ok (.sipush 480, 3) := by decide +kernel
theorem dX3_init_185 : decode cX3_init 185 = .ok (.newarray .int, 2) := by decide +kernel
theorem dX3_init_187 : decode cX3_init 187 = .ok (.putfield 78, 3) := by decide +kernel
theorem dX3_init_190 : decode cX3_init 190 = .ok (.aload_n 0, 1) := by decide +kernel
theorem dX3_init_191 : decode cX3_init 191 = .ok (.iconst 4, 1) := by decide +kernel
theorem dX3_init_192 : decode cX3_init 192 = .ok (.invokevirtual 81, 3) := by decide +kernel
theorem dX3_init_195 : decode cX3_init 195 = .ok (.return_, 1) := by decide +kernel
theorem dX3_in_0 : decode cX3_in 0 = .ok (.lload_n 0, 1) := by decide +kernel
theorem dX3_in_1 : decode cX3_in 1 = .ok (.lload_n 2, 1) := by decide +kernel
theorem dX3_in_2 : decode cX3_in 2 = .ok (.lcmp, 1) := by decide +kernel
theorem dX3_in_3 : decode cX3_in 3 = .ok (.ifCond .lt 14, 3) := by decide +kernel
theorem dX3_in_6 : decode cX3_in 6 = .ok (.lload_n 0, 1) := by decide +kernel
theorem dX3_in_7 : decode cX3_in 7 = .ok (.lload 4, 2) := by decide +kernel
theorem dX3_in_9 : decode cX3_in 9 = .ok (.lcmp, 1) := by decide +kernel
theorem dX3_in_10 : decode cX3_in 10 = .ok (.ifCond .gt 7, 3) := by decide +kernel
theorem dX3_in_13 : decode cX3_in 13 = .ok (.iconst 1, 1) := by decide +kernel
theorem dX3_in_14 : decode cX3_in 14 = .ok (.goto 4, 3) := by decide +kernel
theorem dX3_in_17 : decode cX3_in 17 = .ok (.iconst 0, 1) := by decide +kernel
theorem dX3_in_18 : decode cX3_in 18 = .ok (.ireturn, 1) := by decide +kernel
theorem dX3_size_0 : decode cX3_size 0 = .ok (.iload_n 0, 1) := by decide +kernel
theorem dX3_size_1 : decode cX3_size 1 = .ok (.ifCond .ge 8, 3) := by decide +kernel
theorem dX3_size_4 : decode cX3_size 4 = .ok (.iload_n 0, 1) := by decide +kernel
theorem dX3_size_5 : decode cX3_size 5 = .ok (.ineg, 1) := by decide +kernel
theorem dX3_size_6 : decode cX3_size 6 = .ok (.goto 4, 3) := by decide +kernel
theorem dX3_size_9 : decode cX3_size 9 = .ok (.iload_n 0, 1) := by decide +kernel
theorem dX3_size_10 : decode cX3_size 10 = .ok (.ireturn, 1) := by decide +kernel
theorem dX3_noCard_0 : decode cX3_noCard 0 = .ok (.iload_n 1, 1) := by decide +kernel
theorem dX3_noCard_1 : decode cX3_noCard 1 = .ok (.i2l, 1) := by decide +kernel
theorem dX3_noCard_2 : decode cX3_noCard 2 = .ok (.lconst 0, 1) := by decide +kernel
theorem dX3_noCard_3 : decode cX3_noCard 3 = .ok (.aload_n 0, 1) := by decide +kernel
theorem dX3_noCard_4 : decode cX3_noCard 4 = .ok (.getfield 7, 3) := by decide +kernel
theorem dX3_noCard_7 : decode cX3_noCard 7 = .ok (.iconst 1, 1) := by decide +kernel
theorem dX3_noCard_8 : decode cX3_noCard 8 = .ok (.isub, 1) := by decide +kernel
theorem dX3_noCard_9 : decode cX3_noCard 9 = .ok (.i2l, 1) := by decide +kernel
theorem dX3_noCard_10 : decode cX3_noCard 10 = .ok (.invokestatic 88, 3) := by decide +kernel
theorem dX3_noCard_13 : decode cX3_noCard 13 = .ok (.ifCond .ne 7, 3) := by decide +kernel
theorem dX3_noCard_16 : decode cX3_noCard 16 = .ok (.iconst 1, 1) := by decide +kernel
theorem dX3_noCard_17 : decode cX3_noCard 17 = .ok (.goto 4, 3) := by decide +kernel
theorem dX3_noCard_20 : decode cX3_noCard 20 = .ok (.iconst 0, 1) := by decide +kernel
theorem dX3_noCard_21 : decode cX3_noCard 21 = .ok (.ireturn, 1) := by decide +kernel
theorem dX3_noPick_0 : decode cX3_noPick 0 = .ok (.iload_n 1, 1) := by decide +kernel
theorem dX3_noPick_1 : decode cX3_noPick 1 = .ok (.i2l, 1) := by decide +kernel
theorem dX3_noPick_2 : decode cX3_noPick 2 = .ok (.lconst 0, 1) := by decide +kernel
theorem dX3_noPick_3 : decode cX3_noPick 3 = .ok (.aload_n 0, 1) := by decide +kernel
theorem dX3_noPick_4 : decode cX3_noPick 4 = .ok (.getfield 92, 3) := by decide +kernel
theorem dX3_noPick_7 : decode cX3_noPick 7 = .ok (.iconst 1, 1) := by decide +kernel
theorem dX3_noPick_8 : decode cX3_noPick 8 = .ok (.isub, 1) := by decide +kernel
theorem dX3_noPick_9 : decode cX3_noPick 9 = .ok (.i2l, 1) := by decide +kernel
theorem dX3_noPick_10 : decode cX3_noPick 10 = .ok (.invokestatic 88, 3) := by decide +kernel
theorem dX3_noPick_13 : decode cX3_noPick 13 = .ok (.ifCond .ne 7, 3) := by decide +kernel
theorem dX3_noPick_16 : decode cX3_noPick 16 = .ok (.iconst 1, 1) := by decide +kernel
theorem dX3_noPick_17 : decode cX3_noPick 17 = .ok (.goto 4, 3) := by decide +kernel
theorem dX3_noPick_20 : decode cX3_noPick 20 = .ok (.iconst 0, 1) := by decide +kernel
theorem dX3_noPick_21 : decode cX3_noPick 21 = .ok (.ireturn, 1) := by decide +kernel
theorem dX3_begin_0 : decode cX3_begin 0 = .ok (.aload_n 0, 1) := by decide +kernel
theorem dX3_begin_1 : decode cX3_begin 1 = .ok (.iload_n 1, 1) := by decide +kernel
theorem dX3_begin_2 : decode cX3_begin 2 = .ok (.putfield 7, 3) := by decide +kernel
theorem dX3_begin_5 : decode cX3_begin 5 = .ok (.aload_n 0, 1) := by decide +kernel
theorem dX3_begin_6 : decode cX3_begin 6 = .ok (.iconst 0, 1) := by decide +kernel
theorem dX3_begin_7 : decode cX3_begin 7 = .ok (.putfield 92, 3) := by decide +kernel
theorem dX3_begin_10 : decode cX3_begin 10 = .ok (.aload_n 0, 1) := by decide +kernel
theorem dX3_begin_11 : decode cX3_begin 11 = .ok (.iconst 1, 1) := by decide +kernel
theorem dX3_begin_12 : decode cX3_begin 12 = .ok (.putfield 65, 3) := by decide +kernel
theorem dX3_begin_15 : decode cX3_begin 15 = .ok (.aload_n 0, 1) := by decide +kernel
theorem dX3_begin_16 : decode cX3_begin 16 = .ok (.iconst 3, 1) := by decide +kernel
theorem dX3_begin_17 : decode cX3_begin 17 = .ok (.putfield 68, 3) := by decide +kernel
theorem dX3_begin_20 : decode cX3_begin 20 = .ok (.iconst 0, 1) := by decide +kernel
theorem dX3_begin_21 : decode cX3_begin 21 = .ok (.istore_n 2, 1) := by decide +kernel
theorem dX3_begin_22 : decode cX3_begin 22 = .ok (.iload_n 2, 1) := by decide +kernel
theorem dX3_begin_23 : decode cX3_begin 23 = .ok (.bipush 64, 2) := by decide +kernel
theorem dX3_begin_25 : decode cX3_begin 25 = .ok (.if_icmp .ge 27, 3) := by decide +kernel
theorem dX3_begin_28 : decode cX3_begin 28 = .ok (.aload_n 0, 1) := by decide +kernel
theorem dX3_begin_29 : decode cX3_begin 29 = .ok (.getfield 13, 3) := by decide +kernel
theorem dX3_begin_32 : decode cX3_begin 32 = .ok (.iload_n 2, 1) := by decide +kernel
theorem dX3_begin_33 : decode cX3_begin 33 = .ok (.iload_n 2, 1) := by decide +kernel
theorem dX3_begin_34 : decode cX3_begin 34 = .ok (.iconst 4, 1) := by decide +kernel
theorem dX3_begin_35 : decode cX3_begin 35 = .ok (.irem, 1) := by decide +kernel
theorem dX3_begin_36 : decode cX3_begin 36 = .ok (.iastore, 1) := by decide +kernel
theorem dX3_begin_37 : decode cX3_begin 37 = .ok (.aload_n 0, 1) := by decide +kernel
theorem dX3_begin_38 : decode cX3_begin 38 = .ok (.getfield 17, 3) := by decide +kernel
theorem dX3_begin_41 : decode cX3_begin 41 = .ok (.iload_n 2, 1) := by decide +kernel
theorem dX3_begin_42 : decode cX3_begin 42 = .ok (.iload_n 2, 1) := by decide +kernel
theorem dX3_begin_43 : decode cX3_begin 43 = .ok (.iconst 4, 1) := by decide +kernel
theorem dX3_begin_44 : decode cX3_begin 44 = .ok (.irem, 1) := by decide +kernel
theorem dX3_begin_45 : decode cX3_begin 45 = .ok (.iastore, 1) := by decide +kernel
theorem dX3_begin_46 : decode cX3_begin 46 = .ok (.iinc 2 1, 3) := by decide +kernel
theorem dX3_begin_49 : decode cX3_begin 49 = .ok (.goto (-27), 3) := by decide +kernel
theorem dX3_begin_52 : decode cX3_begin 52 = .ok (.iconst 0, 1) := by decide +kernel
theorem dX3_begin_53 : decode cX3_begin 53 = .ok (.istore_n 2, 1) := by decide +kernel
theorem dX3_begin_54 : decode cX3_begin 54 = .ok (.iload_n 2, 1) := by decide +kernel
theorem dX3_begin_55 : decode cX3_begin 55 = .ok (.bipush 16, 2) := by decide +kernel
theorem dX3_begin_57 : decode cX3_begin 57 = .ok (.if_icmp .ge 44, 3) := by decide +kernel
theorem dX3_begin_60 : decode cX3_begin 60 = .ok (.aload_n 0, 1) := by decide +kernel
theorem dX3_begin_61 : decode cX3_begin 61 = .ok (.getfield 20, 3) := by decide +kernel
theorem dX3_begin_64 : decode cX3_begin 64 = .ok (.iload_n 2, 1) := by decide +kernel
theorem dX3_begin_65 : decode cX3_begin 65 = .ok (.iconst 0, 1) := by decide +kernel
theorem dX3_begin_66 : decode cX3_begin 66 = .ok (.iastore, 1) := by decide +kernel
theorem dX3_begin_67 : decode cX3_begin 67 = .ok (.aload_n 0, 1) := by decide +kernel
theorem dX3_begin_68 : decode cX3_begin 68 = .ok (.getfield 23, 3) := by decide +kernel
theorem dX3_begin_71 : decode cX3_begin 71 = .ok (.iload_n 2, 1) := by decide +kernel
theorem dX3_begin_72 : decode cX3_begin 72 = .ok (.iconst 0, 1) := by decide +kernel
theorem dX3_begin_73 : decode cX3_begin 73 = .ok (.iastore, 1) := by decide +kernel
theorem dX3_begin_74 : decode cX3_begin 74 = .ok (.aload_n 0, 1) := by decide +kernel
theorem dX3_begin_75 : decode cX3_begin 75 = .ok (.getfield 26, 3) := by decide +kernel
theorem dX3_begin_78 : decode cX3_begin 78 = .ok (.iload_n 2, 1) := by decide +kernel
theorem dX3_begin_79 : decode cX3_begin 79 = .ok (.iconst 0, 1) := by decide +kernel
theorem dX3_begin_80 : decode cX3_begin 80 = .ok (.iastore, 1) := by decide +kernel
theorem dX3_begin_81 : decode cX3_begin 81 = .ok (.aload_n 0, 1) := by decide +kernel
theorem dX3_begin_82 : decode cX3_begin 82 = .ok (.getfield 29, 3) := by decide +kernel
theorem dX3_begin_85 : decode cX3_begin 85 = .ok (.iload_n 2, 1) := by decide +kernel
theorem dX3_begin_86 : decode cX3_begin 86 = .ok (.iconst 0, 1) := by decide +kernel
theorem dX3_begin_87 : decode cX3_begin 87 = .ok (.iastore, 1) := by decide +kernel
theorem dX3_begin_88 : decode cX3_begin 88 = .ok (.aload_n 0, 1) := by decide +kernel
theorem dX3_begin_89 : decode cX3_begin 89 = .ok (.getfield 32, 3) := by decide +kernel
theorem dX3_begin_92 : decode cX3_begin 92 = .ok (.iload_n 2, 1) := by decide +kernel
theorem dX3_begin_93 : decode cX3_begin 93 = .ok (.iconst 0, 1) := by decide +kernel
theorem dX3_begin_94 : decode cX3_begin 94 = .ok (.iastore, 1) := by decide +kernel
theorem dX3_begin_95 : decode cX3_begin 95 = .ok (.iinc 2 1, 3) := by decide +kernel
theorem dX3_begin_98 : decode cX3_begin 98 = .ok (.goto (-44), 3) := by decide +kernel
theorem dX3_begin_101 : decode cX3_begin 101 = .ok (.iconst 0, 1) := by decide +kernel
theorem dX3_begin_102 : decode cX3_begin 102 = .ok (.istore_n 2, 1) := by decide +kernel
theorem dX3_begin_103 : decode cX3_begin 103 = .ok (.iload_n 2, 1) := by decide +kernel
theorem dX3_begin_104 : decode cX3_begin 104 = .ok (.sipush 480, 3) := by decide +kernel
theorem dX3_begin_107 : decode cX3_begin 107 = .ok (.if_icmp .ge 17, 3) := by decide +kernel
theorem dX3_begin_110 : decode cX3_begin 110 = .ok (.aload_n 0, 1) := by decide +kernel
theorem dX3_begin_111 : decode cX3_begin 111 = .ok (.getfield 62, 3) := by decide +kernel
theorem dX3_begin_114 : decode cX3_begin 114 = .ok (.iload_n 2, 1) := by decide +kernel
theorem dX3_begin_115 : decode cX3_begin 115 = .ok (.bipush (-99), 2) := by decide +kernel
theorem dX3_begin_117 : decode cX3_begin 117 = .ok (.iastore, 1) := by decide +kernel
theorem dX3_begin_118 : decode cX3_begin 118 = .ok (.iinc 2 1, 3) := by decide +kernel
theorem dX3_begin_121 : decode cX3_begin 121 = .ok (.goto (-18), 3) := by decide +kernel
theorem dX3_begin_124 : decode cX3_begin 124 = .ok (.return_, 1) := by decide +kernel
theorem dX3_cards_0 : decode cX3_cards 0 = .ok (.aload_n 0, 1) := by decide +kernel
theorem dX3_cards_1 : decode cX3_cards 1 = .ok (.iconst 0, 1) := by decide +kernel
theorem dX3_cards_2 : decode cX3_cards 2 = .ok (.putfield 85, 3) := by decide +kernel
theorem dX3_cards_5 : decode cX3_cards 5 = .ok (.iload_n 1, 1) := by decide +kernel
theorem dX3_cards_6 : decode cX3_cards 6 = .ok (.i2l, 1) := by decide +kernel
theorem dX3_cards_7 : decode cX3_cards 7 = .ok (.lconst 1, 1) := by decide +kernel
theorem dX3_cards_8 : decode cX3_cards 8 = .ok (.ldc2_w 95, 3) := by decide +kernel
theorem dX3_cards_11 : decode cX3_cards 11 = .ok (.invokestatic 88, 3) := by decide +kernel
theorem dX3_cards_14 : decode cX3_cards 14 = .ok (.ifCond .ne 6, 3) := by decide +kernel
theorem dX3_cards_17 : decode cX3_cards 17 = .ok (.bipush (-2), 2) := by decide +kernel
theorem dX3_cards_19 : decode cX3_cards 19 = .ok (.ireturn, 1) := by decide +kernel
theorem dX3_cards_20 : decode cX3_cards 20 = .ok (.aload_n 0, 1) := by decide +kernel
theorem dX3_cards_21 : decode cX3_cards 21 = .ok (.getfield 7, 3) := by decide +kernel
theorem dX3_cards_24 : decode cX3_cards 24 = .ok (.istore_n 2, 1) := by decide +kernel
theorem dX3_cards_25 : decode cX3_cards 25 = .ok (.aload_n 0, 1) := by decide +kernel
theorem dX3_cards_26 : decode cX3_cards 26 = .ok (.iload_n 1, 1) := by decide +kernel
theorem dX3_cards_27 : decode cX3_cards 27 = .ok (.invokevirtual 81, 3) := by decide +kernel
theorem dX3_cards_30 : decode cX3_cards 30 = .ok (.iload_n 2, 1) := by decide +kernel
theorem dX3_cards_31 : decode cX3_cards 31 = .ok (.ireturn, 1) := by decide +kernel
theorem dX3_thread_0 : decode cX3_thread 0 = .ok (.aload_n 0, 1) := by decide +kernel
theorem dX3_thread_1 : decode cX3_thread 1 = .ok (.iconst 0, 1) := by decide +kernel
theorem dX3_thread_2 : decode cX3_thread 2 = .ok (.putfield 85, 3) := by decide +kernel
theorem dX3_thread_5 : decode cX3_thread 5 = .ok (.aload_n 0, 1) := by decide +kernel
theorem dX3_thread_6 : decode cX3_thread 6 = .ok (.iload_n 1, 1) := by decide +kernel
theorem dX3_thread_7 : decode cX3_thread 7 = .ok (.invokevirtual 97, 3) := by decide +kernel
theorem dX3_thread_10 : decode cX3_thread 10 = .ok (.ifCond .ne 15, 3) := by decide +kernel
theorem dX3_thread_13 : decode cX3_thread 13 = .ok (.iload_n 2, 1) := by decide +kernel
theorem dX3_thread_14 : decode cX3_thread 14 = .ok (.i2l, 1) := by decide +kernel
theorem dX3_thread_15 : decode cX3_thread 15 = .ok (.lconst 0, 1) := by decide +kernel
theorem dX3_thread_16 : decode cX3_thread 16 = .ok (.ldc2_w 101, 3) := by decide +kernel
theorem dX3_thread_19 : decode cX3_thread 19 = .ok (.invokestatic 88, 3) := by decide +kernel
theorem dX3_thread_22 : decode cX3_thread 22 = .ok (.ifCond .ne 5, 3) := by decide +kernel
theorem dX3_thread_25 : decode cX3_thread 25 = .ok (.iconst (-1), 1) := by decide +kernel
theorem dX3_thread_26 : decode cX3_thread 26 = .ok (.ireturn, 1) := by decide +kernel
theorem dX3_thread_27 : decode cX3_thread 27 = .ok (.iload_n 3, 1) := by decide +kernel
theorem dX3_thread_28 : decode cX3_thread 28 = .ok (.i2l, 1) := by decide +kernel
theorem dX3_thread_29 : decode cX3_thread 29 = .ok (.lconst 0, 1) := by decide +kernel
theorem dX3_thread_30 : decode cX3_thread 30 = .ok (.ldc2_w 103, 3) := by decide +kernel
theorem dX3_thread_33 : decode cX3_thread 33 = .ok (.invokestatic 88, 3) := by decide +kernel
theorem dX3_thread_36 : decode cX3_thread 36 = .ok (.ifCond .ne 6, 3) := by decide +kernel
theorem dX3_thread_39 : decode cX3_thread 39 = .ok (.bipush (-2), 2) := by decide +kernel
theorem dX3_thread_41 : decode cX3_thread 41 = .ok (.ireturn, 1) := by decide +kernel
theorem dX3_thread_42 : decode cX3_thread 42 = .ok (.aload_n 0, 1) := by decide +kernel
theorem dX3_thread_43 : decode cX3_thread 43 = .ok (.getfield 92, 3) := by decide +kernel
theorem dX3_thread_46 : decode cX3_thread 46 = .ok (.ifCond .le 6, 3) := by decide +kernel
theorem dX3_thread_49 : decode cX3_thread 49 = .ok (.bipush (-3), 2) := by decide +kernel
theorem dX3_thread_51 : decode cX3_thread 51 = .ok (.ireturn, 1) := by decide +kernel
theorem dX3_thread_52 : decode cX3_thread 52 = .ok (.aload_n 0, 1) := by decide +kernel
theorem dX3_thread_53 : decode cX3_thread 53 = .ok (.getfield 13, 3) := by decide +kernel
theorem dX3_thread_56 : decode cX3_thread 56 = .ok (.iconst 4, 1) := by decide +kernel
theorem dX3_thread_57 : decode cX3_thread 57 = .ok (.iload_n 1, 1) := by decide +kernel
theorem dX3_thread_58 : decode cX3_thread 58 = .ok (.imul, 1) := by decide +kernel
theorem dX3_thread_59 : decode cX3_thread 59 = .ok (.iload_n 2, 1) := by decide +kernel
theorem dX3_thread_60 : decode cX3_thread 60 = .ok (.iadd, 1) := by decide +kernel
theorem dX3_thread_61 : decode cX3_thread 61 = .ok (.iaload, 1) := by decide +kernel
theorem dX3_thread_62 : decode cX3_thread 62 = .ok (.istore 4, 2) := by decide +kernel
theorem dX3_thread_64 : decode cX3_thread 64 = .ok (.aload_n 0, 1) := by decide +kernel
theorem dX3_thread_65 : decode cX3_thread 65 = .ok (.getfield 13, 3) := by decide +kernel
theorem dX3_thread_68 : decode cX3_thread 68 = .ok (.iconst 4, 1) := by decide +kernel
theorem dX3_thread_69 : decode cX3_thread 69 = .ok (.iload_n 1, 1) := by decide +kernel
theorem dX3_thread_70 : decode cX3_thread 70 = .ok (.imul, 1) := by decide +kernel
theorem dX3_thread_71 : decode cX3_thread 71 = .ok (.iload_n 2, 1) := by decide +kernel
theorem dX3_thread_72 : decode cX3_thread 72 = .ok (.iadd, 1) := by decide +kernel
theorem dX3_thread_73 : decode cX3_thread 73 = .ok (.iload_n 3, 1) := by decide +kernel
theorem dX3_thread_74 : decode cX3_thread 74 = .ok (.iastore, 1) := by decide +kernel
theorem dX3_thread_75 : decode cX3_thread 75 = .ok (.iload 4, 2) := by decide +kernel
theorem dX3_thread_77 : decode cX3_thread 77 = .ok (.ireturn, 1) := by decide +kernel
theorem dX3_way_0 : decode cX3_way 0 = .ok (.aload_n 0, 1) := by decide +kernel
theorem dX3_way_1 : decode cX3_way 1 = .ok (.iconst 0, 1) := by decide +kernel
theorem dX3_way_2 : decode cX3_way 2 = .ok (.putfield 85, 3) := by decide +kernel
theorem dX3_way_5 : decode cX3_way 5 = .ok (.aload_n 0, 1) := by decide +kernel
theorem dX3_way_6 : decode cX3_way 6 = .ok (.iload_n 1, 1) := by decide +kernel
theorem dX3_way_7 : decode cX3_way 7 = .ok (.invokevirtual 97, 3) := by decide +kernel
theorem dX3_way_10 : decode cX3_way 10 = .ok (.ifCond .eq 5, 3) := by decide +kernel
theorem dX3_way_13 : decode cX3_way 13 = .ok (.iconst (-1), 1) := by decide +kernel
theorem dX3_way_14 : decode cX3_way 14 = .ok (.ireturn, 1) := by decide +kernel
theorem dX3_way_15 : decode cX3_way 15 = .ok (.iload_n 2, 1) := by decide +kernel
theorem dX3_way_16 : decode cX3_way 16 = .ok (.i2l, 1) := by decide +kernel
theorem dX3_way_17 : decode cX3_way 17 = .ok (.lconst 0, 1) := by decide +kernel
theorem dX3_way_18 : decode cX3_way 18 = .ok (.lconst 1, 1) := by decide +kernel
theorem dX3_way_19 : decode cX3_way 19 = .ok (.invokestatic 88, 3) := by decide +kernel
theorem dX3_way_22 : decode cX3_way 22 = .ok (.ifCond .ne 6, 3) := by decide +kernel
theorem dX3_way_25 : decode cX3_way 25 = .ok (.bipush (-2), 2) := by decide +kernel
theorem dX3_way_27 : decode cX3_way 27 = .ok (.ireturn, 1) := by decide +kernel
theorem dX3_way_28 : decode cX3_way 28 = .ok (.aload_n 0, 1) := by decide +kernel
theorem dX3_way_29 : decode cX3_way 29 = .ok (.getfield 92, 3) := by decide +kernel
theorem dX3_way_32 : decode cX3_way 32 = .ok (.ifCond .le 6, 3) := by decide +kernel
theorem dX3_way_35 : decode cX3_way 35 = .ok (.bipush (-3), 2) := by decide +kernel
theorem dX3_way_37 : decode cX3_way 37 = .ok (.ireturn, 1) := by decide +kernel
theorem dX3_way_38 : decode cX3_way 38 = .ok (.aload_n 0, 1) := by decide +kernel
theorem dX3_way_39 : decode cX3_way 39 = .ok (.getfield 20, 3) := by decide +kernel
theorem dX3_way_42 : decode cX3_way 42 = .ok (.iload_n 1, 1) := by decide +kernel
theorem dX3_way_43 : decode cX3_way 43 = .ok (.iaload, 1) := by decide +kernel
theorem dX3_way_44 : decode cX3_way 44 = .ok (.istore_n 3, 1) := by decide +kernel
theorem dX3_way_45 : decode cX3_way 45 = .ok (.aload_n 0, 1) := by decide +kernel
theorem dX3_way_46 : decode cX3_way 46 = .ok (.getfield 20, 3) := by decide +kernel
theorem dX3_way_49 : decode cX3_way 49 = .ok (.iload_n 1, 1) := by decide +kernel
theorem dX3_way_50 : decode cX3_way 50 = .ok (.iload_n 2, 1) := by decide +kernel
theorem dX3_way_51 : decode cX3_way 51 = .ok (.iastore, 1) := by decide +kernel
theorem dX3_way_52 : decode cX3_way 52 = .ok (.iload_n 3, 1) := by decide +kernel
theorem dX3_way_53 : decode cX3_way 53 = .ok (.ireturn, 1) := by decide +kernel
theorem dX3_flip_0 : decode cX3_flip 0 = .ok (.aload_n 0, 1) := by decide +kernel
theorem dX3_flip_1 : decode cX3_flip 1 = .ok (.iconst 0, 1) := by decide +kernel
theorem dX3_flip_2 : decode cX3_flip 2 = .ok (.putfield 85, 3) := by decide +kernel
theorem dX3_flip_5 : decode cX3_flip 5 = .ok (.aload_n 0, 1) := by decide +kernel
theorem dX3_flip_6 : decode cX3_flip 6 = .ok (.iload_n 1, 1) := by decide +kernel
theorem dX3_flip_7 : decode cX3_flip 7 = .ok (.invokevirtual 97, 3) := by decide +kernel
theorem dX3_flip_10 : decode cX3_flip 10 = .ok (.ifCond .eq 5, 3) := by decide +kernel
theorem dX3_flip_13 : decode cX3_flip 13 = .ok (.iconst (-1), 1) := by decide +kernel
theorem dX3_flip_14 : decode cX3_flip 14 = .ok (.ireturn, 1) := by decide +kernel
theorem dX3_flip_15 : decode cX3_flip 15 = .ok (.iconst 4, 1) := by decide +kernel
theorem dX3_flip_16 : decode cX3_flip 16 = .ok (.iload_n 1, 1) := by decide +kernel
theorem dX3_flip_17 : decode cX3_flip 17 = .ok (.imul, 1) := by decide +kernel
theorem dX3_flip_18 : decode cX3_flip 18 = .ok (.istore_n 2, 1) := by decide +kernel
theorem dX3_flip_19 : decode cX3_flip 19 = .ok (.aload_n 0, 1) := by decide +kernel
theorem dX3_flip_20 : decode cX3_flip 20 = .ok (.getfield 17, 3) := by decide +kernel
theorem dX3_flip_23 : decode cX3_flip 23 = .ok (.iload_n 2, 1) := by decide +kernel
theorem dX3_flip_24 : decode cX3_flip 24 = .ok (.iaload, 1) := by decide +kernel
theorem dX3_flip_25 : decode cX3_flip 25 = .ok (.istore_n 3, 1) := by decide +kernel
theorem dX3_flip_26 : decode cX3_flip 26 = .ok (.aload_n 0, 1) := by decide +kernel
theorem dX3_flip_27 : decode cX3_flip 27 = .ok (.getfield 17, 3) := by decide +kernel
theorem dX3_flip_30 : decode cX3_flip 30 = .ok (.iload_n 2, 1) := by decide +kernel
theorem dX3_flip_31 : decode cX3_flip 31 = .ok (.aload_n 0, 1) := by decide +kernel
theorem dX3_flip_32 : decode cX3_flip 32 = .ok (.getfield 17, 3) := by decide +kernel
theorem dX3_flip_35 : decode cX3_flip 35 = .ok (.iload_n 2, 1) := by decide +kernel
theorem dX3_flip_36 : decode cX3_flip 36 = .ok (.iconst 1, 1) := by decide +kernel
theorem dX3_flip_37 : decode cX3_flip 37 = .ok (.iadd, 1) := by decide +kernel
theorem dX3_flip_38 : decode cX3_flip 38 = .ok (.iaload, 1) := by decide +kernel
theorem dX3_flip_39 : decode cX3_flip 39 = .ok (.iastore, 1) := by decide +kernel
theorem dX3_flip_40 : decode cX3_flip 40 = .ok (.aload_n 0, 1) := by decide +kernel
theorem dX3_flip_41 : decode cX3_flip 41 = .ok (.getfield 17, 3) := by decide +kernel
theorem dX3_flip_44 : decode cX3_flip 44 = .ok (.iload_n 2, 1) := by decide +kernel
theorem dX3_flip_45 : decode cX3_flip 45 = .ok (.iconst 1, 1) := by decide +kernel
theorem dX3_flip_46 : decode cX3_flip 46 = .ok (.iadd, 1) := by decide +kernel
theorem dX3_flip_47 : decode cX3_flip 47 = .ok (.iload_n 3, 1) := by decide +kernel
theorem dX3_flip_48 : decode cX3_flip 48 = .ok (.iastore, 1) := by decide +kernel
theorem dX3_flip_49 : decode cX3_flip 49 = .ok (.aload_n 0, 1) := by decide +kernel
theorem dX3_flip_50 : decode cX3_flip 50 = .ok (.getfield 17, 3) := by decide +kernel
theorem dX3_flip_53 : decode cX3_flip 53 = .ok (.iload_n 2, 1) := by decide +kernel
theorem dX3_flip_54 : decode cX3_flip 54 = .ok (.iconst 2, 1) := by decide +kernel
theorem dX3_flip_55 : decode cX3_flip 55 = .ok (.iadd, 1) := by decide +kernel
theorem dX3_flip_56 : decode cX3_flip 56 = .ok (.iaload, 1) := by decide +kernel
theorem dX3_flip_57 : decode cX3_flip 57 = .ok (.istore_n 3, 1) := by decide +kernel
theorem dX3_flip_58 : decode cX3_flip 58 = .ok (.aload_n 0, 1) := by decide +kernel
theorem dX3_flip_59 : decode cX3_flip 59 = .ok (.getfield 17, 3) := by decide +kernel
theorem dX3_flip_62 : decode cX3_flip 62 = .ok (.iload_n 2, 1) := by decide +kernel
theorem dX3_flip_63 : decode cX3_flip 63 = .ok (.iconst 2, 1) := by decide +kernel
theorem dX3_flip_64 : decode cX3_flip 64 = .ok (.iadd, 1) := by decide +kernel
theorem dX3_flip_65 : decode cX3_flip 65 = .ok (.aload_n 0, 1) := by decide +kernel
theorem dX3_flip_66 : decode cX3_flip 66 = .ok (.getfield 17, 3) := by decide +kernel
theorem dX3_flip_69 : decode cX3_flip 69 = .ok (.iload_n 2, 1) := by decide +kernel
theorem dX3_flip_70 : decode cX3_flip 70 = .ok (.iconst 3, 1) := by decide +kernel
theorem dX3_flip_71 : decode cX3_flip 71 = .ok (.iadd, 1) := by decide +kernel
theorem dX3_flip_72 : decode cX3_flip 72 = .ok (.iaload, 1) := by decide +kernel
theorem dX3_flip_73 : decode cX3_flip 73 = .ok (.iastore, 1) := by decide +kernel
theorem dX3_flip_74 : decode cX3_flip 74 = .ok (.aload_n 0, 1) := by decide +kernel
theorem dX3_flip_75 : decode cX3_flip 75 = .ok (.getfield 17, 3) := by decide +kernel
theorem dX3_flip_78 : decode cX3_flip 78 = .ok (.iload_n 2, 1) := by decide +kernel
theorem dX3_flip_79 : decode cX3_flip 79 = .ok (.iconst 3, 1) := by decide +kernel
theorem dX3_flip_80 : decode cX3_flip 80 = .ok (.iadd, 1) := by decide +kernel
theorem dX3_flip_81 : decode cX3_flip 81 = .ok (.iload_n 3, 1) := by decide +kernel
theorem dX3_flip_82 : decode cX3_flip 82 = .ok (.iastore, 1) := by decide +kernel
theorem dX3_flip_83 : decode cX3_flip 83 = .ok (.aload_n 0, 1) := by decide +kernel
theorem dX3_flip_84 : decode cX3_flip 84 = .ok (.getfield 20, 3) := by decide +kernel
theorem dX3_flip_87 : decode cX3_flip 87 = .ok (.iload_n 1, 1) := by decide +kernel
theorem dX3_flip_88 : decode cX3_flip 88 = .ok (.iconst 1, 1) := by decide +kernel
theorem dX3_flip_89 : decode cX3_flip 89 = .ok (.aload_n 0, 1) := by decide +kernel
theorem dX3_flip_90 : decode cX3_flip 90 = .ok (.getfield 20, 3) := by decide +kernel
theorem dX3_flip_93 : decode cX3_flip 93 = .ok (.iload_n 1, 1) := by decide +kernel
theorem dX3_flip_94 : decode cX3_flip 94 = .ok (.iaload, 1) := by decide +kernel
theorem dX3_flip_95 : decode cX3_flip 95 = .ok (.isub, 1) := by decide +kernel
theorem dX3_flip_96 : decode cX3_flip 96 = .ok (.iastore, 1) := by decide +kernel
theorem dX3_flip_97 : decode cX3_flip 97 = .ok (.aload_n 0, 1) := by decide +kernel
theorem dX3_flip_98 : decode cX3_flip 98 = .ok (.getfield 32, 3) := by decide +kernel
theorem dX3_flip_101 : decode cX3_flip 101 = .ok (.iload_n 1, 1) := by decide +kernel
theorem dX3_flip_102 : decode cX3_flip 102 = .ok (.dup2, 1) := by decide +kernel
theorem dX3_flip_103 : decode cX3_flip 103 = .ok (.iaload, 1) := by decide +kernel
theorem dX3_flip_104 : decode cX3_flip 104 = .ok (.iconst 1, 1) := by decide +kernel
theorem dX3_flip_105 : decode cX3_flip 105 = .ok (.iadd, 1) := by decide +kernel
theorem dX3_flip_106 : decode cX3_flip 106 = .ok (.iastore, 1) := by decide +kernel
theorem dX3_flip_107 : decode cX3_flip 107 = .ok (.aload_n 0, 1) := by decide +kernel
theorem dX3_flip_108 : decode cX3_flip 108 = .ok (.getfield 20, 3) := by decide +kernel
theorem dX3_flip_111 : decode cX3_flip 111 = .ok (.iload_n 1, 1) := by decide +kernel
theorem dX3_flip_112 : decode cX3_flip 112 = .ok (.iaload, 1) := by decide +kernel
theorem dX3_flip_113 : decode cX3_flip 113 = .ok (.ireturn, 1) := by decide +kernel
theorem dX3_pack_0 : decode cX3_pack 0 = .ok (.aload_n 0, 1) := by decide +kernel
theorem dX3_pack_1 : decode cX3_pack 1 = .ok (.iconst 0, 1) := by decide +kernel
theorem dX3_pack_2 : decode cX3_pack 2 = .ok (.putfield 85, 3) := by decide +kernel
theorem dX3_pack_5 : decode cX3_pack 5 = .ok (.aload_n 0, 1) := by decide +kernel
theorem dX3_pack_6 : decode cX3_pack 6 = .ok (.iload_n 1, 1) := by decide +kernel
theorem dX3_pack_7 : decode cX3_pack 7 = .ok (.invokevirtual 97, 3) := by decide +kernel
theorem dX3_pack_10 : decode cX3_pack 10 = .ok (.ifCond .ne 15, 3) := by decide +kernel
theorem dX3_pack_13 : decode cX3_pack 13 = .ok (.iload_n 2, 1) := by decide +kernel
theorem dX3_pack_14 : decode cX3_pack 14 = .ok (.i2l, 1) := by decide +kernel
theorem dX3_pack_15 : decode cX3_pack 15 = .ok (.lconst 0, 1) := by decide +kernel
theorem dX3_pack_16 : decode cX3_pack 16 = .ok (.ldc2_w 101, 3) := by decide +kernel
theorem dX3_pack_19 : decode cX3_pack 19 = .ok (.invokestatic 88, 3) := by decide +kernel
theorem dX3_pack_22 : decode cX3_pack 22 = .ok (.ifCond .ne 5, 3) := by decide +kernel
theorem dX3_pack_25 : decode cX3_pack 25 = .ok (.iconst (-1), 1) := by decide +kernel
theorem dX3_pack_26 : decode cX3_pack 26 = .ok (.ireturn, 1) := by decide +kernel
theorem dX3_pack_27 : decode cX3_pack 27 = .ok (.aload_n 0, 1) := by decide +kernel
theorem dX3_pack_28 : decode cX3_pack 28 = .ok (.getfield 23, 3) := by decide +kernel
theorem dX3_pack_31 : decode cX3_pack 31 = .ok (.iload_n 1, 1) := by decide +kernel
theorem dX3_pack_32 : decode cX3_pack 32 = .ok (.iaload, 1) := by decide +kernel
theorem dX3_pack_33 : decode cX3_pack 33 = .ok (.istore_n 3, 1) := by decide +kernel
theorem dX3_pack_34 : decode cX3_pack 34 = .ok (.aload_n 0, 1) := by decide +kernel
theorem dX3_pack_35 : decode cX3_pack 35 = .ok (.getfield 23, 3) := by decide +kernel
theorem dX3_pack_38 : decode cX3_pack 38 = .ok (.iload_n 1, 1) := by decide +kernel
theorem dX3_pack_39 : decode cX3_pack 39 = .ok (.iload_n 2, 1) := by decide +kernel
theorem dX3_pack_40 : decode cX3_pack 40 = .ok (.iastore, 1) := by decide +kernel
theorem dX3_pack_41 : decode cX3_pack 41 = .ok (.iload_n 3, 1) := by decide +kernel
theorem dX3_pack_42 : decode cX3_pack 42 = .ok (.ireturn, 1) := by decide +kernel
theorem dX3_about_0 : decode cX3_about 0 = .ok (.aload_n 0, 1) := by decide +kernel
theorem dX3_about_1 : decode cX3_about 1 = .ok (.iconst 0, 1) := by decide +kernel
theorem dX3_about_2 : decode cX3_about 2 = .ok (.putfield 85, 3) := by decide +kernel
theorem dX3_about_5 : decode cX3_about 5 = .ok (.aload_n 0, 1) := by decide +kernel
theorem dX3_about_6 : decode cX3_about 6 = .ok (.iload_n 1, 1) := by decide +kernel
theorem dX3_about_7 : decode cX3_about 7 = .ok (.invokevirtual 97, 3) := by decide +kernel
theorem dX3_about_10 : decode cX3_about 10 = .ok (.ifCond .eq 5, 3) := by decide +kernel
theorem dX3_about_13 : decode cX3_about 13 = .ok (.iconst (-1), 1) := by decide +kernel
theorem dX3_about_14 : decode cX3_about 14 = .ok (.ireturn, 1) := by decide +kernel
theorem dX3_about_15 : decode cX3_about 15 = .ok (.iload_n 2, 1) := by decide +kernel
theorem dX3_about_16 : decode cX3_about 16 = .ok (.tableswitch 74 0 4 #[36, 43, 50, 60, 67], 36) := by decide +kernel
theorem dX3_about_52 : decode cX3_about 52 = .ok (.aload_n 0, 1) := by decide +kernel
theorem dX3_about_53 : decode cX3_about 53 = .ok (.getfield 20, 3) := by decide +kernel
theorem dX3_about_56 : decode cX3_about 56 = .ok (.iload_n 1, 1) := by decide +kernel
theorem dX3_about_57 : decode cX3_about 57 = .ok (.iaload, 1) := by decide +kernel
theorem dX3_about_58 : decode cX3_about 58 = .ok (.ireturn, 1) := by decide +kernel
theorem dX3_about_59 : decode cX3_about 59 = .ok (.aload_n 0, 1) := by decide +kernel
theorem dX3_about_60 : decode cX3_about 60 = .ok (.getfield 23, 3) := by decide +kernel
theorem dX3_about_63 : decode cX3_about 63 = .ok (.iload_n 1, 1) := by decide +kernel
theorem dX3_about_64 : decode cX3_about 64 = .ok (.iaload, 1) := by decide +kernel
theorem dX3_about_65 : decode cX3_about 65 = .ok (.ireturn, 1) := by decide +kernel
theorem dX3_about_66 : decode cX3_about 66 = .ok (.aload_n 0, 1) := by decide +kernel
theorem dX3_about_67 : decode cX3_about 67 = .ok (.getfield 26, 3) := by decide +kernel
theorem dX3_about_70 : decode cX3_about 70 = .ok (.iload_n 1, 1) := by decide +kernel
theorem dX3_about_71 : decode cX3_about 71 = .ok (.iaload, 1) := by decide +kernel
theorem dX3_about_72 : decode cX3_about 72 = .ok (.bipush 100, 2) := by decide +kernel
theorem dX3_about_74 : decode cX3_about 74 = .ok (.iadd, 1) := by decide +kernel
theorem dX3_about_75 : decode cX3_about 75 = .ok (.ireturn, 1) := by decide +kernel
theorem dX3_about_76 : decode cX3_about 76 = .ok (.aload_n 0, 1) := by decide +kernel
theorem dX3_about_77 : decode cX3_about 77 = .ok (.getfield 29, 3) := by decide +kernel
theorem dX3_about_80 : decode cX3_about 80 = .ok (.iload_n 1, 1) := by decide +kernel
theorem dX3_about_81 : decode cX3_about 81 = .ok (.iaload, 1) := by decide +kernel
theorem dX3_about_82 : decode cX3_about 82 = .ok (.ireturn, 1) := by decide +kernel
theorem dX3_about_83 : decode cX3_about 83 = .ok (.aload_n 0, 1) := by decide +kernel
theorem dX3_about_84 : decode cX3_about 84 = .ok (.getfield 32, 3) := by decide +kernel
theorem dX3_about_87 : decode cX3_about 87 = .ok (.iload_n 1, 1) := by decide +kernel
theorem dX3_about_88 : decode cX3_about 88 = .ok (.iaload, 1) := by decide +kernel
theorem dX3_about_89 : decode cX3_about 89 = .ok (.ireturn, 1) := by decide +kernel
theorem dX3_about_90 : decode cX3_about 90 = .ok (.bipush (-2), 2) := by decide +kernel
theorem dX3_about_92 : decode cX3_about 92 = .ok (.ireturn, 1) := by decide +kernel
theorem dX3_at_0 : decode cX3_at 0 = .ok (.aload_n 0, 1) := by decide +kernel
theorem dX3_at_1 : decode cX3_at 1 = .ok (.iconst 0, 1) := by decide +kernel
theorem dX3_at_2 : decode cX3_at 2 = .ok (.putfield 85, 3) := by decide +kernel
theorem dX3_at_5 : decode cX3_at 5 = .ok (.aload_n 0, 1) := by decide +kernel
theorem dX3_at_6 : decode cX3_at 6 = .ok (.iload_n 1, 1) := by decide +kernel
theorem dX3_at_7 : decode cX3_at 7 = .ok (.invokevirtual 97, 3) := by decide +kernel
theorem dX3_at_10 : decode cX3_at 10 = .ok (.ifCond .eq 5, 3) := by decide +kernel
theorem dX3_at_13 : decode cX3_at 13 = .ok (.iconst (-1), 1) := by decide +kernel
theorem dX3_at_14 : decode cX3_at 14 = .ok (.ireturn, 1) := by decide +kernel
theorem dX3_at_15 : decode cX3_at 15 = .ok (.iload_n 2, 1) := by decide +kernel
theorem dX3_at_16 : decode cX3_at 16 = .ok (.i2l, 1) := by decide +kernel
theorem dX3_at_17 : decode cX3_at 17 = .ok (.lconst 0, 1) := by decide +kernel
theorem dX3_at_18 : decode cX3_at 18 = .ok (.ldc2_w 101, 3) := by decide +kernel
theorem dX3_at_21 : decode cX3_at 21 = .ok (.invokestatic 88, 3) := by decide +kernel
theorem dX3_at_24 : decode cX3_at 24 = .ok (.ifCond .eq 16, 3) := by decide +kernel
theorem dX3_at_27 : decode cX3_at 27 = .ok (.aload_n 0, 1) := by decide +kernel
theorem dX3_at_28 : decode cX3_at 28 = .ok (.getfield 17, 3) := by decide +kernel
theorem dX3_at_31 : decode cX3_at 31 = .ok (.iconst 4, 1) := by decide +kernel
theorem dX3_at_32 : decode cX3_at 32 = .ok (.iload_n 1, 1) := by decide +kernel
theorem dX3_at_33 : decode cX3_at 33 = .ok (.imul, 1) := by decide +kernel
theorem dX3_at_34 : decode cX3_at 34 = .ok (.iload_n 2, 1) := by decide +kernel
theorem dX3_at_35 : decode cX3_at 35 = .ok (.iadd, 1) := by decide +kernel
theorem dX3_at_36 : decode cX3_at 36 = .ok (.iaload, 1) := by decide +kernel
theorem dX3_at_37 : decode cX3_at 37 = .ok (.goto 5, 3) := by decide +kernel
theorem dX3_at_40 : decode cX3_at 40 = .ok (.bipush (-2), 2) := by decide +kernel
theorem dX3_at_42 : decode cX3_at 42 = .ok (.ireturn, 1) := by decide +kernel
theorem dX3_keep_0 : decode cX3_keep 0 = .ok (.bipush 16, 2) := by decide +kernel
theorem dX3_keep_2 : decode cX3_keep 2 = .ok (.aload_n 0, 1) := by decide +kernel
theorem dX3_keep_3 : decode cX3_keep 3 = .ok (.getfield 92, 3) := by decide +kernel
theorem dX3_keep_6 : decode cX3_keep 6 = .ok (.imul, 1) := by decide +kernel
theorem dX3_keep_7 : decode cX3_keep 7 = .ok (.iload_n 1, 1) := by decide +kernel
theorem dX3_keep_8 : decode cX3_keep 8 = .ok (.iadd, 1) := by decide +kernel
theorem dX3_keep_9 : decode cX3_keep 9 = .ok (.istore_n 2, 1) := by decide +kernel
theorem dX3_keep_10 : decode cX3_keep 10 = .ok (.iconst 0, 1) := by decide +kernel
theorem dX3_keep_11 : decode cX3_keep 11 = .ok (.istore_n 3, 1) := by decide +kernel
theorem dX3_keep_12 : decode cX3_keep 12 = .ok (.iload_n 3, 1) := by decide +kernel
theorem dX3_keep_13 : decode cX3_keep 13 = .ok (.iconst 4, 1) := by decide +kernel
theorem dX3_keep_14 : decode cX3_keep 14 = .ok (.if_icmp .ge 29, 3) := by decide +kernel
theorem dX3_keep_17 : decode cX3_keep 17 = .ok (.aload_n 0, 1) := by decide +kernel
theorem dX3_keep_18 : decode cX3_keep 18 = .ok (.getfield 35, 3) := by decide +kernel
theorem dX3_keep_21 : decode cX3_keep 21 = .ok (.iconst 4, 1) := by decide +kernel
theorem dX3_keep_22 : decode cX3_keep 22 = .ok (.iload_n 2, 1) := by decide +kernel
theorem dX3_keep_23 : decode cX3_keep 23 = .ok (.imul, 1) := by decide +kernel
theorem dX3_keep_24 : decode cX3_keep 24 = .ok (.iload_n 3, 1) := by decide +kernel
theorem dX3_keep_25 : decode cX3_keep 25 = .ok (.iadd, 1) := by decide +kernel
theorem dX3_keep_26 : decode cX3_keep 26 = .ok (.aload_n 0, 1) := by decide +kernel
theorem dX3_keep_27 : decode cX3_keep 27 = .ok (.getfield 17, 3) := by decide +kernel
theorem dX3_keep_30 : decode cX3_keep 30 = .ok (.iconst 4, 1) := by decide +kernel
theorem dX3_keep_31 : decode cX3_keep 31 = .ok (.iload_n 1, 1) := by decide +kernel
theorem dX3_keep_32 : decode cX3_keep 32 = .ok (.imul, 1) := by decide +kernel
theorem dX3_keep_33 : decode cX3_keep 33 = .ok (.iload_n 3, 1) := by decide +kernel
theorem dX3_keep_34 : decode cX3_keep 34 = .ok (.iadd, 1) := by decide +kernel
theorem dX3_keep_35 : decode cX3_keep 35 = .ok (.iaload, 1) := by decide +kernel
theorem dX3_keep_36 : decode cX3_keep 36 = .ok (.iastore, 1) := by decide +kernel
theorem dX3_keep_37 : decode cX3_keep 37 = .ok (.iinc 3 1, 3) := by decide +kernel
theorem dX3_keep_40 : decode cX3_keep 40 = .ok (.goto (-28), 3) := by decide +kernel
theorem dX3_keep_43 : decode cX3_keep 43 = .ok (.aload_n 0, 1) := by decide +kernel
theorem dX3_keep_44 : decode cX3_keep 44 = .ok (.getfield 38, 3) := by decide +kernel
theorem dX3_keep_47 : decode cX3_keep 47 = .ok (.iload_n 2, 1) := by decide +kernel
theorem dX3_keep_48 : decode cX3_keep 48 = .ok (.aload_n 0, 1) := by decide +kernel
theorem dX3_keep_49 : decode cX3_keep 49 = .ok (.getfield 20, 3) := by decide +kernel
theorem dX3_keep_52 : decode cX3_keep 52 = .ok (.iload_n 1, 1) := by decide +kernel
theorem dX3_keep_53 : decode cX3_keep 53 = .ok (.iaload, 1) := by decide +kernel
theorem dX3_keep_54 : decode cX3_keep 54 = .ok (.iastore, 1) := by decide +kernel
theorem dX3_keep_55 : decode cX3_keep 55 = .ok (.aload_n 0, 1) := by decide +kernel
theorem dX3_keep_56 : decode cX3_keep 56 = .ok (.getfield 41, 3) := by decide +kernel
theorem dX3_keep_59 : decode cX3_keep 59 = .ok (.iload_n 2, 1) := by decide +kernel
theorem dX3_keep_60 : decode cX3_keep 60 = .ok (.aload_n 0, 1) := by decide +kernel
theorem dX3_keep_61 : decode cX3_keep 61 = .ok (.getfield 26, 3) := by decide +kernel
theorem dX3_keep_64 : decode cX3_keep 64 = .ok (.iload_n 1, 1) := by decide +kernel
theorem dX3_keep_65 : decode cX3_keep 65 = .ok (.iaload, 1) := by decide +kernel
theorem dX3_keep_66 : decode cX3_keep 66 = .ok (.iastore, 1) := by decide +kernel
theorem dX3_keep_67 : decode cX3_keep 67 = .ok (.aload_n 0, 1) := by decide +kernel
theorem dX3_keep_68 : decode cX3_keep 68 = .ok (.getfield 44, 3) := by decide +kernel
theorem dX3_keep_71 : decode cX3_keep 71 = .ok (.iload_n 2, 1) := by decide +kernel
theorem dX3_keep_72 : decode cX3_keep 72 = .ok (.aload_n 0, 1) := by decide +kernel
theorem dX3_keep_73 : decode cX3_keep 73 = .ok (.getfield 29, 3) := by decide +kernel
theorem dX3_keep_76 : decode cX3_keep 76 = .ok (.iload_n 1, 1) := by decide +kernel
theorem dX3_keep_77 : decode cX3_keep 77 = .ok (.iaload, 1) := by decide +kernel
theorem dX3_keep_78 : decode cX3_keep 78 = .ok (.iastore, 1) := by decide +kernel
theorem dX3_keep_79 : decode cX3_keep 79 = .ok (.aload_n 0, 1) := by decide +kernel
theorem dX3_keep_80 : decode cX3_keep 80 = .ok (.getfield 47, 3) := by decide +kernel
theorem dX3_keep_83 : decode cX3_keep 83 = .ok (.iload_n 2, 1) := by decide +kernel
theorem dX3_keep_84 : decode cX3_keep 84 = .ok (.aload_n 0, 1) := by decide +kernel
theorem dX3_keep_85 : decode cX3_keep 85 = .ok (.getfield 32, 3) := by decide +kernel
theorem dX3_keep_88 : decode cX3_keep 88 = .ok (.iload_n 1, 1) := by decide +kernel
theorem dX3_keep_89 : decode cX3_keep 89 = .ok (.iaload, 1) := by decide +kernel
theorem dX3_keep_90 : decode cX3_keep 90 = .ok (.iastore, 1) := by decide +kernel
theorem dX3_keep_91 : decode cX3_keep 91 = .ok (.return_, 1) := by decide +kernel
theorem dX3_move_0 : decode cX3_move 0 = .ok (.iconst 0, 1) := by decide +kernel
theorem dX3_move_1 : decode cX3_move 1 = .ok (.istore_n 3, 1) := by decide +kernel
theorem dX3_move_2 : decode cX3_move 2 = .ok (.iload_n 3, 1) := by decide +kernel
theorem dX3_move_3 : decode cX3_move 3 = .ok (.iload_n 2, 1) := by decide +kernel
theorem dX3_move_4 : decode cX3_move 4 = .ok (.if_icmp .ge 86, 3) := by decide +kernel
theorem dX3_move_7 : decode cX3_move 7 = .ok (.iconst 4, 1) := by decide +kernel
theorem dX3_move_8 : decode cX3_move 8 = .ok (.iload_n 1, 1) := by decide +kernel
theorem dX3_move_9 : decode cX3_move 9 = .ok (.imul, 1) := by decide +kernel
theorem dX3_move_10 : decode cX3_move 10 = .ok (.istore 4, 2) := by decide +kernel
theorem dX3_move_12 : decode cX3_move 12 = .ok (.aload_n 0, 1) := by decide +kernel
theorem dX3_move_13 : decode cX3_move 13 = .ok (.getfield 17, 3) := by decide +kernel
theorem dX3_move_16 : decode cX3_move 16 = .ok (.iload 4, 2) := by decide +kernel
theorem dX3_move_18 : decode cX3_move 18 = .ok (.iconst 3, 1) := by decide +kernel
theorem dX3_move_19 : decode cX3_move 19 = .ok (.iadd, 1) := by decide +kernel
theorem dX3_move_20 : decode cX3_move 20 = .ok (.iaload, 1) := by decide +kernel
theorem dX3_move_21 : decode cX3_move 21 = .ok (.istore 5, 2) := by decide +kernel
theorem dX3_move_23 : decode cX3_move 23 = .ok (.aload_n 0, 1) := by decide +kernel
theorem dX3_move_24 : decode cX3_move 24 = .ok (.getfield 17, 3) := by decide +kernel
theorem dX3_move_27 : decode cX3_move 27 = .ok (.iload 4, 2) := by decide +kernel
theorem dX3_move_29 : decode cX3_move 29 = .ok (.iconst 3, 1) := by decide +kernel
theorem dX3_move_30 : decode cX3_move 30 = .ok (.iadd, 1) := by decide +kernel
theorem dX3_move_31 : decode cX3_move 31 = .ok (.aload_n 0, 1) := by decide +kernel
theorem dX3_move_32 : decode cX3_move 32 = .ok (.getfield 17, 3) := by decide +kernel
theorem dX3_move_35 : decode cX3_move 35 = .ok (.iload 4, 2) := by decide +kernel
theorem dX3_move_37 : decode cX3_move 37 = .ok (.iconst 2, 1) := by decide +kernel
theorem dX3_move_38 : decode cX3_move 38 = .ok (.iadd, 1) := by decide +kernel
theorem dX3_move_39 : decode cX3_move 39 = .ok (.iaload, 1) := by decide +kernel
theorem dX3_move_40 : decode cX3_move 40 = .ok (.iastore, 1) := by decide +kernel
theorem dX3_move_41 : decode cX3_move 41 = .ok (.aload_n 0, 1) := by decide +kernel
theorem dX3_move_42 : decode cX3_move 42 = .ok (.getfield 17, 3) := by decide +kernel
theorem dX3_move_45 : decode cX3_move 45 = .ok (.iload 4, 2) := by decide +kernel
theorem dX3_move_47 : decode cX3_move 47 = .ok (.iconst 2, 1) := by decide +kernel
theorem dX3_move_48 : decode cX3_move 48 = .ok (.iadd, 1) := by decide +kernel
theorem dX3_move_49 : decode cX3_move 49 = .ok (.aload_n 0, 1) := by decide +kernel
theorem dX3_move_50 : decode cX3_move 50 = .ok (.getfield 17, 3) := by decide +kernel
theorem dX3_move_53 : decode cX3_move 53 = .ok (.iload 4, 2) := by decide +kernel
theorem dX3_move_55 : decode cX3_move 55 = .ok (.iconst 1, 1) := by decide +kernel
theorem dX3_move_56 : decode cX3_move 56 = .ok (.iadd, 1) := by decide +kernel
theorem dX3_move_57 : decode cX3_move 57 = .ok (.iaload, 1) := by decide +kernel
theorem dX3_move_58 : decode cX3_move 58 = .ok (.iastore, 1) := by decide +kernel
theorem dX3_move_59 : decode cX3_move 59 = .ok (.aload_n 0, 1) := by decide +kernel
theorem dX3_move_60 : decode cX3_move 60 = .ok (.getfield 17, 3) := by decide +kernel
theorem dX3_move_63 : decode cX3_move 63 = .ok (.iload 4, 2) := by decide +kernel
theorem dX3_move_65 : decode cX3_move 65 = .ok (.iconst 1, 1) := by decide +kernel
theorem dX3_move_66 : decode cX3_move 66 = .ok (.iadd, 1) := by decide +kernel
theorem dX3_move_67 : decode cX3_move 67 = .ok (.aload_n 0, 1) := by decide +kernel
theorem dX3_move_68 : decode cX3_move 68 = .ok (.getfield 17, 3) := by decide +kernel
theorem dX3_move_71 : decode cX3_move 71 = .ok (.iload 4, 2) := by decide +kernel
theorem dX3_move_73 : decode cX3_move 73 = .ok (.iaload, 1) := by decide +kernel
theorem dX3_move_74 : decode cX3_move 74 = .ok (.iastore, 1) := by decide +kernel
theorem dX3_move_75 : decode cX3_move 75 = .ok (.aload_n 0, 1) := by decide +kernel
theorem dX3_move_76 : decode cX3_move 76 = .ok (.getfield 17, 3) := by decide +kernel
theorem dX3_move_79 : decode cX3_move 79 = .ok (.iload 4, 2) := by decide +kernel
theorem dX3_move_81 : decode cX3_move 81 = .ok (.iload 5, 2) := by decide +kernel
theorem dX3_move_83 : decode cX3_move 83 = .ok (.iastore, 1) := by decide +kernel
theorem dX3_move_84 : decode cX3_move 84 = .ok (.iinc 3 1, 3) := by decide +kernel
theorem dX3_move_87 : decode cX3_move 87 = .ok (.goto (-85), 3) := by decide +kernel
theorem dX3_move_90 : decode cX3_move 90 = .ok (.return_, 1) := by decide +kernel
theorem dX3_make_0 : decode cX3_make 0 = .ok (.aload_n 0, 1) := by decide +kernel
theorem dX3_make_1 : decode cX3_make 1 = .ok (.iload_n 1, 1) := by decide +kernel
theorem dX3_make_2 : decode cX3_make 2 = .ok (.invokevirtual 105, 3) := by decide +kernel
theorem dX3_make_5 : decode cX3_make 5 = .ok (.bipush 16, 2) := by decide +kernel
theorem dX3_make_7 : decode cX3_make 7 = .ok (.aload_n 0, 1) := by decide +kernel
theorem dX3_make_8 : decode cX3_make 8 = .ok (.getfield 92, 3) := by decide +kernel
theorem dX3_make_11 : decode cX3_make 11 = .ok (.imul, 1) := by decide +kernel
theorem dX3_make_12 : decode cX3_make 12 = .ok (.iload_n 1, 1) := by decide +kernel
theorem dX3_make_13 : decode cX3_make 13 = .ok (.iadd, 1) := by decide +kernel
theorem dX3_make_14 : decode cX3_make 14 = .ok (.istore_n 3, 1) := by decide +kernel
theorem dX3_make_15 : decode cX3_make 15 = .ok (.aload_n 0, 1) := by decide +kernel
theorem dX3_make_16 : decode cX3_make 16 = .ok (.getfield 50, 3) := by decide +kernel
theorem dX3_make_19 : decode cX3_make 19 = .ok (.iload_n 3, 1) := by decide +kernel
theorem dX3_make_20 : decode cX3_make 20 = .ok (.iload_n 2, 1) := by decide +kernel
theorem dX3_make_21 : decode cX3_make 21 = .ok (.iastore, 1) := by decide +kernel
theorem dX3_make_22 : decode cX3_make 22 = .ok (.iload_n 2, 1) := by decide +kernel
theorem dX3_make_23 : decode cX3_make 23 = .ok (.iconst 2, 1) := by decide +kernel
theorem dX3_make_24 : decode cX3_make 24 = .ok (.if_icmp .ne 110, 3) := by decide +kernel
theorem dX3_make_27 : decode cX3_make 27 = .ok (.aload_n 0, 1) := by decide +kernel
theorem dX3_make_28 : decode cX3_make 28 = .ok (.getfield 29, 3) := by decide +kernel
theorem dX3_make_31 : decode cX3_make 31 = .ok (.iload_n 1, 1) := by decide +kernel
theorem dX3_make_32 : decode cX3_make 32 = .ok (.dup2, 1) := by decide +kernel
theorem dX3_make_33 : decode cX3_make 33 = .ok (.iaload, 1) := by decide +kernel
theorem dX3_make_34 : decode cX3_make 34 = .ok (.iconst 1, 1) := by decide +kernel
theorem dX3_make_35 : decode cX3_make 35 = .ok (.iadd, 1) := by decide +kernel
theorem dX3_make_36 : decode cX3_make 36 = .ok (.iastore, 1) := by decide +kernel
theorem dX3_make_37 : decode cX3_make 37 = .ok (.aload_n 0, 1) := by decide +kernel
theorem dX3_make_38 : decode cX3_make 38 = .ok (.getfield 53, 3) := by decide +kernel
theorem dX3_make_41 : decode cX3_make 41 = .ok (.iload_n 3, 1) := by decide +kernel
theorem dX3_make_42 : decode cX3_make 42 = .ok (.aload_n 0, 1) := by decide +kernel
theorem dX3_make_43 : decode cX3_make 43 = .ok (.getfield 92, 3) := by decide +kernel
theorem dX3_make_46 : decode cX3_make 46 = .ok (.ifCond .ne 14, 3) := by decide +kernel
theorem dX3_make_49 : decode cX3_make 49 = .ok (.aload_n 0, 1) := by decide +kernel
theorem dX3_make_50 : decode cX3_make 50 = .ok (.getfield 17, 3) := by decide +kernel
theorem dX3_make_53 : decode cX3_make 53 = .ok (.iconst 4, 1) := by decide +kernel
theorem dX3_make_54 : decode cX3_make 54 = .ok (.iload_n 1, 1) := by decide +kernel
theorem dX3_make_55 : decode cX3_make 55 = .ok (.imul, 1) := by decide +kernel
theorem dX3_make_56 : decode cX3_make 56 = .ok (.iaload, 1) := by decide +kernel
theorem dX3_make_57 : decode cX3_make 57 = .ok (.goto 12, 3) := by decide +kernel
theorem dX3_make_60 : decode cX3_make 60 = .ok (.aload_n 0, 1) := by decide +kernel
theorem dX3_make_61 : decode cX3_make 61 = .ok (.getfield 53, 3) := by decide +kernel
theorem dX3_make_64 : decode cX3_make 64 = .ok (.iload_n 3, 1) := by decide +kernel
theorem dX3_make_65 : decode cX3_make 65 = .ok (.bipush 16, 2) := by decide +kernel
theorem dX3_make_67 : decode cX3_make 67 = .ok (.isub, 1) := by decide +kernel
theorem dX3_make_68 : decode cX3_make 68 = .ok (.iaload, 1) := by decide +kernel
theorem dX3_make_69 : decode cX3_make 69 = .ok (.iastore, 1) := by decide +kernel
theorem dX3_make_70 : decode cX3_make 70 = .ok (.aload_n 0, 1) := by decide +kernel
theorem dX3_make_71 : decode cX3_make 71 = .ok (.getfield 56, 3) := by decide +kernel
theorem dX3_make_74 : decode cX3_make 74 = .ok (.iload_n 3, 1) := by decide +kernel
theorem dX3_make_75 : decode cX3_make 75 = .ok (.aload_n 0, 1) := by decide +kernel
theorem dX3_make_76 : decode cX3_make 76 = .ok (.getfield 92, 3) := by decide +kernel
theorem dX3_make_79 : decode cX3_make 79 = .ok (.ifCond .ne 16, 3) := by decide +kernel
theorem dX3_make_82 : decode cX3_make 82 = .ok (.aload_n 0, 1) := by decide +kernel
theorem dX3_make_83 : decode cX3_make 83 = .ok (.getfield 17, 3) := by decide +kernel
theorem dX3_make_86 : decode cX3_make 86 = .ok (.iconst 4, 1) := by decide +kernel
theorem dX3_make_87 : decode cX3_make 87 = .ok (.iload_n 1, 1) := by decide +kernel
theorem dX3_make_88 : decode cX3_make 88 = .ok (.imul, 1) := by decide +kernel
theorem dX3_make_89 : decode cX3_make 89 = .ok (.iconst 2, 1) := by decide +kernel
theorem dX3_make_90 : decode cX3_make 90 = .ok (.iadd, 1) := by decide +kernel
theorem dX3_make_91 : decode cX3_make 91 = .ok (.iaload, 1) := by decide +kernel
theorem dX3_make_92 : decode cX3_make 92 = .ok (.goto 12, 3) := by decide +kernel
theorem dX3_make_95 : decode cX3_make 95 = .ok (.aload_n 0, 1) := by decide +kernel
theorem dX3_make_96 : decode cX3_make 96 = .ok (.getfield 56, 3) := by decide +kernel
theorem dX3_make_99 : decode cX3_make 99 = .ok (.iload_n 3, 1) := by decide +kernel
theorem dX3_make_100 : decode cX3_make 100 = .ok (.bipush 16, 2) := by decide +kernel
theorem dX3_make_102 : decode cX3_make 102 = .ok (.isub, 1) := by decide +kernel
theorem dX3_make_103 : decode cX3_make 103 = .ok (.iaload, 1) := by decide +kernel
theorem dX3_make_104 : decode cX3_make 104 = .ok (.iastore, 1) := by decide +kernel
theorem dX3_make_105 : decode cX3_make 105 = .ok (.aload_n 0, 1) := by decide +kernel
theorem dX3_make_106 : decode cX3_make 106 = .ok (.getfield 59, 3) := by decide +kernel
theorem dX3_make_109 : decode cX3_make 109 = .ok (.iload_n 3, 1) := by decide +kernel
theorem dX3_make_110 : decode cX3_make 110 = .ok (.aload_n 0, 1) := by decide +kernel
theorem dX3_make_111 : decode cX3_make 111 = .ok (.getfield 92, 3) := by decide +kernel
theorem dX3_make_114 : decode cX3_make 114 = .ok (.ifCond .ne 7, 3) := by decide +kernel
theorem dX3_make_117 : decode cX3_make 117 = .ok (.iconst 0, 1) := by decide +kernel
theorem dX3_make_118 : decode cX3_make 118 = .ok (.goto 12, 3) := by decide +kernel
theorem dX3_make_121 : decode cX3_make 121 = .ok (.aload_n 0, 1) := by decide +kernel
theorem dX3_make_122 : decode cX3_make 122 = .ok (.getfield 59, 3) := by decide +kernel
theorem dX3_make_125 : decode cX3_make 125 = .ok (.iload_n 3, 1) := by decide +kernel
theorem dX3_make_126 : decode cX3_make 126 = .ok (.bipush 16, 2) := by decide +kernel
theorem dX3_make_128 : decode cX3_make 128 = .ok (.isub, 1) := by decide +kernel
theorem dX3_make_129 : decode cX3_make 129 = .ok (.iaload, 1) := by decide +kernel
theorem dX3_make_130 : decode cX3_make 130 = .ok (.iastore, 1) := by decide +kernel
theorem dX3_make_131 : decode cX3_make 131 = .ok (.goto 102, 3) := by decide +kernel
theorem dX3_make_134 : decode cX3_make 134 = .ok (.aload_n 0, 1) := by decide +kernel
theorem dX3_make_135 : decode cX3_make 135 = .ok (.iload_n 1, 1) := by decide +kernel
theorem dX3_make_136 : decode cX3_make 136 = .ok (.iload_n 2, 1) := by decide +kernel
theorem dX3_make_137 : decode cX3_make 137 = .ok (.ifCond .ne 7, 3) := by decide +kernel
theorem dX3_make_140 : decode cX3_make 140 = .ok (.iconst 1, 1) := by decide +kernel
theorem dX3_make_141 : decode cX3_make 141 = .ok (.goto 4, 3) := by decide +kernel
theorem dX3_make_144 : decode cX3_make 144 = .ok (.iconst 3, 1) := by decide +kernel
theorem dX3_make_145 : decode cX3_make 145 = .ok (.invokevirtual 108, 3) := by decide +kernel
theorem dX3_make_148 : decode cX3_make 148 = .ok (.aload_n 0, 1) := by decide +kernel
theorem dX3_make_149 : decode cX3_make 149 = .ok (.getfield 29, 3) := by decide +kernel
theorem dX3_make_152 : decode cX3_make 152 = .ok (.iload_n 1, 1) := by decide +kernel
theorem dX3_make_153 : decode cX3_make 153 = .ok (.iconst 0, 1) := by decide +kernel
theorem dX3_make_154 : decode cX3_make 154 = .ok (.iastore, 1) := by decide +kernel
theorem dX3_make_155 : decode cX3_make 155 = .ok (.aload_n 0, 1) := by decide +kernel
theorem dX3_make_156 : decode cX3_make 156 = .ok (.getfield 59, 3) := by decide +kernel
theorem dX3_make_159 : decode cX3_make 159 = .ok (.iload_n 3, 1) := by decide +kernel
theorem dX3_make_160 : decode cX3_make 160 = .ok (.iload_n 2, 1) := by decide +kernel
theorem dX3_make_161 : decode cX3_make 161 = .ok (.aload_n 0, 1) := by decide +kernel
theorem dX3_make_162 : decode cX3_make 162 = .ok (.getfield 20, 3) := by decide +kernel
theorem dX3_make_165 : decode cX3_make 165 = .ok (.iload_n 1, 1) := by decide +kernel
theorem dX3_make_166 : decode cX3_make 166 = .ok (.iaload, 1) := by decide +kernel
theorem dX3_make_167 : decode cX3_make 167 = .ok (.if_icmp .ne 7, 3) := by decide +kernel
theorem dX3_make_170 : decode cX3_make 170 = .ok (.iconst 0, 1) := by decide +kernel
theorem dX3_make_171 : decode cX3_make 171 = .ok (.goto 4, 3) := by decide +kernel
theorem dX3_make_174 : decode cX3_make 174 = .ok (.iconst 1, 1) := by decide +kernel
theorem dX3_make_175 : decode cX3_make 175 = .ok (.iastore, 1) := by decide +kernel
theorem dX3_make_176 : decode cX3_make 176 = .ok (.aload_n 0, 1) := by decide +kernel
theorem dX3_make_177 : decode cX3_make 177 = .ok (.getfield 26, 3) := by decide +kernel
theorem dX3_make_180 : decode cX3_make 180 = .ok (.iload_n 1, 1) := by decide +kernel
theorem dX3_make_181 : decode cX3_make 181 = .ok (.dup2, 1) := by decide +kernel
theorem dX3_make_182 : decode cX3_make 182 = .ok (.iaload, 1) := by decide +kernel
theorem dX3_make_183 : decode cX3_make 183 = .ok (.aload_n 0, 1) := by decide +kernel
theorem dX3_make_184 : decode cX3_make 184 = .ok (.getfield 59, 3) := by decide +kernel
theorem dX3_make_187 : decode cX3_make 187 = .ok (.iload_n 3, 1) := by decide +kernel
theorem dX3_make_188 : decode cX3_make 188 = .ok (.iaload, 1) := by decide +kernel
theorem dX3_make_189 : decode cX3_make 189 = .ok (.ifCond .ne 7, 3) := by decide +kernel
theorem dX3_make_192 : decode cX3_make 192 = .ok (.iconst 1, 1) := by decide +kernel
theorem dX3_make_193 : decode cX3_make 193 = .ok (.goto 4, 3) := by decide +kernel
theorem dX3_make_196 : decode cX3_make 196 = .ok (.iconst (-1), 1) := by decide +kernel
theorem dX3_make_197 : decode cX3_make 197 = .ok (.iadd, 1) := by decide +kernel
theorem dX3_make_198 : decode cX3_make 198 = .ok (.iastore, 1) := by decide +kernel
theorem dX3_make_199 : decode cX3_make 199 = .ok (.aload_n 0, 1) := by decide +kernel
theorem dX3_make_200 : decode cX3_make 200 = .ok (.getfield 53, 3) := by decide +kernel
theorem dX3_make_203 : decode cX3_make 203 = .ok (.iload_n 3, 1) := by decide +kernel
theorem dX3_make_204 : decode cX3_make 204 = .ok (.aload_n 0, 1) := by decide +kernel
theorem dX3_make_205 : decode cX3_make 205 = .ok (.getfield 17, 3) := by decide +kernel
theorem dX3_make_208 : decode cX3_make 208 = .ok (.iconst 4, 1) := by decide +kernel
theorem dX3_make_209 : decode cX3_make 209 = .ok (.iload_n 1, 1) := by decide +kernel
theorem dX3_make_210 : decode cX3_make 210 = .ok (.imul, 1) := by decide +kernel
theorem dX3_make_211 : decode cX3_make 211 = .ok (.iload_n 2, 1) := by decide +kernel
theorem dX3_make_212 : decode cX3_make 212 = .ok (.iadd, 1) := by decide +kernel
theorem dX3_make_213 : decode cX3_make 213 = .ok (.iaload, 1) := by decide +kernel
theorem dX3_make_214 : decode cX3_make 214 = .ok (.iastore, 1) := by decide +kernel
theorem dX3_make_215 : decode cX3_make 215 = .ok (.aload_n 0, 1) := by decide +kernel
theorem dX3_make_216 : decode cX3_make 216 = .ok (.getfield 56, 3) := by decide +kernel
theorem dX3_make_219 : decode cX3_make 219 = .ok (.iload_n 3, 1) := by decide +kernel
theorem dX3_make_220 : decode cX3_make 220 = .ok (.aload_n 0, 1) := by decide +kernel
theorem dX3_make_221 : decode cX3_make 221 = .ok (.getfield 17, 3) := by decide +kernel
theorem dX3_make_224 : decode cX3_make 224 = .ok (.iconst 4, 1) := by decide +kernel
theorem dX3_make_225 : decode cX3_make 225 = .ok (.iload_n 1, 1) := by decide +kernel
theorem dX3_make_226 : decode cX3_make 226 = .ok (.imul, 1) := by decide +kernel
theorem dX3_make_227 : decode cX3_make 227 = .ok (.iload_n 2, 1) := by decide +kernel
theorem dX3_make_228 : decode cX3_make 228 = .ok (.iadd, 1) := by decide +kernel
theorem dX3_make_229 : decode cX3_make 229 = .ok (.iconst 2, 1) := by decide +kernel
theorem dX3_make_230 : decode cX3_make 230 = .ok (.iadd, 1) := by decide +kernel
theorem dX3_make_231 : decode cX3_make 231 = .ok (.iaload, 1) := by decide +kernel
theorem dX3_make_232 : decode cX3_make 232 = .ok (.iastore, 1) := by decide +kernel
theorem dX3_make_233 : decode cX3_make 233 = .ok (.return_, 1) := by decide +kernel
theorem dX3_pick_0 : decode cX3_pick 0 = .ok (.aload_n 0, 1) := by decide +kernel
theorem dX3_pick_1 : decode cX3_pick 1 = .ok (.iconst 0, 1) := by decide +kernel
theorem dX3_pick_2 : decode cX3_pick 2 = .ok (.putfield 85, 3) := by decide +kernel
theorem dX3_pick_5 : decode cX3_pick 5 = .ok (.iload_n 1, 1) := by decide +kernel
theorem dX3_pick_6 : decode cX3_pick 6 = .ok (.i2l, 1) := by decide +kernel
theorem dX3_pick_7 : decode cX3_pick 7 = .ok (.lconst 0, 1) := by decide +kernel
theorem dX3_pick_8 : decode cX3_pick 8 = .ok (.iconst 1, 1) := by decide +kernel
theorem dX3_pick_9 : decode cX3_pick 9 = .ok (.aload_n 0, 1) := by decide +kernel
theorem dX3_pick_10 : decode cX3_pick 10 = .ok (.getfield 7, 3) := by decide +kernel
theorem dX3_pick_13 : decode cX3_pick 13 = .ok (.ishl, 1) := by decide +kernel
theorem dX3_pick_14 : decode cX3_pick 14 = .ok (.iconst 1, 1) := by decide +kernel
theorem dX3_pick_15 : decode cX3_pick 15 = .ok (.isub, 1) := by decide +kernel
theorem dX3_pick_16 : decode cX3_pick 16 = .ok (.i2l, 1) := by decide +kernel
theorem dX3_pick_17 : decode cX3_pick 17 = .ok (.invokestatic 88, 3) := by decide +kernel
theorem dX3_pick_20 : decode cX3_pick 20 = .ok (.ifCond .eq 27, 3) := by decide +kernel
theorem dX3_pick_23 : decode cX3_pick 23 = .ok (.iload_n 2, 1) := by decide +kernel
theorem dX3_pick_24 : decode cX3_pick 24 = .ok (.i2l, 1) := by decide +kernel
theorem dX3_pick_25 : decode cX3_pick 25 = .ok (.lconst 0, 1) := by decide +kernel
theorem dX3_pick_26 : decode cX3_pick 26 = .ok (.iconst 1, 1) := by decide +kernel
theorem dX3_pick_27 : decode cX3_pick 27 = .ok (.aload_n 0, 1) := by decide +kernel
theorem dX3_pick_28 : decode cX3_pick 28 = .ok (.getfield 7, 3) := by decide +kernel
theorem dX3_pick_31 : decode cX3_pick 31 = .ok (.ishl, 1) := by decide +kernel
theorem dX3_pick_32 : decode cX3_pick 32 = .ok (.iconst 1, 1) := by decide +kernel
theorem dX3_pick_33 : decode cX3_pick 33 = .ok (.isub, 1) := by decide +kernel
theorem dX3_pick_34 : decode cX3_pick 34 = .ok (.i2l, 1) := by decide +kernel
theorem dX3_pick_35 : decode cX3_pick 35 = .ok (.invokestatic 88, 3) := by decide +kernel
theorem dX3_pick_38 : decode cX3_pick 38 = .ok (.ifCond .eq 9, 3) := by decide +kernel
theorem dX3_pick_41 : decode cX3_pick 41 = .ok (.iload_n 1, 1) := by decide +kernel
theorem dX3_pick_42 : decode cX3_pick 42 = .ok (.iload_n 2, 1) := by decide +kernel
theorem dX3_pick_43 : decode cX3_pick 43 = .ok (.iand, 1) := by decide +kernel
theorem dX3_pick_44 : decode cX3_pick 44 = .ok (.ifCond .eq 6, 3) := by decide +kernel
theorem dX3_pick_47 : decode cX3_pick 47 = .ok (.bipush (-2), 2) := by decide +kernel
theorem dX3_pick_49 : decode cX3_pick 49 = .ok (.ireturn, 1) := by decide +kernel
theorem dX3_pick_50 : decode cX3_pick 50 = .ok (.aload_n 0, 1) := by decide +kernel
theorem dX3_pick_51 : decode cX3_pick 51 = .ok (.getfield 92, 3) := by decide +kernel
theorem dX3_pick_54 : decode cX3_pick 54 = .ok (.bipush 60, 2) := by decide +kernel
theorem dX3_pick_56 : decode cX3_pick 56 = .ok (.if_icmp .ne 6, 3) := by decide +kernel
theorem dX3_pick_59 : decode cX3_pick 59 = .ok (.bipush (-4), 2) := by decide +kernel
theorem dX3_pick_61 : decode cX3_pick 61 = .ok (.ireturn, 1) := by decide +kernel
theorem dX3_pick_62 : decode cX3_pick 62 = .ok (.iconst 0, 1) := by decide +kernel
theorem dX3_pick_63 : decode cX3_pick 63 = .ok (.istore_n 3, 1) := by decide +kernel
theorem dX3_pick_64 : decode cX3_pick 64 = .ok (.iload_n 3, 1) := by decide +kernel
theorem dX3_pick_65 : decode cX3_pick 65 = .ok (.aload_n 0, 1) := by decide +kernel
theorem dX3_pick_66 : decode cX3_pick 66 = .ok (.getfield 7, 3) := by decide +kernel
theorem dX3_pick_69 : decode cX3_pick 69 = .ok (.if_icmp .ge 41, 3) := by decide +kernel
theorem dX3_pick_72 : decode cX3_pick 72 = .ok (.aload_n 0, 1) := by decide +kernel
theorem dX3_pick_73 : decode cX3_pick 73 = .ok (.iload_n 3, 1) := by decide +kernel
theorem dX3_pick_74 : decode cX3_pick 74 = .ok (.iload_n 1, 1) := by decide +kernel
theorem dX3_pick_75 : decode cX3_pick 75 = .ok (.iload_n 3, 1) := by decide +kernel
theorem dX3_pick_76 : decode cX3_pick 76 = .ok (.ishr, 1) := by decide +kernel
theorem dX3_pick_77 : decode cX3_pick 77 = .ok (.iconst 1, 1) := by decide +kernel
theorem dX3_pick_78 : decode cX3_pick 78 = .ok (.iand, 1) := by decide +kernel
theorem dX3_pick_79 : decode cX3_pick 79 = .ok (.iconst 1, 1) := by decide +kernel
theorem dX3_pick_80 : decode cX3_pick 80 = .ok (.if_icmp .ne 7, 3) := by decide +kernel
theorem dX3_pick_83 : decode cX3_pick 83 = .ok (.iconst 0, 1) := by decide +kernel
theorem dX3_pick_84 : decode cX3_pick 84 = .ok (.goto 17, 3) := by decide +kernel
theorem dX3_pick_87 : decode cX3_pick 87 = .ok (.iload_n 2, 1) := by decide +kernel
theorem dX3_pick_88 : decode cX3_pick 88 = .ok (.iload_n 3, 1) := by decide +kernel
theorem dX3_pick_89 : decode cX3_pick 89 = .ok (.ishr, 1) := by decide +kernel
theorem dX3_pick_90 : decode cX3_pick 90 = .ok (.iconst 1, 1) := by decide +kernel
theorem dX3_pick_91 : decode cX3_pick 91 = .ok (.iand, 1) := by decide +kernel
theorem dX3_pick_92 : decode cX3_pick 92 = .ok (.iconst 1, 1) := by decide +kernel
theorem dX3_pick_93 : decode cX3_pick 93 = .ok (.if_icmp .ne 7, 3) := by decide +kernel
theorem dX3_pick_96 : decode cX3_pick 96 = .ok (.iconst 1, 1) := by decide +kernel
theorem dX3_pick_97 : decode cX3_pick 97 = .ok (.goto 4, 3) := by decide +kernel
theorem dX3_pick_100 : decode cX3_pick 100 = .ok (.iconst 2, 1) := by decide +kernel
theorem dX3_pick_101 : decode cX3_pick 101 = .ok (.invokevirtual 112, 3) := by decide +kernel
theorem dX3_pick_104 : decode cX3_pick 104 = .ok (.iinc 3 1, 3) := by decide +kernel
theorem dX3_pick_107 : decode cX3_pick 107 = .ok (.goto (-43), 3) := by decide +kernel
theorem dX3_pick_110 : decode cX3_pick 110 = .ok (.aload_n 0, 1) := by decide +kernel
theorem dX3_pick_111 : decode cX3_pick 111 = .ok (.dup, 1) := by decide +kernel
theorem dX3_pick_112 : decode cX3_pick 112 = .ok (.getfield 92, 3) := by decide +kernel
theorem dX3_pick_115 : decode cX3_pick 115 = .ok (.iconst 1, 1) := by decide +kernel
theorem dX3_pick_116 : decode cX3_pick 116 = .ok (.iadd, 1) := by decide +kernel
theorem dX3_pick_117 : decode cX3_pick 117 = .ok (.putfield 92, 3) := by decide +kernel
theorem dX3_pick_120 : decode cX3_pick 120 = .ok (.aload_n 0, 1) := by decide +kernel
theorem dX3_pick_121 : decode cX3_pick 121 = .ok (.getfield 92, 3) := by decide +kernel
theorem dX3_pick_124 : decode cX3_pick 124 = .ok (.ireturn, 1) := by decide +kernel
theorem dX3_packs_0 : decode cX3_packs 0 = .ok (.aload_n 0, 1) := by decide +kernel
theorem dX3_packs_1 : decode cX3_packs 1 = .ok (.iconst 0, 1) := by decide +kernel
theorem dX3_packs_2 : decode cX3_packs 2 = .ok (.putfield 85, 3) := by decide +kernel
theorem dX3_packs_5 : decode cX3_packs 5 = .ok (.iload_n 1, 1) := by decide +kernel
theorem dX3_packs_6 : decode cX3_packs 6 = .ok (.i2l, 1) := by decide +kernel
theorem dX3_packs_7 : decode cX3_packs 7 = .ok (.lconst 0, 1) := by decide +kernel
theorem dX3_packs_8 : decode cX3_packs 8 = .ok (.ldc2_w 115, 3) := by decide +kernel
theorem dX3_packs_11 : decode cX3_packs 11 = .ok (.invokestatic 88, 3) := by decide +kernel
theorem dX3_packs_14 : decode cX3_packs 14 = .ok (.ifCond .eq 40, 3) := by decide +kernel
theorem dX3_packs_17 : decode cX3_packs 17 = .ok (.iload_n 2, 1) := by decide +kernel
theorem dX3_packs_18 : decode cX3_packs 18 = .ok (.i2l, 1) := by decide +kernel
theorem dX3_packs_19 : decode cX3_packs 19 = .ok (.lconst 0, 1) := by decide +kernel
theorem dX3_packs_20 : decode cX3_packs 20 = .ok (.ldc2_w 115, 3) := by decide +kernel
theorem dX3_packs_23 : decode cX3_packs 23 = .ok (.invokestatic 88, 3) := by decide +kernel
theorem dX3_packs_26 : decode cX3_packs 26 = .ok (.ifCond .eq 28, 3) := by decide +kernel
theorem dX3_packs_29 : decode cX3_packs 29 = .ok (.iload_n 3, 1) := by decide +kernel
theorem dX3_packs_30 : decode cX3_packs 30 = .ok (.i2l, 1) := by decide +kernel
theorem dX3_packs_31 : decode cX3_packs 31 = .ok (.lconst 0, 1) := by decide +kernel
theorem dX3_packs_32 : decode cX3_packs 32 = .ok (.ldc2_w 115, 3) := by decide +kernel
theorem dX3_packs_35 : decode cX3_packs 35 = .ok (.invokestatic 88, 3) := by decide +kernel
theorem dX3_packs_38 : decode cX3_packs 38 = .ok (.ifCond .eq 16, 3) := by decide +kernel
theorem dX3_packs_41 : decode cX3_packs 41 = .ok (.iload 4, 2) := by decide +kernel
theorem dX3_packs_43 : decode cX3_packs 43 = .ok (.i2l, 1) := by decide +kernel
theorem dX3_packs_44 : decode cX3_packs 44 = .ok (.lconst 0, 1) := by decide +kernel
theorem dX3_packs_45 : decode cX3_packs 45 = .ok (.ldc2_w 115, 3) := by decide +kernel
theorem dX3_packs_48 : decode cX3_packs 48 = .ok (.invokestatic 88, 3) := by decide +kernel
theorem dX3_packs_51 : decode cX3_packs 51 = .ok (.ifCond .ne 6, 3) := by decide +kernel
theorem dX3_packs_54 : decode cX3_packs 54 = .ok (.bipush (-2), 2) := by decide +kernel
theorem dX3_packs_56 : decode cX3_packs 56 = .ok (.ireturn, 1) := by decide +kernel
theorem dX3_packs_57 : decode cX3_packs 57 = .ok (.aload_n 0, 1) := by decide +kernel
theorem dX3_packs_58 : decode cX3_packs 58 = .ok (.getfield 92, 3) := by decide +kernel
theorem dX3_packs_61 : decode cX3_packs 61 = .ok (.bipush 60, 2) := by decide +kernel
theorem dX3_packs_63 : decode cX3_packs 63 = .ok (.if_icmp .ne 6, 3) := by decide +kernel
theorem dX3_packs_66 : decode cX3_packs 66 = .ok (.bipush (-4), 2) := by decide +kernel
theorem dX3_packs_68 : decode cX3_packs 68 = .ok (.ireturn, 1) := by decide +kernel
theorem dX3_packs_69 : decode cX3_packs 69 = .ok (.iconst 0, 1) := by decide +kernel
theorem dX3_packs_70 : decode cX3_packs 70 = .ok (.istore 5, 2) := by decide +kernel
theorem dX3_packs_72 : decode cX3_packs 72 = .ok (.iload 5, 2) := by decide +kernel
theorem dX3_packs_74 : decode cX3_packs 74 = .ok (.aload_n 0, 1) := by decide +kernel
theorem dX3_packs_75 : decode cX3_packs 75 = .ok (.getfield 7, 3) := by decide +kernel
theorem dX3_packs_78 : decode cX3_packs 78 = .ok (.if_icmp .ge 61, 3) := by decide +kernel
theorem dX3_packs_81 : decode cX3_packs 81 = .ok (.aload_n 0, 1) := by decide +kernel
theorem dX3_packs_82 : decode cX3_packs 82 = .ok (.iload 5, 2) := by decide +kernel
theorem dX3_packs_84 : decode cX3_packs 84 = .ok (.aload_n 0, 1) := by decide +kernel
theorem dX3_packs_85 : decode cX3_packs 85 = .ok (.getfield 23, 3) := by decide +kernel
theorem dX3_packs_88 : decode cX3_packs 88 = .ok (.iload 5, 2) := by decide +kernel
theorem dX3_packs_90 : decode cX3_packs 90 = .ok (.iaload, 1) := by decide +kernel
theorem dX3_packs_91 : decode cX3_packs 91 = .ok (.ifCond .ne 7, 3) := by decide +kernel
theorem dX3_packs_94 : decode cX3_packs 94 = .ok (.iload_n 1, 1) := by decide +kernel
theorem dX3_packs_95 : decode cX3_packs 95 = .ok (.goto 35, 3) := by decide +kernel
theorem dX3_packs_98 : decode cX3_packs 98 = .ok (.aload_n 0, 1) := by decide +kernel
theorem dX3_packs_99 : decode cX3_packs 99 = .ok (.getfield 23, 3) := by decide +kernel
theorem dX3_packs_102 : decode cX3_packs 102 = .ok (.iload 5, 2) := by decide +kernel
theorem dX3_packs_104 : decode cX3_packs 104 = .ok (.iaload, 1) := by decide +kernel
theorem dX3_packs_105 : decode cX3_packs 105 = .ok (.iconst 1, 1) := by decide +kernel
theorem dX3_packs_106 : decode cX3_packs 106 = .ok (.if_icmp .ne 7, 3) := by decide +kernel
theorem dX3_packs_109 : decode cX3_packs 109 = .ok (.iload_n 2, 1) := by decide +kernel
theorem dX3_packs_110 : decode cX3_packs 110 = .ok (.goto 20, 3) := by decide +kernel
theorem dX3_packs_113 : decode cX3_packs 113 = .ok (.aload_n 0, 1) := by decide +kernel
theorem dX3_packs_114 : decode cX3_packs 114 = .ok (.getfield 23, 3) := by decide +kernel
theorem dX3_packs_117 : decode cX3_packs 117 = .ok (.iload 5, 2) := by decide +kernel
theorem dX3_packs_119 : decode cX3_packs 119 = .ok (.iaload, 1) := by decide +kernel
theorem dX3_packs_120 : decode cX3_packs 120 = .ok (.iconst 2, 1) := by decide +kernel
theorem dX3_packs_121 : decode cX3_packs 121 = .ok (.if_icmp .ne 7, 3) := by decide +kernel
theorem dX3_packs_124 : decode cX3_packs 124 = .ok (.iload_n 3, 1) := by decide +kernel
theorem dX3_packs_125 : decode cX3_packs 125 = .ok (.goto 5, 3) := by decide +kernel
theorem dX3_packs_128 : decode cX3_packs 128 = .ok (.iload 4, 2) := by decide +kernel
theorem dX3_packs_130 : decode cX3_packs 130 = .ok (.invokevirtual 112, 3) := by decide +kernel
theorem dX3_packs_133 : decode cX3_packs 133 = .ok (.iinc 5 1, 3) := by decide +kernel
theorem dX3_packs_136 : decode cX3_packs 136 = .ok (.goto (-64), 3) := by decide +kernel
theorem dX3_packs_139 : decode cX3_packs 139 = .ok (.aload_n 0, 1) := by decide +kernel
theorem dX3_packs_140 : decode cX3_packs 140 = .ok (.dup, 1) := by decide +kernel
theorem dX3_packs_141 : decode cX3_packs 141 = .ok (.getfield 92, 3) := by decide +kernel
theorem dX3_packs_144 : decode cX3_packs 144 = .ok (.iconst 1, 1) := by decide +kernel
theorem dX3_packs_145 : decode cX3_packs 145 = .ok (.iadd, 1) := by decide +kernel
theorem dX3_packs_146 : decode cX3_packs 146 = .ok (.putfield 92, 3) := by decide +kernel
theorem dX3_packs_149 : decode cX3_packs 149 = .ok (.aload_n 0, 1) := by decide +kernel
theorem dX3_packs_150 : decode cX3_packs 150 = .ok (.getfield 92, 3) := by decide +kernel
theorem dX3_packs_153 : decode cX3_packs 153 = .ok (.ireturn, 1) := by decide +kernel
theorem dX3_unweave_0 : decode cX3_unweave 0 = .ok (.aload_n 0, 1) := by decide +kernel
theorem dX3_unweave_1 : decode cX3_unweave 1 = .ok (.iconst 0, 1) := by decide +kernel
theorem dX3_unweave_2 : decode cX3_unweave 2 = .ok (.putfield 85, 3) := by decide +kernel
theorem dX3_unweave_5 : decode cX3_unweave 5 = .ok (.aload_n 0, 1) := by decide +kernel
theorem dX3_unweave_6 : decode cX3_unweave 6 = .ok (.getfield 92, 3) := by decide +kernel
theorem dX3_unweave_9 : decode cX3_unweave 9 = .ok (.ifCond .ne 6, 3) := by decide +kernel
theorem dX3_unweave_12 : decode cX3_unweave 12 = .ok (.bipush (-3), 2) := by decide +kernel
theorem dX3_unweave_14 : decode cX3_unweave 14 = .ok (.ireturn, 1) := by decide +kernel
theorem dX3_unweave_15 : decode cX3_unweave 15 = .ok (.aload_n 0, 1) := by decide +kernel
theorem dX3_unweave_16 : decode cX3_unweave 16 = .ok (.dup, 1) := by decide +kernel
theorem dX3_unweave_17 : decode cX3_unweave 17 = .ok (.getfield 92, 3) := by decide +kernel
theorem dX3_unweave_20 : decode cX3_unweave 20 = .ok (.iconst 1, 1) := by decide +kernel
theorem dX3_unweave_21 : decode cX3_unweave 21 = .ok (.isub, 1) := by decide +kernel
theorem dX3_unweave_22 : decode cX3_unweave 22 = .ok (.putfield 92, 3) := by decide +kernel
theorem dX3_unweave_25 : decode cX3_unweave 25 = .ok (.iconst 0, 1) := by decide +kernel
theorem dX3_unweave_26 : decode cX3_unweave 26 = .ok (.istore_n 1, 1) := by decide +kernel
theorem dX3_unweave_27 : decode cX3_unweave 27 = .ok (.iload_n 1, 1) := by decide +kernel
theorem dX3_unweave_28 : decode cX3_unweave 28 = .ok (.aload_n 0, 1) := by decide +kernel
theorem dX3_unweave_29 : decode cX3_unweave 29 = .ok (.getfield 7, 3) := by decide +kernel
theorem dX3_unweave_32 : decode cX3_unweave 32 = .ok (.if_icmp .ge 100, 3) := by decide +kernel
theorem dX3_unweave_35 : decode cX3_unweave 35 = .ok (.bipush 16, 2) := by decide +kernel
theorem dX3_unweave_37 : decode cX3_unweave 37 = .ok (.aload_n 0, 1) := by decide +kernel
theorem dX3_unweave_38 : decode cX3_unweave 38 = .ok (.getfield 92, 3) := by decide +kernel
theorem dX3_unweave_41 : decode cX3_unweave 41 = .ok (.imul, 1) := by decide +kernel
theorem dX3_unweave_42 : decode cX3_unweave 42 = .ok (.iload_n 1, 1) := by decide +kernel
theorem dX3_unweave_43 : decode cX3_unweave 43 = .ok (.iadd, 1) := by decide +kernel
theorem dX3_unweave_44 : decode cX3_unweave 44 = .ok (.istore_n 2, 1) := by decide +kernel
theorem dX3_unweave_45 : decode cX3_unweave 45 = .ok (.iconst 0, 1) := by decide +kernel
theorem dX3_unweave_46 : decode cX3_unweave 46 = .ok (.istore_n 3, 1) := by decide +kernel
theorem dX3_unweave_47 : decode cX3_unweave 47 = .ok (.iload_n 3, 1) := by decide +kernel
theorem dX3_unweave_48 : decode cX3_unweave 48 = .ok (.iconst 4, 1) := by decide +kernel
theorem dX3_unweave_49 : decode cX3_unweave 49 = .ok (.if_icmp .ge 29, 3) := by decide +kernel
theorem dX3_unweave_52 : decode cX3_unweave 52 = .ok (.aload_n 0, 1) := by decide +kernel
theorem dX3_unweave_53 : decode cX3_unweave 53 = .ok (.getfield 17, 3) := by decide +kernel
theorem dX3_unweave_56 : decode cX3_unweave 56 = .ok (.iconst 4, 1) := by decide +kernel
theorem dX3_unweave_57 : decode cX3_unweave 57 = .ok (.iload_n 1, 1) := by decide +kernel
theorem dX3_unweave_58 : decode cX3_unweave 58 = .ok (.imul, 1) := by decide +kernel
theorem dX3_unweave_59 : decode cX3_unweave 59 = .ok (.iload_n 3, 1) := by decide +kernel
theorem dX3_unweave_60 : decode cX3_unweave 60 = .ok (.iadd, 1) := by decide +kernel
theorem dX3_unweave_61 : decode cX3_unweave 61 = .ok (.aload_n 0, 1) := by decide +kernel
theorem dX3_unweave_62 : decode cX3_unweave 62 = .ok (.getfield 35, 3) := by decide +kernel
theorem dX3_unweave_65 : decode cX3_unweave 65 = .ok (.iconst 4, 1) := by decide +kernel
theorem dX3_unweave_66 : decode cX3_unweave 66 = .ok (.iload_n 2, 1) := by decide +kernel
theorem dX3_unweave_67 : decode cX3_unweave 67 = .ok (.imul, 1) := by decide +kernel
theorem dX3_unweave_68 : decode cX3_unweave 68 = .ok (.iload_n 3, 1) := by decide +kernel
theorem dX3_unweave_69 : decode cX3_unweave 69 = .ok (.iadd, 1) := by decide +kernel
theorem dX3_unweave_70 : decode cX3_unweave 70 = .ok (.iaload, 1) := by decide +kernel
theorem dX3_unweave_71 : decode cX3_unweave 71 = .ok (.iastore, 1) := by decide +kernel
theorem dX3_unweave_72 : decode cX3_unweave 72 = .ok (.iinc 3 1, 3) := by decide +kernel
theorem dX3_unweave_75 : decode cX3_unweave 75 = .ok (.goto (-28), 3) := by decide +kernel
theorem dX3_unweave_78 : decode cX3_unweave 78 = .ok (.aload_n 0, 1) := by decide +kernel
theorem dX3_unweave_79 : decode cX3_unweave 79 = .ok (.getfield 20, 3) := by decide +kernel
theorem dX3_unweave_82 : decode cX3_unweave 82 = .ok (.iload_n 1, 1) := by decide +kernel
theorem dX3_unweave_83 : decode cX3_unweave 83 = .ok (.aload_n 0, 1) := by decide +kernel
theorem dX3_unweave_84 : decode cX3_unweave 84 = .ok (.getfield 38, 3) := by decide +kernel
theorem dX3_unweave_87 : decode cX3_unweave 87 = .ok (.iload_n 2, 1) := by decide +kernel
theorem dX3_unweave_88 : decode cX3_unweave 88 = .ok (.iaload, 1) := by decide +kernel
theorem dX3_unweave_89 : decode cX3_unweave 89 = .ok (.iastore, 1) := by decide +kernel
theorem dX3_unweave_90 : decode cX3_unweave 90 = .ok (.aload_n 0, 1) := by decide +kernel
theorem dX3_unweave_91 : decode cX3_unweave 91 = .ok (.getfield 26, 3) := by decide +kernel
theorem dX3_unweave_94 : decode cX3_unweave 94 = .ok (.iload_n 1, 1) := by decide +kernel
theorem dX3_unweave_95 : decode cX3_unweave 95 = .ok (.aload_n 0, 1) := by decide +kernel
theorem dX3_unweave_96 : decode cX3_unweave 96 = .ok (.getfield 41, 3) := by decide +kernel
theorem dX3_unweave_99 : decode cX3_unweave 99 = .ok (.iload_n 2, 1) := by decide +kernel
theorem dX3_unweave_100 : decode cX3_unweave 100 = .ok (.iaload, 1) := by decide +kernel
theorem dX3_unweave_101 : decode cX3_unweave 101 = .ok (.iastore, 1) := by decide +kernel
theorem dX3_unweave_102 : decode cX3_unweave 102 = .ok (.aload_n 0, 1) := by decide +kernel
theorem dX3_unweave_103 : decode cX3_unweave 103 = .ok (.getfield 29, 3) := by decide +kernel
theorem dX3_unweave_106 : decode cX3_unweave 106 = .ok (.iload_n 1, 1) := by decide +kernel
theorem dX3_unweave_107 : decode cX3_unweave 107 = .ok (.aload_n 0, 1) := by decide +kernel
theorem dX3_unweave_108 : decode cX3_unweave 108 = .ok (.getfield 44, 3) := by decide +kernel
theorem dX3_unweave_111 : decode cX3_unweave 111 = .ok (.iload_n 2, 1) := by decide +kernel
theorem dX3_unweave_112 : decode cX3_unweave 112 = .ok (.iaload, 1) := by decide +kernel
theorem dX3_unweave_113 : decode cX3_unweave 113 = .ok (.iastore, 1) := by decide +kernel
theorem dX3_unweave_114 : decode cX3_unweave 114 = .ok (.aload_n 0, 1) := by decide +kernel
theorem dX3_unweave_115 : decode cX3_unweave 115 = .ok (.getfield 32, 3) := by decide +kernel
theorem dX3_unweave_118 : decode cX3_unweave 118 = .ok (.iload_n 1, 1) := by decide +kernel
theorem dX3_unweave_119 : decode cX3_unweave 119 = .ok (.aload_n 0, 1) := by decide +kernel
theorem dX3_unweave_120 : decode cX3_unweave 120 = .ok (.getfield 47, 3) := by decide +kernel
theorem dX3_unweave_123 : decode cX3_unweave 123 = .ok (.iload_n 2, 1) := by decide +kernel
theorem dX3_unweave_124 : decode cX3_unweave 124 = .ok (.iaload, 1) := by decide +kernel
theorem dX3_unweave_125 : decode cX3_unweave 125 = .ok (.iastore, 1) := by decide +kernel
theorem dX3_unweave_126 : decode cX3_unweave 126 = .ok (.iinc 1 1, 3) := by decide +kernel
theorem dX3_unweave_129 : decode cX3_unweave 129 = .ok (.goto (-102), 3) := by decide +kernel
theorem dX3_unweave_132 : decode cX3_unweave 132 = .ok (.aload_n 0, 1) := by decide +kernel
theorem dX3_unweave_133 : decode cX3_unweave 133 = .ok (.getfield 92, 3) := by decide +kernel
theorem dX3_unweave_136 : decode cX3_unweave 136 = .ok (.ireturn, 1) := by decide +kernel
theorem dX3_turn_0 : decode cX3_turn 0 = .ok (.aload_n 0, 1) := by decide +kernel
theorem dX3_turn_1 : decode cX3_turn 1 = .ok (.iconst 0, 1) := by decide +kernel
theorem dX3_turn_2 : decode cX3_turn 2 = .ok (.putfield 85, 3) := by decide +kernel
theorem dX3_turn_5 : decode cX3_turn 5 = .ok (.aload_n 0, 1) := by decide +kernel
theorem dX3_turn_6 : decode cX3_turn 6 = .ok (.iload_n 1, 1) := by decide +kernel
theorem dX3_turn_7 : decode cX3_turn 7 = .ok (.invokevirtual 117, 3) := by decide +kernel
theorem dX3_turn_10 : decode cX3_turn 10 = .ok (.ifCond .ne 11, 3) := by decide +kernel
theorem dX3_turn_13 : decode cX3_turn 13 = .ok (.aload_n 0, 1) := by decide +kernel
theorem dX3_turn_14 : decode cX3_turn 14 = .ok (.iload_n 2, 1) := by decide +kernel
theorem dX3_turn_15 : decode cX3_turn 15 = .ok (.invokevirtual 97, 3) := by decide +kernel
theorem dX3_turn_18 : decode cX3_turn 18 = .ok (.ifCond .eq 7, 3) := by decide +kernel
theorem dX3_turn_21 : decode cX3_turn 21 = .ok (.iconst (-1), 1) := by decide +kernel
theorem dX3_turn_22 : decode cX3_turn 22 = .ok (.goto 14, 3) := by decide +kernel
theorem dX3_turn_25 : decode cX3_turn 25 = .ok (.aload_n 0, 1) := by decide +kernel
theorem dX3_turn_26 : decode cX3_turn 26 = .ok (.getfield 50, 3) := by decide +kernel
theorem dX3_turn_29 : decode cX3_turn 29 = .ok (.bipush 16, 2) := by decide +kernel
theorem dX3_turn_31 : decode cX3_turn 31 = .ok (.iload_n 1, 1) := by decide +kernel
theorem dX3_turn_32 : decode cX3_turn 32 = .ok (.imul, 1) := by decide +kernel
theorem dX3_turn_33 : decode cX3_turn 33 = .ok (.iload_n 2, 1) := by decide +kernel
theorem dX3_turn_34 : decode cX3_turn 34 = .ok (.iadd, 1) := by decide +kernel
theorem dX3_turn_35 : decode cX3_turn 35 = .ok (.iaload, 1) := by decide +kernel
theorem dX3_turn_36 : decode cX3_turn 36 = .ok (.ireturn, 1) := by decide +kernel
theorem dX3_colourOf_0 : decode cX3_colourOf 0 = .ok (.aload_n 0, 1) := by decide +kernel
theorem dX3_colourOf_1 : decode cX3_colourOf 1 = .ok (.getfield 13, 3) := by decide +kernel
theorem dX3_colourOf_4 : decode cX3_colourOf 4 = .ok (.iconst 4, 1) := by decide +kernel
theorem dX3_colourOf_5 : decode cX3_colourOf 5 = .ok (.iload_n 2, 1) := by decide +kernel
theorem dX3_colourOf_6 : decode cX3_colourOf 6 = .ok (.imul, 1) := by decide +kernel
theorem dX3_colourOf_7 : decode cX3_colourOf 7 = .ok (.aload_n 0, 1) := by decide +kernel
theorem dX3_colourOf_8 : decode cX3_colourOf 8 = .ok (.getfield 53, 3) := by decide +kernel
theorem dX3_colourOf_11 : decode cX3_colourOf 11 = .ok (.bipush 16, 2) := by decide +kernel
theorem dX3_colourOf_13 : decode cX3_colourOf 13 = .ok (.iload_n 1, 1) := by decide +kernel
theorem dX3_colourOf_14 : decode cX3_colourOf 14 = .ok (.imul, 1) := by decide +kernel
theorem dX3_colourOf_15 : decode cX3_colourOf 15 = .ok (.iload_n 2, 1) := by decide +kernel
theorem dX3_colourOf_16 : decode cX3_colourOf 16 = .ok (.iadd, 1) := by decide +kernel
theorem dX3_colourOf_17 : decode cX3_colourOf 17 = .ok (.iaload, 1) := by decide +kernel
theorem dX3_colourOf_18 : decode cX3_colourOf 18 = .ok (.iadd, 1) := by decide +kernel
theorem dX3_colourOf_19 : decode cX3_colourOf 19 = .ok (.iaload, 1) := by decide +kernel
theorem dX3_colourOf_20 : decode cX3_colourOf 20 = .ok (.ireturn, 1) := by decide +kernel
theorem dX3_behindOf_0 : decode cX3_behindOf 0 = .ok (.aload_n 0, 1) := by decide +kernel
theorem dX3_behindOf_1 : decode cX3_behindOf 1 = .ok (.getfield 13, 3) := by decide +kernel
theorem dX3_behindOf_4 : decode cX3_behindOf 4 = .ok (.iconst 4, 1) := by decide +kernel
theorem dX3_behindOf_5 : decode cX3_behindOf 5 = .ok (.iload_n 2, 1) := by decide +kernel
theorem dX3_behindOf_6 : decode cX3_behindOf 6 = .ok (.imul, 1) := by decide +kernel
theorem dX3_behindOf_7 : decode cX3_behindOf 7 = .ok (.aload_n 0, 1) := by decide +kernel
theorem dX3_behindOf_8 : decode cX3_behindOf 8 = .ok (.getfield 56, 3) := by decide +kernel
theorem dX3_behindOf_11 : decode cX3_behindOf 11 = .ok (.bipush 16, 2) := by decide +kernel
theorem dX3_behindOf_13 : decode cX3_behindOf 13 = .ok (.iload_n 1, 1) := by decide +kernel
theorem dX3_behindOf_14 : decode cX3_behindOf 14 = .ok (.imul, 1) := by decide +kernel
theorem dX3_behindOf_15 : decode cX3_behindOf 15 = .ok (.iload_n 2, 1) := by decide +kernel
theorem dX3_behindOf_16 : decode cX3_behindOf 16 = .ok (.iadd, 1) := by decide +kernel
theorem dX3_behindOf_17 : decode cX3_behindOf 17 = .ok (.iaload, 1) := by decide +kernel
theorem dX3_behindOf_18 : decode cX3_behindOf 18 = .ok (.iadd, 1) := by decide +kernel
theorem dX3_behindOf_19 : decode cX3_behindOf 19 = .ok (.iaload, 1) := by decide +kernel
theorem dX3_behindOf_20 : decode cX3_behindOf 20 = .ok (.ireturn, 1) := by decide +kernel
theorem dX3_shows_0 : decode cX3_shows 0 = .ok (.aload_n 0, 1) := by decide +kernel
theorem dX3_shows_1 : decode cX3_shows 1 = .ok (.iconst 0, 1) := by decide +kernel
theorem dX3_shows_2 : decode cX3_shows 2 = .ok (.putfield 85, 3) := by decide +kernel
theorem dX3_shows_5 : decode cX3_shows 5 = .ok (.aload_n 0, 1) := by decide +kernel
theorem dX3_shows_6 : decode cX3_shows 6 = .ok (.iload_n 1, 1) := by decide +kernel
theorem dX3_shows_7 : decode cX3_shows 7 = .ok (.invokevirtual 117, 3) := by decide +kernel
theorem dX3_shows_10 : decode cX3_shows 10 = .ok (.ifCond .ne 11, 3) := by decide +kernel
theorem dX3_shows_13 : decode cX3_shows 13 = .ok (.aload_n 0, 1) := by decide +kernel
theorem dX3_shows_14 : decode cX3_shows 14 = .ok (.iload_n 2, 1) := by decide +kernel
theorem dX3_shows_15 : decode cX3_shows 15 = .ok (.invokevirtual 97, 3) := by decide +kernel
theorem dX3_shows_18 : decode cX3_shows 18 = .ok (.ifCond .eq 7, 3) := by decide +kernel
theorem dX3_shows_21 : decode cX3_shows 21 = .ok (.iconst (-1), 1) := by decide +kernel
theorem dX3_shows_22 : decode cX3_shows 22 = .ok (.goto 22, 3) := by decide +kernel
theorem dX3_shows_25 : decode cX3_shows 25 = .ok (.iload_n 3, 1) := by decide +kernel
theorem dX3_shows_26 : decode cX3_shows 26 = .ok (.ifCond .eq 12, 3) := by decide +kernel
theorem dX3_shows_29 : decode cX3_shows 29 = .ok (.aload_n 0, 1) := by decide +kernel
theorem dX3_shows_30 : decode cX3_shows 30 = .ok (.iload_n 1, 1) := by decide +kernel
theorem dX3_shows_31 : decode cX3_shows 31 = .ok (.iload_n 2, 1) := by decide +kernel
theorem dX3_shows_32 : decode cX3_shows 32 = .ok (.invokevirtual 120, 3) := by decide +kernel
theorem dX3_shows_35 : decode cX3_shows 35 = .ok (.goto 9, 3) := by decide +kernel
theorem dX3_shows_38 : decode cX3_shows 38 = .ok (.aload_n 0, 1) := by decide +kernel
theorem dX3_shows_39 : decode cX3_shows 39 = .ok (.iload_n 1, 1) := by decide +kernel
theorem dX3_shows_40 : decode cX3_shows 40 = .ok (.iload_n 2, 1) := by decide +kernel
theorem dX3_shows_41 : decode cX3_shows 41 = .ok (.invokevirtual 124, 3) := by decide +kernel
theorem dX3_shows_44 : decode cX3_shows 44 = .ok (.ireturn, 1) := by decide +kernel
theorem dX3_shown_0 : decode cX3_shown 0 = .ok (.aload_n 0, 1) := by decide +kernel
theorem dX3_shown_1 : decode cX3_shown 1 = .ok (.iconst 0, 1) := by decide +kernel
theorem dX3_shown_2 : decode cX3_shown 2 = .ok (.putfield 85, 3) := by decide +kernel
theorem dX3_shown_5 : decode cX3_shown 5 = .ok (.aload_n 0, 1) := by decide +kernel
theorem dX3_shown_6 : decode cX3_shown 6 = .ok (.iload_n 1, 1) := by decide +kernel
theorem dX3_shown_7 : decode cX3_shown 7 = .ok (.invokevirtual 117, 3) := by decide +kernel
theorem dX3_shown_10 : decode cX3_shown 10 = .ok (.ifCond .ne 11, 3) := by decide +kernel
theorem dX3_shown_13 : decode cX3_shown 13 = .ok (.aload_n 0, 1) := by decide +kernel
theorem dX3_shown_14 : decode cX3_shown 14 = .ok (.iload_n 2, 1) := by decide +kernel
theorem dX3_shown_15 : decode cX3_shown 15 = .ok (.invokevirtual 97, 3) := by decide +kernel
theorem dX3_shown_18 : decode cX3_shown 18 = .ok (.ifCond .eq 7, 3) := by decide +kernel
theorem dX3_shown_21 : decode cX3_shown 21 = .ok (.iconst (-1), 1) := by decide +kernel
theorem dX3_shown_22 : decode cX3_shown 22 = .ok (.goto 32, 3) := by decide +kernel
theorem dX3_shown_25 : decode cX3_shown 25 = .ok (.iload_n 3, 1) := by decide +kernel
theorem dX3_shown_26 : decode cX3_shown 26 = .ok (.ifCond .eq 17, 3) := by decide +kernel
theorem dX3_shown_29 : decode cX3_shown 29 = .ok (.aload_n 0, 1) := by decide +kernel
theorem dX3_shown_30 : decode cX3_shown 30 = .ok (.getfield 56, 3) := by decide +kernel
theorem dX3_shown_33 : decode cX3_shown 33 = .ok (.bipush 16, 2) := by decide +kernel
theorem dX3_shown_35 : decode cX3_shown 35 = .ok (.iload_n 1, 1) := by decide +kernel
theorem dX3_shown_36 : decode cX3_shown 36 = .ok (.imul, 1) := by decide +kernel
theorem dX3_shown_37 : decode cX3_shown 37 = .ok (.iload_n 2, 1) := by decide +kernel
theorem dX3_shown_38 : decode cX3_shown 38 = .ok (.iadd, 1) := by decide +kernel
theorem dX3_shown_39 : decode cX3_shown 39 = .ok (.iaload, 1) := by decide +kernel
theorem dX3_shown_40 : decode cX3_shown 40 = .ok (.goto 14, 3) := by decide +kernel
theorem dX3_shown_43 : decode cX3_shown 43 = .ok (.aload_n 0, 1) := by decide +kernel
theorem dX3_shown_44 : decode cX3_shown 44 = .ok (.getfield 53, 3) := by decide +kernel
theorem dX3_shown_47 : decode cX3_shown 47 = .ok (.bipush 16, 2) := by decide +kernel
theorem dX3_shown_49 : decode cX3_shown 49 = .ok (.iload_n 1, 1) := by decide +kernel
theorem dX3_shown_50 : decode cX3_shown 50 = .ok (.imul, 1) := by decide +kernel
theorem dX3_shown_51 : decode cX3_shown 51 = .ok (.iload_n 2, 1) := by decide +kernel
theorem dX3_shown_52 : decode cX3_shown 52 = .ok (.iadd, 1) := by decide +kernel
theorem dX3_shown_53 : decode cX3_shown 53 = .ok (.iaload, 1) := by decide +kernel
theorem dX3_shown_54 : decode cX3_shown 54 = .ok (.ireturn, 1) := by decide +kernel
theorem dX3_slant_0 : decode cX3_slant 0 = .ok (.aload_n 0, 1) := by decide +kernel
theorem dX3_slant_1 : decode cX3_slant 1 = .ok (.iconst 0, 1) := by decide +kernel
theorem dX3_slant_2 : decode cX3_slant 2 = .ok (.putfield 85, 3) := by decide +kernel
theorem dX3_slant_5 : decode cX3_slant 5 = .ok (.aload_n 0, 1) := by decide +kernel
theorem dX3_slant_6 : decode cX3_slant 6 = .ok (.iload_n 1, 1) := by decide +kernel
theorem dX3_slant_7 : decode cX3_slant 7 = .ok (.invokevirtual 117, 3) := by decide +kernel
theorem dX3_slant_10 : decode cX3_slant 10 = .ok (.ifCond .ne 11, 3) := by decide +kernel
theorem dX3_slant_13 : decode cX3_slant 13 = .ok (.aload_n 0, 1) := by decide +kernel
theorem dX3_slant_14 : decode cX3_slant 14 = .ok (.iload_n 2, 1) := by decide +kernel
theorem dX3_slant_15 : decode cX3_slant 15 = .ok (.invokevirtual 97, 3) := by decide +kernel
theorem dX3_slant_18 : decode cX3_slant 18 = .ok (.ifCond .eq 7, 3) := by decide +kernel
theorem dX3_slant_21 : decode cX3_slant 21 = .ok (.iconst (-1), 1) := by decide +kernel
theorem dX3_slant_22 : decode cX3_slant 22 = .ok (.goto 14, 3) := by decide +kernel
theorem dX3_slant_25 : decode cX3_slant 25 = .ok (.aload_n 0, 1) := by decide +kernel
theorem dX3_slant_26 : decode cX3_slant 26 = .ok (.getfield 59, 3) := by decide +kernel
theorem dX3_slant_29 : decode cX3_slant 29 = .ok (.bipush 16, 2) := by decide +kernel
theorem dX3_slant_31 : decode cX3_slant 31 = .ok (.iload_n 1, 1) := by decide +kernel
theorem dX3_slant_32 : decode cX3_slant 32 = .ok (.imul, 1) := by decide +kernel
theorem dX3_slant_33 : decode cX3_slant 33 = .ok (.iload_n 2, 1) := by decide +kernel
theorem dX3_slant_34 : decode cX3_slant 34 = .ok (.iadd, 1) := by decide +kernel
theorem dX3_slant_35 : decode cX3_slant 35 = .ok (.iaload, 1) := by decide +kernel
theorem dX3_slant_36 : decode cX3_slant 36 = .ok (.ireturn, 1) := by decide +kernel
theorem dX3_longest_0 : decode cX3_longest 0 = .ok (.aload_n 0, 1) := by decide +kernel
theorem dX3_longest_1 : decode cX3_longest 1 = .ok (.iconst 0, 1) := by decide +kernel
theorem dX3_longest_2 : decode cX3_longest 2 = .ok (.putfield 85, 3) := by decide +kernel
theorem dX3_longest_5 : decode cX3_longest 5 = .ok (.aload_n 0, 1) := by decide +kernel
theorem dX3_longest_6 : decode cX3_longest 6 = .ok (.iload_n 1, 1) := by decide +kernel
theorem dX3_longest_7 : decode cX3_longest 7 = .ok (.invokevirtual 97, 3) := by decide +kernel
theorem dX3_longest_10 : decode cX3_longest 10 = .ok (.ifCond .eq 5, 3) := by decide +kernel
theorem dX3_longest_13 : decode cX3_longest 13 = .ok (.iconst (-1), 1) := by decide +kernel
theorem dX3_longest_14 : decode cX3_longest 14 = .ok (.ireturn, 1) := by decide +kernel
theorem dX3_longest_15 : decode cX3_longest 15 = .ok (.iconst 0, 1) := by decide +kernel
theorem dX3_longest_16 : decode cX3_longest 16 = .ok (.istore_n 2, 1) := by decide +kernel
theorem dX3_longest_17 : decode cX3_longest 17 = .ok (.iconst 0, 1) := by decide +kernel
theorem dX3_longest_18 : decode cX3_longest 18 = .ok (.istore_n 3, 1) := by decide +kernel
theorem dX3_longest_19 : decode cX3_longest 19 = .ok (.iconst 0, 1) := by decide +kernel
theorem dX3_longest_20 : decode cX3_longest 20 = .ok (.istore 4, 2) := by decide +kernel
theorem dX3_longest_22 : decode cX3_longest 22 = .ok (.iload 4, 2) := by decide +kernel
theorem dX3_longest_24 : decode cX3_longest 24 = .ok (.aload_n 0, 1) := by decide +kernel
theorem dX3_longest_25 : decode cX3_longest 25 = .ok (.getfield 92, 3) := by decide +kernel
theorem dX3_longest_28 : decode cX3_longest 28 = .ok (.if_icmp .ge 44, 3) := by decide +kernel
theorem dX3_longest_31 : decode cX3_longest 31 = .ok (.aload_n 0, 1) := by decide +kernel
theorem dX3_longest_32 : decode cX3_longest 32 = .ok (.getfield 50, 3) := by decide +kernel
theorem dX3_longest_35 : decode cX3_longest 35 = .ok (.bipush 16, 2) := by decide +kernel
theorem dX3_longest_37 : decode cX3_longest 37 = .ok (.iload 4, 2) := by decide +kernel
theorem dX3_longest_39 : decode cX3_longest 39 = .ok (.imul, 1) := by decide +kernel
theorem dX3_longest_40 : decode cX3_longest 40 = .ok (.iload_n 1, 1) := by decide +kernel
theorem dX3_longest_41 : decode cX3_longest 41 = .ok (.iadd, 1) := by decide +kernel
theorem dX3_longest_42 : decode cX3_longest 42 = .ok (.iaload, 1) := by decide +kernel
theorem dX3_longest_43 : decode cX3_longest 43 = .ok (.iconst 2, 1) := by decide +kernel
theorem dX3_longest_44 : decode cX3_longest 44 = .ok (.if_icmp .ne 9, 3) := by decide +kernel
theorem dX3_longest_47 : decode cX3_longest 47 = .ok (.iload_n 3, 1) := by decide +kernel
theorem dX3_longest_48 : decode cX3_longest 48 = .ok (.iconst 1, 1) := by decide +kernel
theorem dX3_longest_49 : decode cX3_longest 49 = .ok (.iadd, 1) := by decide +kernel
theorem dX3_longest_50 : decode cX3_longest 50 = .ok (.goto 4, 3) := by decide +kernel
theorem dX3_longest_53 : decode cX3_longest 53 = .ok (.iconst 0, 1) := by decide +kernel
theorem dX3_longest_54 : decode cX3_longest 54 = .ok (.istore_n 3, 1) := by decide +kernel
theorem dX3_longest_55 : decode cX3_longest 55 = .ok (.iload_n 3, 1) := by decide +kernel
theorem dX3_longest_56 : decode cX3_longest 56 = .ok (.iload_n 2, 1) := by decide +kernel
theorem dX3_longest_57 : decode cX3_longest 57 = .ok (.if_icmp .le 7, 3) := by decide +kernel
theorem dX3_longest_60 : decode cX3_longest 60 = .ok (.iload_n 3, 1) := by decide +kernel
theorem dX3_longest_61 : decode cX3_longest 61 = .ok (.goto 4, 3) := by decide +kernel
theorem dX3_longest_64 : decode cX3_longest 64 = .ok (.iload_n 2, 1) := by decide +kernel
theorem dX3_longest_65 : decode cX3_longest 65 = .ok (.istore_n 2, 1) := by decide +kernel
theorem dX3_longest_66 : decode cX3_longest 66 = .ok (.iinc 4 1, 3) := by decide +kernel
theorem dX3_longest_69 : decode cX3_longest 69 = .ok (.goto (-47), 3) := by decide +kernel
theorem dX3_longest_72 : decode cX3_longest 72 = .ok (.iload_n 2, 1) := by decide +kernel
theorem dX3_longest_73 : decode cX3_longest 73 = .ok (.ireturn, 1) := by decide +kernel
theorem dX3_many_0 : decode cX3_many 0 = .ok (.aload_n 0, 1) := by decide +kernel
theorem dX3_many_1 : decode cX3_many 1 = .ok (.iconst 0, 1) := by decide +kernel
theorem dX3_many_2 : decode cX3_many 2 = .ok (.putfield 85, 3) := by decide +kernel
theorem dX3_many_5 : decode cX3_many 5 = .ok (.aload_n 0, 1) := by decide +kernel
theorem dX3_many_6 : decode cX3_many 6 = .ok (.iload_n 1, 1) := by decide +kernel
theorem dX3_many_7 : decode cX3_many 7 = .ok (.invokevirtual 117, 3) := by decide +kernel
theorem dX3_many_10 : decode cX3_many 10 = .ok (.ifCond .eq 5, 3) := by decide +kernel
theorem dX3_many_13 : decode cX3_many 13 = .ok (.iconst (-1), 1) := by decide +kernel
theorem dX3_many_14 : decode cX3_many 14 = .ok (.ireturn, 1) := by decide +kernel
theorem dX3_many_15 : decode cX3_many 15 = .ok (.iload_n 2, 1) := by decide +kernel
theorem dX3_many_16 : decode cX3_many 16 = .ok (.i2l, 1) := by decide +kernel
theorem dX3_many_17 : decode cX3_many 17 = .ok (.lconst 0, 1) := by decide +kernel
theorem dX3_many_18 : decode cX3_many 18 = .ok (.ldc2_w 103, 3) := by decide +kernel
theorem dX3_many_21 : decode cX3_many 21 = .ok (.invokestatic 88, 3) := by decide +kernel
theorem dX3_many_24 : decode cX3_many 24 = .ok (.ifCond .ne 6, 3) := by decide +kernel
theorem dX3_many_27 : decode cX3_many 27 = .ok (.bipush (-2), 2) := by decide +kernel
theorem dX3_many_29 : decode cX3_many 29 = .ok (.ireturn, 1) := by decide +kernel
theorem dX3_many_30 : decode cX3_many 30 = .ok (.iconst 0, 1) := by decide +kernel
theorem dX3_many_31 : decode cX3_many 31 = .ok (.istore_n 3, 1) := by decide +kernel
theorem dX3_many_32 : decode cX3_many 32 = .ok (.iconst 0, 1) := by decide +kernel
theorem dX3_many_33 : decode cX3_many 33 = .ok (.istore 4, 2) := by decide +kernel
theorem dX3_many_35 : decode cX3_many 35 = .ok (.iload 4, 2) := by decide +kernel
theorem dX3_many_37 : decode cX3_many 37 = .ok (.aload_n 0, 1) := by decide +kernel
theorem dX3_many_38 : decode cX3_many 38 = .ok (.getfield 7, 3) := by decide +kernel
theorem dX3_many_41 : decode cX3_many 41 = .ok (.if_icmp .ge 28, 3) := by decide +kernel
theorem dX3_many_44 : decode cX3_many 44 = .ok (.iload_n 3, 1) := by decide +kernel
theorem dX3_many_45 : decode cX3_many 45 = .ok (.aload_n 0, 1) := by decide +kernel
theorem dX3_many_46 : decode cX3_many 46 = .ok (.iload_n 1, 1) := by decide +kernel
theorem dX3_many_47 : decode cX3_many 47 = .ok (.iload 4, 2) := by decide +kernel
theorem dX3_many_49 : decode cX3_many 49 = .ok (.invokevirtual 124, 3) := by decide +kernel
theorem dX3_many_52 : decode cX3_many 52 = .ok (.iload_n 2, 1) := by decide +kernel
theorem dX3_many_53 : decode cX3_many 53 = .ok (.if_icmp .ne 7, 3) := by decide +kernel
theorem dX3_many_56 : decode cX3_many 56 = .ok (.iconst 1, 1) := by decide +kernel
theorem dX3_many_57 : decode cX3_many 57 = .ok (.goto 4, 3) := by decide +kernel
theorem dX3_many_60 : decode cX3_many 60 = .ok (.iconst 0, 1) := by decide +kernel
theorem dX3_many_61 : decode cX3_many 61 = .ok (.iadd, 1) := by decide +kernel
theorem dX3_many_62 : decode cX3_many 62 = .ok (.istore_n 3, 1) := by decide +kernel
theorem dX3_many_63 : decode cX3_many 63 = .ok (.iinc 4 1, 3) := by decide +kernel
theorem dX3_many_66 : decode cX3_many 66 = .ok (.goto (-31), 3) := by decide +kernel
theorem dX3_many_69 : decode cX3_many 69 = .ok (.iload_n 3, 1) := by decide +kernel
theorem dX3_many_70 : decode cX3_many 70 = .ok (.ireturn, 1) := by decide +kernel
theorem dX3_isLike_0 : decode cX3_isLike 0 = .ok (.iconst 1, 1) := by decide +kernel
theorem dX3_isLike_1 : decode cX3_isLike 1 = .ok (.istore_n 3, 1) := by decide +kernel
theorem dX3_isLike_2 : decode cX3_isLike 2 = .ok (.iconst 0, 1) := by decide +kernel
theorem dX3_isLike_3 : decode cX3_isLike 3 = .ok (.istore 4, 2) := by decide +kernel
theorem dX3_isLike_5 : decode cX3_isLike 5 = .ok (.iload 4, 2) := by decide +kernel
theorem dX3_isLike_7 : decode cX3_isLike 7 = .ok (.aload_n 0, 1) := by decide +kernel
theorem dX3_isLike_8 : decode cX3_isLike 8 = .ok (.getfield 7, 3) := by decide +kernel
theorem dX3_isLike_11 : decode cX3_isLike 11 = .ok (.if_icmp .ge 36, 3) := by decide +kernel
theorem dX3_isLike_14 : decode cX3_isLike 14 = .ok (.iload_n 3, 1) := by decide +kernel
theorem dX3_isLike_15 : decode cX3_isLike 15 = .ok (.ifCond .eq 24, 3) := by decide +kernel
theorem dX3_isLike_18 : decode cX3_isLike 18 = .ok (.aload_n 0, 1) := by decide +kernel
theorem dX3_isLike_19 : decode cX3_isLike 19 = .ok (.iload_n 1, 1) := by decide +kernel
theorem dX3_isLike_20 : decode cX3_isLike 20 = .ok (.iload 4, 2) := by decide +kernel
theorem dX3_isLike_22 : decode cX3_isLike 22 = .ok (.invokevirtual 124, 3) := by decide +kernel
theorem dX3_isLike_25 : decode cX3_isLike 25 = .ok (.aload_n 0, 1) := by decide +kernel
theorem dX3_isLike_26 : decode cX3_isLike 26 = .ok (.iload_n 2, 1) := by decide +kernel
theorem dX3_isLike_27 : decode cX3_isLike 27 = .ok (.iload 4, 2) := by decide +kernel
theorem dX3_isLike_29 : decode cX3_isLike 29 = .ok (.invokevirtual 124, 3) := by decide +kernel
theorem dX3_isLike_32 : decode cX3_isLike 32 = .ok (.if_icmp .ne 7, 3) := by decide +kernel
theorem dX3_isLike_35 : decode cX3_isLike 35 = .ok (.iconst 1, 1) := by decide +kernel
theorem dX3_isLike_36 : decode cX3_isLike 36 = .ok (.goto 4, 3) := by decide +kernel
theorem dX3_isLike_39 : decode cX3_isLike 39 = .ok (.iconst 0, 1) := by decide +kernel
theorem dX3_isLike_40 : decode cX3_isLike 40 = .ok (.istore_n 3, 1) := by decide +kernel
theorem dX3_isLike_41 : decode cX3_isLike 41 = .ok (.iinc 4 1, 3) := by decide +kernel
theorem dX3_isLike_44 : decode cX3_isLike 44 = .ok (.goto (-39), 3) := by decide +kernel
theorem dX3_isLike_47 : decode cX3_isLike 47 = .ok (.iload_n 3, 1) := by decide +kernel
theorem dX3_isLike_48 : decode cX3_isLike 48 = .ok (.ireturn, 1) := by decide +kernel
theorem dX3_repeat_0 : decode cX3_repeat 0 = .ok (.aload_n 0, 1) := by decide +kernel
theorem dX3_repeat_1 : decode cX3_repeat 1 = .ok (.iconst 0, 1) := by decide +kernel
theorem dX3_repeat_2 : decode cX3_repeat 2 = .ok (.putfield 85, 3) := by decide +kernel
theorem dX3_repeat_5 : decode cX3_repeat 5 = .ok (.iconst 1, 1) := by decide +kernel
theorem dX3_repeat_6 : decode cX3_repeat 6 = .ok (.istore_n 1, 1) := by decide +kernel
theorem dX3_repeat_7 : decode cX3_repeat 7 = .ok (.iload_n 1, 1) := by decide +kernel
theorem dX3_repeat_8 : decode cX3_repeat 8 = .ok (.aload_n 0, 1) := by decide +kernel
theorem dX3_repeat_9 : decode cX3_repeat 9 = .ok (.getfield 92, 3) := by decide +kernel
theorem dX3_repeat_12 : decode cX3_repeat 12 = .ok (.if_icmp .gt 54, 3) := by decide +kernel
theorem dX3_repeat_15 : decode cX3_repeat 15 = .ok (.iconst 1, 1) := by decide +kernel
theorem dX3_repeat_16 : decode cX3_repeat 16 = .ok (.istore_n 2, 1) := by decide +kernel
theorem dX3_repeat_17 : decode cX3_repeat 17 = .ok (.iload_n 1, 1) := by decide +kernel
theorem dX3_repeat_18 : decode cX3_repeat 18 = .ok (.istore_n 3, 1) := by decide +kernel
theorem dX3_repeat_19 : decode cX3_repeat 19 = .ok (.iload_n 3, 1) := by decide +kernel
theorem dX3_repeat_20 : decode cX3_repeat 20 = .ok (.aload_n 0, 1) := by decide +kernel
theorem dX3_repeat_21 : decode cX3_repeat 21 = .ok (.getfield 92, 3) := by decide +kernel
theorem dX3_repeat_24 : decode cX3_repeat 24 = .ok (.if_icmp .ge 30, 3) := by decide +kernel
theorem dX3_repeat_27 : decode cX3_repeat 27 = .ok (.iload_n 2, 1) := by decide +kernel
theorem dX3_repeat_28 : decode cX3_repeat 28 = .ok (.ifCond .eq 18, 3) := by decide +kernel
theorem dX3_repeat_31 : decode cX3_repeat 31 = .ok (.aload_n 0, 1) := by decide +kernel
theorem dX3_repeat_32 : decode cX3_repeat 32 = .ok (.iload_n 3, 1) := by decide +kernel
theorem dX3_repeat_33 : decode cX3_repeat 33 = .ok (.iload_n 3, 1) := by decide +kernel
theorem dX3_repeat_34 : decode cX3_repeat 34 = .ok (.iload_n 1, 1) := by decide +kernel
theorem dX3_repeat_35 : decode cX3_repeat 35 = .ok (.isub, 1) := by decide +kernel
theorem dX3_repeat_36 : decode cX3_repeat 36 = .ok (.invokevirtual 127, 3) := by decide +kernel
theorem dX3_repeat_39 : decode cX3_repeat 39 = .ok (.ifCond .eq 7, 3) := by decide +kernel
theorem dX3_repeat_42 : decode cX3_repeat 42 = .ok (.iconst 1, 1) := by decide +kernel
theorem dX3_repeat_43 : decode cX3_repeat 43 = .ok (.goto 4, 3) := by decide +kernel
theorem dX3_repeat_46 : decode cX3_repeat 46 = .ok (.iconst 0, 1) := by decide +kernel
theorem dX3_repeat_47 : decode cX3_repeat 47 = .ok (.istore_n 2, 1) := by decide +kernel
theorem dX3_repeat_48 : decode cX3_repeat 48 = .ok (.iinc 3 1, 3) := by decide +kernel
theorem dX3_repeat_51 : decode cX3_repeat 51 = .ok (.goto (-32), 3) := by decide +kernel
theorem dX3_repeat_54 : decode cX3_repeat 54 = .ok (.iload_n 2, 1) := by decide +kernel
theorem dX3_repeat_55 : decode cX3_repeat 55 = .ok (.ifCond .eq 5, 3) := by decide +kernel
theorem dX3_repeat_58 : decode cX3_repeat 58 = .ok (.iload_n 1, 1) := by decide +kernel
theorem dX3_repeat_59 : decode cX3_repeat 59 = .ok (.ireturn, 1) := by decide +kernel
theorem dX3_repeat_60 : decode cX3_repeat 60 = .ok (.iinc 1 1, 3) := by decide +kernel
theorem dX3_repeat_63 : decode cX3_repeat 63 = .ok (.goto (-56), 3) := by decide +kernel
theorem dX3_repeat_66 : decode cX3_repeat 66 = .ok (.iconst 0, 1) := by decide +kernel
theorem dX3_repeat_67 : decode cX3_repeat 67 = .ok (.ireturn, 1) := by decide +kernel
theorem dX3_is_0 : decode cX3_is 0 = .ok (.aload_n 0, 1) := by decide +kernel
theorem dX3_is_1 : decode cX3_is 1 = .ok (.iconst 0, 1) := by decide +kernel
theorem dX3_is_2 : decode cX3_is 2 = .ok (.putfield 85, 3) := by decide +kernel
theorem dX3_is_5 : decode cX3_is 5 = .ok (.iload_n 1, 1) := by decide +kernel
theorem dX3_is_6 : decode cX3_is 6 = .ok (.i2l, 1) := by decide +kernel
theorem dX3_is_7 : decode cX3_is 7 = .ok (.lconst 0, 1) := by decide +kernel
theorem dX3_is_8 : decode cX3_is 8 = .ok (.lconst 1, 1) := by decide +kernel
theorem dX3_is_9 : decode cX3_is 9 = .ok (.invokestatic 88, 3) := by decide +kernel
theorem dX3_is_12 : decode cX3_is 12 = .ok (.ifCond .ne 6, 3) := by decide +kernel
theorem dX3_is_15 : decode cX3_is 15 = .ok (.bipush (-2), 2) := by decide +kernel
theorem dX3_is_17 : decode cX3_is 17 = .ok (.ireturn, 1) := by decide +kernel
theorem dX3_is_18 : decode cX3_is 18 = .ok (.iconst 1, 1) := by decide +kernel
theorem dX3_is_19 : decode cX3_is 19 = .ok (.istore_n 2, 1) := by decide +kernel
theorem dX3_is_20 : decode cX3_is 20 = .ok (.iconst 0, 1) := by decide +kernel
theorem dX3_is_21 : decode cX3_is 21 = .ok (.istore_n 3, 1) := by decide +kernel
theorem dX3_is_22 : decode cX3_is 22 = .ok (.iload_n 3, 1) := by decide +kernel
theorem dX3_is_23 : decode cX3_is 23 = .ok (.aload_n 0, 1) := by decide +kernel
theorem dX3_is_24 : decode cX3_is 24 = .ok (.getfield 92, 3) := by decide +kernel
theorem dX3_is_27 : decode cX3_is 27 = .ok (.if_icmp .ge 75, 3) := by decide +kernel
theorem dX3_is_30 : decode cX3_is 30 = .ok (.iconst 0, 1) := by decide +kernel
theorem dX3_is_31 : decode cX3_is 31 = .ok (.istore 4, 2) := by decide +kernel
theorem dX3_is_33 : decode cX3_is 33 = .ok (.iload 4, 2) := by decide +kernel
theorem dX3_is_35 : decode cX3_is 35 = .ok (.aload_n 0, 1) := by decide +kernel
theorem dX3_is_36 : decode cX3_is 36 = .ok (.getfield 7, 3) := by decide +kernel
theorem dX3_is_39 : decode cX3_is 39 = .ok (.if_icmp .ge 57, 3) := by decide +kernel
theorem dX3_is_42 : decode cX3_is 42 = .ok (.iload_n 2, 1) := by decide +kernel
theorem dX3_is_43 : decode cX3_is 43 = .ok (.ifCond .eq 45, 3) := by decide +kernel
theorem dX3_is_46 : decode cX3_is 46 = .ok (.aload_n 0, 1) := by decide +kernel
theorem dX3_is_47 : decode cX3_is 47 = .ok (.iload_n 3, 1) := by decide +kernel
theorem dX3_is_48 : decode cX3_is 48 = .ok (.iload 4, 2) := by decide +kernel
theorem dX3_is_50 : decode cX3_is 50 = .ok (.invokevirtual 124, 3) := by decide +kernel
theorem dX3_is_53 : decode cX3_is 53 = .ok (.iload_n 1, 1) := by decide +kernel
theorem dX3_is_54 : decode cX3_is 54 = .ok (.ifCond .ne 20, 3) := by decide +kernel
theorem dX3_is_57 : decode cX3_is 57 = .ok (.aload_n 0, 1) := by decide +kernel
theorem dX3_is_58 : decode cX3_is 58 = .ok (.iload_n 3, 1) := by decide +kernel
theorem dX3_is_59 : decode cX3_is 59 = .ok (.aload_n 0, 1) := by decide +kernel
theorem dX3_is_60 : decode cX3_is 60 = .ok (.getfield 7, 3) := by decide +kernel
theorem dX3_is_63 : decode cX3_is 63 = .ok (.iconst 1, 1) := by decide +kernel
theorem dX3_is_64 : decode cX3_is 64 = .ok (.isub, 1) := by decide +kernel
theorem dX3_is_65 : decode cX3_is 65 = .ok (.iload 4, 2) := by decide +kernel
theorem dX3_is_67 : decode cX3_is 67 = .ok (.isub, 1) := by decide +kernel
theorem dX3_is_68 : decode cX3_is 68 = .ok (.invokevirtual 124, 3) := by decide +kernel
theorem dX3_is_71 : decode cX3_is 71 = .ok (.goto 10, 3) := by decide +kernel
theorem dX3_is_74 : decode cX3_is 74 = .ok (.aload_n 0, 1) := by decide +kernel
theorem dX3_is_75 : decode cX3_is 75 = .ok (.iload_n 3, 1) := by decide +kernel
theorem dX3_is_76 : decode cX3_is 76 = .ok (.iload 4, 2) := by decide +kernel
theorem dX3_is_78 : decode cX3_is 78 = .ok (.invokevirtual 120, 3) := by decide +kernel
theorem dX3_is_81 : decode cX3_is 81 = .ok (.if_icmp .ne 7, 3) := by decide +kernel
theorem dX3_is_84 : decode cX3_is 84 = .ok (.iconst 1, 1) := by decide +kernel
theorem dX3_is_85 : decode cX3_is 85 = .ok (.goto 4, 3) := by decide +kernel
theorem dX3_is_88 : decode cX3_is 88 = .ok (.iconst 0, 1) := by decide +kernel
theorem dX3_is_89 : decode cX3_is 89 = .ok (.istore_n 2, 1) := by decide +kernel
theorem dX3_is_90 : decode cX3_is 90 = .ok (.iinc 4 1, 3) := by decide +kernel
theorem dX3_is_93 : decode cX3_is 93 = .ok (.goto (-60), 3) := by decide +kernel
theorem dX3_is_96 : decode cX3_is 96 = .ok (.iinc 3 1, 3) := by decide +kernel
theorem dX3_is_99 : decode cX3_is 99 = .ok (.goto (-77), 3) := by decide +kernel
theorem dX3_is_102 : decode cX3_is 102 = .ok (.iload_n 2, 1) := by decide +kernel
theorem dX3_is_103 : decode cX3_is 103 = .ok (.ifCond .eq 7, 3) := by decide +kernel
theorem dX3_is_106 : decode cX3_is 106 = .ok (.iconst 1, 1) := by decide +kernel
theorem dX3_is_107 : decode cX3_is 107 = .ok (.goto 4, 3) := by decide +kernel
theorem dX3_is_110 : decode cX3_is 110 = .ok (.iconst 0, 1) := by decide +kernel
theorem dX3_is_111 : decode cX3_is 111 = .ok (.ireturn, 1) := by decide +kernel
theorem dX3_rows_0 : decode cX3_rows 0 = .ok (.aload_n 0, 1) := by decide +kernel
theorem dX3_rows_1 : decode cX3_rows 1 = .ok (.iconst 0, 1) := by decide +kernel
theorem dX3_rows_2 : decode cX3_rows 2 = .ok (.putfield 85, 3) := by decide +kernel
theorem dX3_rows_5 : decode cX3_rows 5 = .ok (.iconst 0, 1) := by decide +kernel
theorem dX3_rows_6 : decode cX3_rows 6 = .ok (.istore_n 1, 1) := by decide +kernel
theorem dX3_rows_7 : decode cX3_rows 7 = .ok (.iconst 0, 1) := by decide +kernel
end
section
theorem dX3_rows_8 : decode cX3_rows 8 = .ok (.istore_n 2, 1) := by decide +kernel
theorem dX3_rows_9 : decode cX3_rows 9 = .ok (.iload_n 2, 1) := by decide +kernel
theorem dX3_rows_10 : decode cX3_rows 10 = .ok (.aload_n 0, 1) := by decide +kernel
theorem dX3_rows_11 : decode cX3_rows 11 = .ok (.getfield 92, 3) := by decide +kernel
theorem dX3_rows_14 : decode cX3_rows 14 = .ok (.if_icmp .ge 58, 3) := by decide +kernel
theorem dX3_rows_17 : decode cX3_rows 17 = .ok (.iconst 1, 1) := by decide +kernel
theorem dX3_rows_18 : decode cX3_rows 18 = .ok (.istore_n 3, 1) := by decide +kernel
theorem dX3_rows_19 : decode cX3_rows 19 = .ok (.iconst 0, 1) := by decide +kernel
theorem dX3_rows_20 : decode cX3_rows 20 = .ok (.istore 4, 2) := by decide +kernel
theorem dX3_rows_22 : decode cX3_rows 22 = .ok (.iload 4, 2) := by decide +kernel
theorem dX3_rows_24 : decode cX3_rows 24 = .ok (.iload_n 2, 1) := by decide +kernel
theorem dX3_rows_25 : decode cX3_rows 25 = .ok (.if_icmp .ge 29, 3) := by decide +kernel
theorem dX3_rows_28 : decode cX3_rows 28 = .ok (.iload_n 3, 1) := by decide +kernel
theorem dX3_rows_29 : decode cX3_rows 29 = .ok (.ifCond .eq 17, 3) := by decide +kernel
theorem dX3_rows_32 : decode cX3_rows 32 = .ok (.aload_n 0, 1) := by decide +kernel
theorem dX3_rows_33 : decode cX3_rows 33 = .ok (.iload_n 2, 1) := by decide +kernel
theorem dX3_rows_34 : decode cX3_rows 34 = .ok (.iload 4, 2) := by decide +kernel
theorem dX3_rows_36 : decode cX3_rows 36 = .ok (.invokevirtual 127, 3) := by decide +kernel
theorem dX3_rows_39 : decode cX3_rows 39 = .ok (.ifCond .ne 7, 3) := by decide +kernel
theorem dX3_rows_42 : decode cX3_rows 42 = .ok (.iconst 1, 1) := by decide +kernel
theorem dX3_rows_43 : decode cX3_rows 43 = .ok (.goto 4, 3) := by decide +kernel
theorem dX3_rows_46 : decode cX3_rows 46 = .ok (.iconst 0, 1) := by decide +kernel
theorem dX3_rows_47 : decode cX3_rows 47 = .ok (.istore_n 3, 1) := by decide +kernel
theorem dX3_rows_48 : decode cX3_rows 48 = .ok (.iinc 4 1, 3) := by decide +kernel
theorem dX3_rows_51 : decode cX3_rows 51 = .ok (.goto (-29), 3) := by decide +kernel
theorem dX3_rows_54 : decode cX3_rows 54 = .ok (.iload_n 1, 1) := by decide +kernel
theorem dX3_rows_55 : decode cX3_rows 55 = .ok (.iload_n 3, 1) := by decide +kernel
theorem dX3_rows_56 : decode cX3_rows 56 = .ok (.ifCond .eq 7, 3) := by decide +kernel
theorem dX3_rows_59 : decode cX3_rows 59 = .ok (.iconst 1, 1) := by decide +kernel
theorem dX3_rows_60 : decode cX3_rows 60 = .ok (.goto 4, 3) := by decide +kernel
theorem dX3_rows_63 : decode cX3_rows 63 = .ok (.iconst 0, 1) := by decide +kernel
theorem dX3_rows_64 : decode cX3_rows 64 = .ok (.iadd, 1) := by decide +kernel
theorem dX3_rows_65 : decode cX3_rows 65 = .ok (.istore_n 1, 1) := by decide +kernel
theorem dX3_rows_66 : decode cX3_rows 66 = .ok (.iinc 2 1, 3) := by decide +kernel
theorem dX3_rows_69 : decode cX3_rows 69 = .ok (.goto (-60), 3) := by decide +kernel
theorem dX3_rows_72 : decode cX3_rows 72 = .ok (.iload_n 1, 1) := by decide +kernel
theorem dX3_rows_73 : decode cX3_rows 73 = .ok (.ireturn, 1) := by decide +kernel
theorem dX3_worst_0 : decode cX3_worst 0 = .ok (.aload_n 0, 1) := by decide +kernel
theorem dX3_worst_1 : decode cX3_worst 1 = .ok (.iconst 0, 1) := by decide +kernel
theorem dX3_worst_2 : decode cX3_worst 2 = .ok (.putfield 85, 3) := by decide +kernel
theorem dX3_worst_5 : decode cX3_worst 5 = .ok (.iconst 0, 1) := by decide +kernel
theorem dX3_worst_6 : decode cX3_worst 6 = .ok (.istore_n 2, 1) := by decide +kernel
theorem dX3_worst_7 : decode cX3_worst 7 = .ok (.iconst 1, 1) := by decide +kernel
theorem dX3_worst_8 : decode cX3_worst 8 = .ok (.istore_n 3, 1) := by decide +kernel
theorem dX3_worst_9 : decode cX3_worst 9 = .ok (.iload_n 3, 1) := by decide +kernel
theorem dX3_worst_10 : decode cX3_worst 10 = .ok (.aload_n 0, 1) := by decide +kernel
theorem dX3_worst_11 : decode cX3_worst 11 = .ok (.getfield 7, 3) := by decide +kernel
theorem dX3_worst_14 : decode cX3_worst 14 = .ok (.if_icmp .ge 36, 3) := by decide +kernel
theorem dX3_worst_17 : decode cX3_worst 17 = .ok (.aload_n 0, 1) := by decide +kernel
theorem dX3_worst_18 : decode cX3_worst 18 = .ok (.getfield 26, 3) := by decide +kernel
theorem dX3_worst_21 : decode cX3_worst 21 = .ok (.iload_n 3, 1) := by decide +kernel
theorem dX3_worst_22 : decode cX3_worst 22 = .ok (.iaload, 1) := by decide +kernel
theorem dX3_worst_23 : decode cX3_worst 23 = .ok (.invokestatic 131, 3) := by decide +kernel
theorem dX3_worst_26 : decode cX3_worst 26 = .ok (.aload_n 0, 1) := by decide +kernel
theorem dX3_worst_27 : decode cX3_worst 27 = .ok (.getfield 26, 3) := by decide +kernel
theorem dX3_worst_30 : decode cX3_worst 30 = .ok (.iload_n 2, 1) := by decide +kernel
theorem dX3_worst_31 : decode cX3_worst 31 = .ok (.iaload, 1) := by decide +kernel
theorem dX3_worst_32 : decode cX3_worst 32 = .ok (.invokestatic 131, 3) := by decide +kernel
theorem dX3_worst_35 : decode cX3_worst 35 = .ok (.if_icmp .le 7, 3) := by decide +kernel
theorem dX3_worst_38 : decode cX3_worst 38 = .ok (.iload_n 3, 1) := by decide +kernel
theorem dX3_worst_39 : decode cX3_worst 39 = .ok (.goto 4, 3) := by decide +kernel
theorem dX3_worst_42 : decode cX3_worst 42 = .ok (.iload_n 2, 1) := by decide +kernel
theorem dX3_worst_43 : decode cX3_worst 43 = .ok (.istore_n 2, 1) := by decide +kernel
theorem dX3_worst_44 : decode cX3_worst 44 = .ok (.iinc 3 1, 3) := by decide +kernel
theorem dX3_worst_47 : decode cX3_worst 47 = .ok (.goto (-38), 3) := by decide +kernel
theorem dX3_worst_50 : decode cX3_worst 50 = .ok (.iload_n 1, 1) := by decide +kernel
theorem dX3_worst_51 : decode cX3_worst 51 = .ok (.ifCond .eq 7, 3) := by decide +kernel
theorem dX3_worst_54 : decode cX3_worst 54 = .ok (.iload_n 2, 1) := by decide +kernel
theorem dX3_worst_55 : decode cX3_worst 55 = .ok (.goto 12, 3) := by decide +kernel
theorem dX3_worst_58 : decode cX3_worst 58 = .ok (.aload_n 0, 1) := by decide +kernel
theorem dX3_worst_59 : decode cX3_worst 59 = .ok (.getfield 26, 3) := by decide +kernel
theorem dX3_worst_62 : decode cX3_worst 62 = .ok (.iload_n 2, 1) := by decide +kernel
theorem dX3_worst_63 : decode cX3_worst 63 = .ok (.iaload, 1) := by decide +kernel
theorem dX3_worst_64 : decode cX3_worst 64 = .ok (.invokestatic 131, 3) := by decide +kernel
theorem dX3_worst_67 : decode cX3_worst 67 = .ok (.ireturn, 1) := by decide +kernel
theorem dX3_goes_0 : decode cX3_goes 0 = .ok (.iconst 1, 1) := by decide +kernel
theorem dX3_goes_1 : decode cX3_goes 1 = .ok (.istore 4, 2) := by decide +kernel
theorem dX3_goes_3 : decode cX3_goes 3 = .ok (.iconst 0, 1) := by decide +kernel
theorem dX3_goes_4 : decode cX3_goes 4 = .ok (.istore 5, 2) := by decide +kernel
theorem dX3_goes_6 : decode cX3_goes 6 = .ok (.iload 5, 2) := by decide +kernel
theorem dX3_goes_8 : decode cX3_goes 8 = .ok (.aload_n 0, 1) := by decide +kernel
theorem dX3_goes_9 : decode cX3_goes 9 = .ok (.getfield 7, 3) := by decide +kernel
theorem dX3_goes_12 : decode cX3_goes 12 = .ok (.if_icmp .ge 63, 3) := by decide +kernel
theorem dX3_goes_15 : decode cX3_goes 15 = .ok (.iload 4, 2) := by decide +kernel
theorem dX3_goes_17 : decode cX3_goes 17 = .ok (.ifCond .eq 49, 3) := by decide +kernel
theorem dX3_goes_20 : decode cX3_goes 20 = .ok (.aload_n 0, 1) := by decide +kernel
theorem dX3_goes_21 : decode cX3_goes 21 = .ok (.getfield 23, 3) := by decide +kernel
theorem dX3_goes_24 : decode cX3_goes 24 = .ok (.iload 5, 2) := by decide +kernel
theorem dX3_goes_26 : decode cX3_goes 26 = .ok (.iaload, 1) := by decide +kernel
theorem dX3_goes_27 : decode cX3_goes 27 = .ok (.iload_n 1, 1) := by decide +kernel
theorem dX3_goes_28 : decode cX3_goes 28 = .ok (.if_icmp .ne 34, 3) := by decide +kernel
theorem dX3_goes_31 : decode cX3_goes 31 = .ok (.aload_n 0, 1) := by decide +kernel
theorem dX3_goes_32 : decode cX3_goes 32 = .ok (.getfield 26, 3) := by decide +kernel
theorem dX3_goes_35 : decode cX3_goes 35 = .ok (.iload 5, 2) := by decide +kernel
theorem dX3_goes_37 : decode cX3_goes 37 = .ok (.iaload, 1) := by decide +kernel
theorem dX3_goes_38 : decode cX3_goes 38 = .ok (.aload_n 0, 1) := by decide +kernel
theorem dX3_goes_39 : decode cX3_goes 39 = .ok (.getfield 20, 3) := by decide +kernel
theorem dX3_goes_42 : decode cX3_goes 42 = .ok (.iload 5, 2) := by decide +kernel
theorem dX3_goes_44 : decode cX3_goes 44 = .ok (.iaload, 1) := by decide +kernel
theorem dX3_goes_45 : decode cX3_goes 45 = .ok (.ifCond .ne 7, 3) := by decide +kernel
theorem dX3_goes_48 : decode cX3_goes 48 = .ok (.iload_n 3, 1) := by decide +kernel
theorem dX3_goes_49 : decode cX3_goes 49 = .ok (.goto 5, 3) := by decide +kernel
theorem dX3_goes_52 : decode cX3_goes 52 = .ok (.iload_n 3, 1) := by decide +kernel
theorem dX3_goes_53 : decode cX3_goes 53 = .ok (.ineg, 1) := by decide +kernel
theorem dX3_goes_54 : decode cX3_goes 54 = .ok (.iadd, 1) := by decide +kernel
theorem dX3_goes_55 : decode cX3_goes 55 = .ok (.invokestatic 131, 3) := by decide +kernel
theorem dX3_goes_58 : decode cX3_goes 58 = .ok (.iload_n 2, 1) := by decide +kernel
theorem dX3_goes_59 : decode cX3_goes 59 = .ok (.if_icmp .gt 7, 3) := by decide +kernel
theorem dX3_goes_62 : decode cX3_goes 62 = .ok (.iconst 1, 1) := by decide +kernel
theorem dX3_goes_63 : decode cX3_goes 63 = .ok (.goto 4, 3) := by decide +kernel
theorem dX3_goes_66 : decode cX3_goes 66 = .ok (.iconst 0, 1) := by decide +kernel
theorem dX3_goes_67 : decode cX3_goes 67 = .ok (.istore 4, 2) := by decide +kernel
theorem dX3_goes_69 : decode cX3_goes 69 = .ok (.iinc 5 1, 3) := by decide +kernel
theorem dX3_goes_72 : decode cX3_goes 72 = .ok (.goto (-66), 3) := by decide +kernel
theorem dX3_goes_75 : decode cX3_goes 75 = .ok (.iload 4, 2) := by decide +kernel
theorem dX3_goes_77 : decode cX3_goes 77 = .ok (.ireturn, 1) := by decide +kernel
theorem dX3_goingOf_0 : decode cX3_goingOf 0 = .ok (.iconst 0, 1) := by decide +kernel
theorem dX3_goingOf_1 : decode cX3_goingOf 1 = .ok (.istore_n 3, 1) := by decide +kernel
theorem dX3_goingOf_2 : decode cX3_goingOf 2 = .ok (.iload_n 3, 1) := by decide +kernel
theorem dX3_goingOf_3 : decode cX3_goingOf 3 = .ok (.bipush 60, 2) := by decide +kernel
theorem dX3_goingOf_5 : decode cX3_goingOf 5 = .ok (.if_icmp .gt 35, 3) := by decide +kernel
theorem dX3_goingOf_8 : decode cX3_goingOf 8 = .ok (.aload_n 0, 1) := by decide +kernel
theorem dX3_goingOf_9 : decode cX3_goingOf 9 = .ok (.iload_n 1, 1) := by decide +kernel
theorem dX3_goingOf_10 : decode cX3_goingOf 10 = .ok (.iload_n 2, 1) := by decide +kernel
theorem dX3_goingOf_11 : decode cX3_goingOf 11 = .ok (.iload_n 3, 1) := by decide +kernel
theorem dX3_goingOf_12 : decode cX3_goingOf 12 = .ok (.invokevirtual 135, 3) := by decide +kernel
theorem dX3_goingOf_15 : decode cX3_goingOf 15 = .ok (.ifCond .eq 5, 3) := by decide +kernel
theorem dX3_goingOf_18 : decode cX3_goingOf 18 = .ok (.iload_n 3, 1) := by decide +kernel
theorem dX3_goingOf_19 : decode cX3_goingOf 19 = .ok (.ireturn, 1) := by decide +kernel
theorem dX3_goingOf_20 : decode cX3_goingOf 20 = .ok (.aload_n 0, 1) := by decide +kernel
theorem dX3_goingOf_21 : decode cX3_goingOf 21 = .ok (.iload_n 1, 1) := by decide +kernel
theorem dX3_goingOf_22 : decode cX3_goingOf 22 = .ok (.iload_n 2, 1) := by decide +kernel
theorem dX3_goingOf_23 : decode cX3_goingOf 23 = .ok (.iload_n 3, 1) := by decide +kernel
theorem dX3_goingOf_24 : decode cX3_goingOf 24 = .ok (.ineg, 1) := by decide +kernel
theorem dX3_goingOf_25 : decode cX3_goingOf 25 = .ok (.invokevirtual 135, 3) := by decide +kernel
theorem dX3_goingOf_28 : decode cX3_goingOf 28 = .ok (.ifCond .eq 6, 3) := by decide +kernel
theorem dX3_goingOf_31 : decode cX3_goingOf 31 = .ok (.iload_n 3, 1) := by decide +kernel
theorem dX3_goingOf_32 : decode cX3_goingOf 32 = .ok (.ineg, 1) := by decide +kernel
theorem dX3_goingOf_33 : decode cX3_goingOf 33 = .ok (.ireturn, 1) := by decide +kernel
theorem dX3_goingOf_34 : decode cX3_goingOf 34 = .ok (.iinc 3 1, 3) := by decide +kernel
theorem dX3_goingOf_37 : decode cX3_goingOf 37 = .ok (.goto (-35), 3) := by decide +kernel
theorem dX3_goingOf_40 : decode cX3_goingOf 40 = .ok (.bipush (-99), 2) := by decide +kernel
theorem dX3_goingOf_42 : decode cX3_goingOf 42 = .ok (.ireturn, 1) := by decide +kernel
theorem dX3_going_0 : decode cX3_going 0 = .ok (.aload_n 0, 1) := by decide +kernel
theorem dX3_going_1 : decode cX3_going 1 = .ok (.iconst 0, 1) := by decide +kernel
theorem dX3_going_2 : decode cX3_going 2 = .ok (.putfield 85, 3) := by decide +kernel
theorem dX3_going_5 : decode cX3_going 5 = .ok (.iload_n 1, 1) := by decide +kernel
theorem dX3_going_6 : decode cX3_going 6 = .ok (.i2l, 1) := by decide +kernel
theorem dX3_going_7 : decode cX3_going 7 = .ok (.lconst 0, 1) := by decide +kernel
theorem dX3_going_8 : decode cX3_going 8 = .ok (.ldc2_w 101, 3) := by decide +kernel
theorem dX3_going_11 : decode cX3_going 11 = .ok (.invokestatic 88, 3) := by decide +kernel
theorem dX3_going_14 : decode cX3_going 14 = .ok (.ifCond .ne 5, 3) := by decide +kernel
theorem dX3_going_17 : decode cX3_going 17 = .ok (.iconst (-1), 1) := by decide +kernel
theorem dX3_going_18 : decode cX3_going 18 = .ok (.ireturn, 1) := by decide +kernel
theorem dX3_going_19 : decode cX3_going 19 = .ok (.iload_n 2, 1) := by decide +kernel
theorem dX3_going_20 : decode cX3_going 20 = .ok (.i2l, 1) := by decide +kernel
theorem dX3_going_21 : decode cX3_going 21 = .ok (.lconst 0, 1) := by decide +kernel
theorem dX3_going_22 : decode cX3_going 22 = .ok (.ldc2_w 139, 3) := by decide +kernel
theorem dX3_going_25 : decode cX3_going 25 = .ok (.invokestatic 88, 3) := by decide +kernel
theorem dX3_going_28 : decode cX3_going 28 = .ok (.ifCond .eq 12, 3) := by decide +kernel
theorem dX3_going_31 : decode cX3_going 31 = .ok (.aload_n 0, 1) := by decide +kernel
theorem dX3_going_32 : decode cX3_going 32 = .ok (.iload_n 1, 1) := by decide +kernel
theorem dX3_going_33 : decode cX3_going 33 = .ok (.iload_n 2, 1) := by decide +kernel
theorem dX3_going_34 : decode cX3_going 34 = .ok (.invokevirtual 141, 3) := by decide +kernel
theorem dX3_going_37 : decode cX3_going 37 = .ok (.goto 5, 3) := by decide +kernel
theorem dX3_going_40 : decode cX3_going 40 = .ok (.bipush (-2), 2) := by decide +kernel
theorem dX3_going_42 : decode cX3_going 42 = .ok (.ireturn, 1) := by decide +kernel
theorem dX3_evens_0 : decode cX3_evens 0 = .ok (.aload_n 0, 1) := by decide +kernel
theorem dX3_evens_1 : decode cX3_evens 1 = .ok (.iconst 0, 1) := by decide +kernel
theorem dX3_evens_2 : decode cX3_evens 2 = .ok (.putfield 85, 3) := by decide +kernel
theorem dX3_evens_5 : decode cX3_evens 5 = .ok (.iload_n 1, 1) := by decide +kernel
theorem dX3_evens_6 : decode cX3_evens 6 = .ok (.i2l, 1) := by decide +kernel
theorem dX3_evens_7 : decode cX3_evens 7 = .ok (.lconst 0, 1) := by decide +kernel
theorem dX3_evens_8 : decode cX3_evens 8 = .ok (.ldc2_w 139, 3) := by decide +kernel
theorem dX3_evens_11 : decode cX3_evens 11 = .ok (.invokestatic 88, 3) := by decide +kernel
theorem dX3_evens_14 : decode cX3_evens 14 = .ok (.ifCond .ne 6, 3) := by decide +kernel
theorem dX3_evens_17 : decode cX3_evens 17 = .ok (.bipush (-2), 2) := by decide +kernel
theorem dX3_evens_19 : decode cX3_evens 19 = .ok (.ireturn, 1) := by decide +kernel
theorem dX3_evens_20 : decode cX3_evens 20 = .ok (.iconst 0, 1) := by decide +kernel
theorem dX3_evens_21 : decode cX3_evens 21 = .ok (.istore_n 2, 1) := by decide +kernel
theorem dX3_evens_22 : decode cX3_evens 22 = .ok (.iconst 0, 1) := by decide +kernel
theorem dX3_evens_23 : decode cX3_evens 23 = .ok (.istore_n 3, 1) := by decide +kernel
theorem dX3_evens_24 : decode cX3_evens 24 = .ok (.iload_n 3, 1) := by decide +kernel
theorem dX3_evens_25 : decode cX3_evens 25 = .ok (.iconst 4, 1) := by decide +kernel
theorem dX3_evens_26 : decode cX3_evens 26 = .ok (.if_icmp .ge 46, 3) := by decide +kernel
theorem dX3_evens_29 : decode cX3_evens 29 = .ok (.aload_n 0, 1) := by decide +kernel
theorem dX3_evens_30 : decode cX3_evens 30 = .ok (.iload_n 3, 1) := by decide +kernel
theorem dX3_evens_31 : decode cX3_evens 31 = .ok (.iload_n 1, 1) := by decide +kernel
theorem dX3_evens_32 : decode cX3_evens 32 = .ok (.invokevirtual 141, 3) := by decide +kernel
theorem dX3_evens_35 : decode cX3_evens 35 = .ok (.istore 4, 2) := by decide +kernel
theorem dX3_evens_37 : decode cX3_evens 37 = .ok (.iload 4, 2) := by decide +kernel
theorem dX3_evens_39 : decode cX3_evens 39 = .ok (.bipush (-99), 2) := by decide +kernel
theorem dX3_evens_41 : decode cX3_evens 41 = .ok (.if_icmp .ne 6, 3) := by decide +kernel
theorem dX3_evens_44 : decode cX3_evens 44 = .ok (.bipush (-99), 2) := by decide +kernel
theorem dX3_evens_46 : decode cX3_evens 46 = .ok (.ireturn, 1) := by decide +kernel
theorem dX3_evens_47 : decode cX3_evens 47 = .ok (.iload 4, 2) := by decide +kernel
theorem dX3_evens_49 : decode cX3_evens 49 = .ok (.invokestatic 131, 3) := by decide +kernel
theorem dX3_evens_52 : decode cX3_evens 52 = .ok (.iload_n 2, 1) := by decide +kernel
theorem dX3_evens_53 : decode cX3_evens 53 = .ok (.if_icmp .le 11, 3) := by decide +kernel
theorem dX3_evens_56 : decode cX3_evens 56 = .ok (.iload 4, 2) := by decide +kernel
theorem dX3_evens_58 : decode cX3_evens 58 = .ok (.invokestatic 131, 3) := by decide +kernel
theorem dX3_evens_61 : decode cX3_evens 61 = .ok (.goto 4, 3) := by decide +kernel
theorem dX3_evens_64 : decode cX3_evens 64 = .ok (.iload_n 2, 1) := by decide +kernel
theorem dX3_evens_65 : decode cX3_evens 65 = .ok (.istore_n 2, 1) := by decide +kernel
theorem dX3_evens_66 : decode cX3_evens 66 = .ok (.iinc 3 1, 3) := by decide +kernel
theorem dX3_evens_69 : decode cX3_evens 69 = .ok (.goto (-45), 3) := by decide +kernel
theorem dX3_evens_72 : decode cX3_evens 72 = .ok (.iload_n 2, 1) := by decide +kernel
theorem dX3_evens_73 : decode cX3_evens 73 = .ok (.ireturn, 1) := by decide +kernel
theorem dX3_paint_0 : decode cX3_paint 0 = .ok (.aload_n 0, 1) := by decide +kernel
theorem dX3_paint_1 : decode cX3_paint 1 = .ok (.iconst 0, 1) := by decide +kernel
theorem dX3_paint_2 : decode cX3_paint 2 = .ok (.putfield 85, 3) := by decide +kernel
theorem dX3_paint_5 : decode cX3_paint 5 = .ok (.aload_n 0, 1) := by decide +kernel
theorem dX3_paint_6 : decode cX3_paint 6 = .ok (.iload_n 2, 1) := by decide +kernel
theorem dX3_paint_7 : decode cX3_paint 7 = .ok (.invokevirtual 97, 3) := by decide +kernel
theorem dX3_paint_10 : decode cX3_paint 10 = .ok (.ifCond .eq 5, 3) := by decide +kernel
theorem dX3_paint_13 : decode cX3_paint 13 = .ok (.iconst (-1), 1) := by decide +kernel
theorem dX3_paint_14 : decode cX3_paint 14 = .ok (.ireturn, 1) := by decide +kernel
theorem dX3_paint_15 : decode cX3_paint 15 = .ok (.iload_n 1, 1) := by decide +kernel
theorem dX3_paint_16 : decode cX3_paint 16 = .ok (.i2l, 1) := by decide +kernel
theorem dX3_paint_17 : decode cX3_paint 17 = .ok (.lconst 0, 1) := by decide +kernel
theorem dX3_paint_18 : decode cX3_paint 18 = .ok (.ldc2_w 144, 3) := by decide +kernel
theorem dX3_paint_21 : decode cX3_paint 21 = .ok (.invokestatic 88, 3) := by decide +kernel
theorem dX3_paint_24 : decode cX3_paint 24 = .ok (.ifCond .eq 21, 3) := by decide +kernel
theorem dX3_paint_27 : decode cX3_paint 27 = .ok (.iload_n 3, 1) := by decide +kernel
theorem dX3_paint_28 : decode cX3_paint 28 = .ok (.bipush (-99), 2) := by decide +kernel
theorem dX3_paint_30 : decode cX3_paint 30 = .ok (.if_icmp .eq 18, 3) := by decide +kernel
theorem dX3_paint_33 : decode cX3_paint 33 = .ok (.iload_n 3, 1) := by decide +kernel
theorem dX3_paint_34 : decode cX3_paint 34 = .ok (.i2l, 1) := by decide +kernel
theorem dX3_paint_35 : decode cX3_paint 35 = .ok (.lconst 0, 1) := by decide +kernel
theorem dX3_paint_36 : decode cX3_paint 36 = .ok (.ldc2_w 103, 3) := by decide +kernel
theorem dX3_paint_39 : decode cX3_paint 39 = .ok (.invokestatic 88, 3) := by decide +kernel
theorem dX3_paint_42 : decode cX3_paint 42 = .ok (.ifCond .ne 6, 3) := by decide +kernel
theorem dX3_paint_45 : decode cX3_paint 45 = .ok (.bipush (-2), 2) := by decide +kernel
theorem dX3_paint_47 : decode cX3_paint 47 = .ok (.ireturn, 1) := by decide +kernel
theorem dX3_paint_48 : decode cX3_paint 48 = .ok (.aload_n 0, 1) := by decide +kernel
theorem dX3_paint_49 : decode cX3_paint 49 = .ok (.getfield 62, 3) := by decide +kernel
theorem dX3_paint_52 : decode cX3_paint 52 = .ok (.bipush 16, 2) := by decide +kernel
theorem dX3_paint_54 : decode cX3_paint 54 = .ok (.iload_n 1, 1) := by decide +kernel
theorem dX3_paint_55 : decode cX3_paint 55 = .ok (.imul, 1) := by decide +kernel
theorem dX3_paint_56 : decode cX3_paint 56 = .ok (.iload_n 2, 1) := by decide +kernel
theorem dX3_paint_57 : decode cX3_paint 57 = .ok (.iadd, 1) := by decide +kernel
theorem dX3_paint_58 : decode cX3_paint 58 = .ok (.iaload, 1) := by decide +kernel
theorem dX3_paint_59 : decode cX3_paint 59 = .ok (.istore 4, 2) := by decide +kernel
theorem dX3_paint_61 : decode cX3_paint 61 = .ok (.aload_n 0, 1) := by decide +kernel
theorem dX3_paint_62 : decode cX3_paint 62 = .ok (.getfield 62, 3) := by decide +kernel
theorem dX3_paint_65 : decode cX3_paint 65 = .ok (.bipush 16, 2) := by decide +kernel
theorem dX3_paint_67 : decode cX3_paint 67 = .ok (.iload_n 1, 1) := by decide +kernel
theorem dX3_paint_68 : decode cX3_paint 68 = .ok (.imul, 1) := by decide +kernel
theorem dX3_paint_69 : decode cX3_paint 69 = .ok (.iload_n 2, 1) := by decide +kernel
theorem dX3_paint_70 : decode cX3_paint 70 = .ok (.iadd, 1) := by decide +kernel
theorem dX3_paint_71 : decode cX3_paint 71 = .ok (.iload_n 3, 1) := by decide +kernel
theorem dX3_paint_72 : decode cX3_paint 72 = .ok (.iastore, 1) := by decide +kernel
theorem dX3_paint_73 : decode cX3_paint 73 = .ok (.iload 4, 2) := by decide +kernel
theorem dX3_paint_75 : decode cX3_paint 75 = .ok (.ireturn, 1) := by decide +kernel
theorem dX3_rule_0 : decode cX3_rule 0 = .ok (.aload_n 0, 1) := by decide +kernel
theorem dX3_rule_1 : decode cX3_rule 1 = .ok (.iconst 0, 1) := by decide +kernel
theorem dX3_rule_2 : decode cX3_rule 2 = .ok (.putfield 85, 3) := by decide +kernel
theorem dX3_rule_5 : decode cX3_rule 5 = .ok (.iload_n 1, 1) := by decide +kernel
theorem dX3_rule_6 : decode cX3_rule 6 = .ok (.i2l, 1) := by decide +kernel
theorem dX3_rule_7 : decode cX3_rule 7 = .ok (.lconst 0, 1) := by decide +kernel
theorem dX3_rule_8 : decode cX3_rule 8 = .ok (.lconst 1, 1) := by decide +kernel
theorem dX3_rule_9 : decode cX3_rule 9 = .ok (.invokestatic 88, 3) := by decide +kernel
theorem dX3_rule_12 : decode cX3_rule 12 = .ok (.ifCond .eq 33, 3) := by decide +kernel
theorem dX3_rule_15 : decode cX3_rule 15 = .ok (.iload_n 2, 1) := by decide +kernel
theorem dX3_rule_16 : decode cX3_rule 16 = .ok (.i2l, 1) := by decide +kernel
theorem dX3_rule_17 : decode cX3_rule 17 = .ok (.iload_n 1, 1) := by decide +kernel
theorem dX3_rule_18 : decode cX3_rule 18 = .ok (.ifCond .ne 7, 3) := by decide +kernel
theorem dX3_rule_21 : decode cX3_rule 21 = .ok (.lconst 1, 1) := by decide +kernel
theorem dX3_rule_22 : decode cX3_rule 22 = .ok (.goto 4, 3) := by decide +kernel
theorem dX3_rule_25 : decode cX3_rule 25 = .ok (.lconst 0, 1) := by decide +kernel
theorem dX3_rule_26 : decode cX3_rule 26 = .ok (.iload_n 1, 1) := by decide +kernel
theorem dX3_rule_27 : decode cX3_rule 27 = .ok (.ifCond .ne 9, 3) := by decide +kernel
theorem dX3_rule_30 : decode cX3_rule 30 = .ok (.ldc2_w 146, 3) := by decide +kernel
theorem dX3_rule_33 : decode cX3_rule 33 = .ok (.goto 6, 3) := by decide +kernel
theorem dX3_rule_36 : decode cX3_rule 36 = .ok (.ldc2_w 148, 3) := by decide +kernel
theorem dX3_rule_39 : decode cX3_rule 39 = .ok (.invokestatic 88, 3) := by decide +kernel
theorem dX3_rule_42 : decode cX3_rule 42 = .ok (.ifCond .ne 6, 3) := by decide +kernel
theorem dX3_rule_45 : decode cX3_rule 45 = .ok (.bipush (-2), 2) := by decide +kernel
theorem dX3_rule_47 : decode cX3_rule 47 = .ok (.ireturn, 1) := by decide +kernel
theorem dX3_rule_48 : decode cX3_rule 48 = .ok (.iload_n 1, 1) := by decide +kernel
theorem dX3_rule_49 : decode cX3_rule 49 = .ok (.ifCond .ne 10, 3) := by decide +kernel
theorem dX3_rule_52 : decode cX3_rule 52 = .ok (.aload_n 0, 1) := by decide +kernel
theorem dX3_rule_53 : decode cX3_rule 53 = .ok (.getfield 65, 3) := by decide +kernel
theorem dX3_rule_56 : decode cX3_rule 56 = .ok (.goto 7, 3) := by decide +kernel
theorem dX3_rule_59 : decode cX3_rule 59 = .ok (.aload_n 0, 1) := by decide +kernel
theorem dX3_rule_60 : decode cX3_rule 60 = .ok (.getfield 68, 3) := by decide +kernel
theorem dX3_rule_63 : decode cX3_rule 63 = .ok (.istore_n 3, 1) := by decide +kernel
theorem dX3_rule_64 : decode cX3_rule 64 = .ok (.iload_n 1, 1) := by decide +kernel
theorem dX3_rule_65 : decode cX3_rule 65 = .ok (.ifCond .ne 11, 3) := by decide +kernel
theorem dX3_rule_68 : decode cX3_rule 68 = .ok (.aload_n 0, 1) := by decide +kernel
theorem dX3_rule_69 : decode cX3_rule 69 = .ok (.iload_n 2, 1) := by decide +kernel
theorem dX3_rule_70 : decode cX3_rule 70 = .ok (.putfield 65, 3) := by decide +kernel
theorem dX3_rule_73 : decode cX3_rule 73 = .ok (.goto 8, 3) := by decide +kernel
theorem dX3_rule_76 : decode cX3_rule 76 = .ok (.aload_n 0, 1) := by decide +kernel
theorem dX3_rule_77 : decode cX3_rule 77 = .ok (.iload_n 2, 1) := by decide +kernel
theorem dX3_rule_78 : decode cX3_rule 78 = .ok (.putfield 68, 3) := by decide +kernel
theorem dX3_rule_81 : decode cX3_rule 81 = .ok (.iload_n 3, 1) := by decide +kernel
theorem dX3_rule_82 : decode cX3_rule 82 = .ok (.ireturn, 1) := by decide +kernel
theorem dX3_fits_0 : decode cX3_fits 0 = .ok (.aload_n 0, 1) := by decide +kernel
theorem dX3_fits_1 : decode cX3_fits 1 = .ok (.getfield 62, 3) := by decide +kernel
theorem dX3_fits_4 : decode cX3_fits 4 = .ok (.bipush 16, 2) := by decide +kernel
theorem dX3_fits_6 : decode cX3_fits 6 = .ok (.iload_n 1, 1) := by decide +kernel
theorem dX3_fits_7 : decode cX3_fits 7 = .ok (.imul, 1) := by decide +kernel
theorem dX3_fits_8 : decode cX3_fits 8 = .ok (.iload_n 2, 1) := by decide +kernel
theorem dX3_fits_9 : decode cX3_fits 9 = .ok (.iadd, 1) := by decide +kernel
theorem dX3_fits_10 : decode cX3_fits 10 = .ok (.iaload, 1) := by decide +kernel
theorem dX3_fits_11 : decode cX3_fits 11 = .ok (.bipush (-99), 2) := by decide +kernel
theorem dX3_fits_13 : decode cX3_fits 13 = .ok (.if_icmp .eq 18, 3) := by decide +kernel
theorem dX3_fits_16 : decode cX3_fits 16 = .ok (.aload_n 0, 1) := by decide +kernel
theorem dX3_fits_17 : decode cX3_fits 17 = .ok (.getfield 62, 3) := by decide +kernel
theorem dX3_fits_20 : decode cX3_fits 20 = .ok (.bipush 16, 2) := by decide +kernel
theorem dX3_fits_22 : decode cX3_fits 22 = .ok (.iload_n 1, 1) := by decide +kernel
theorem dX3_fits_23 : decode cX3_fits 23 = .ok (.imul, 1) := by decide +kernel
theorem dX3_fits_24 : decode cX3_fits 24 = .ok (.iload_n 2, 1) := by decide +kernel
theorem dX3_fits_25 : decode cX3_fits 25 = .ok (.iadd, 1) := by decide +kernel
theorem dX3_fits_26 : decode cX3_fits 26 = .ok (.iaload, 1) := by decide +kernel
theorem dX3_fits_27 : decode cX3_fits 27 = .ok (.iload_n 3, 1) := by decide +kernel
theorem dX3_fits_28 : decode cX3_fits 28 = .ok (.if_icmp .ne 7, 3) := by decide +kernel
theorem dX3_fits_31 : decode cX3_fits 31 = .ok (.iconst 1, 1) := by decide +kernel
theorem dX3_fits_32 : decode cX3_fits 32 = .ok (.goto 4, 3) := by decide +kernel
theorem dX3_fits_35 : decode cX3_fits 35 = .ok (.iconst 0, 1) := by decide +kernel
theorem dX3_fits_36 : decode cX3_fits 36 = .ok (.ireturn, 1) := by decide +kernel
theorem dX3_seenRows_0 : decode cX3_seenRows 0 = .ok (.aload_n 0, 1) := by decide +kernel
theorem dX3_seenRows_1 : decode cX3_seenRows 1 = .ok (.getfield 65, 3) := by decide +kernel
theorem dX3_seenRows_4 : decode cX3_seenRows 4 = .ok (.aload_n 0, 1) := by decide +kernel
theorem dX3_seenRows_5 : decode cX3_seenRows 5 = .ok (.getfield 92, 3) := by decide +kernel
theorem dX3_seenRows_8 : decode cX3_seenRows 8 = .ok (.if_icmp .ge 10, 3) := by decide +kernel
theorem dX3_seenRows_11 : decode cX3_seenRows 11 = .ok (.aload_n 0, 1) := by decide +kernel
theorem dX3_seenRows_12 : decode cX3_seenRows 12 = .ok (.getfield 65, 3) := by decide +kernel
theorem dX3_seenRows_15 : decode cX3_seenRows 15 = .ok (.goto 7, 3) := by decide +kernel
theorem dX3_seenRows_18 : decode cX3_seenRows 18 = .ok (.aload_n 0, 1) := by decide +kernel
theorem dX3_seenRows_19 : decode cX3_seenRows 19 = .ok (.getfield 92, 3) := by decide +kernel
theorem dX3_seenRows_22 : decode cX3_seenRows 22 = .ok (.ireturn, 1) := by decide +kernel
theorem dX3_unlike_0 : decode cX3_unlike 0 = .ok (.aload_n 0, 1) := by decide +kernel
theorem dX3_unlike_1 : decode cX3_unlike 1 = .ok (.iconst 0, 1) := by decide +kernel
theorem dX3_unlike_2 : decode cX3_unlike 2 = .ok (.putfield 85, 3) := by decide +kernel
theorem dX3_unlike_5 : decode cX3_unlike 5 = .ok (.iconst 0, 1) := by decide +kernel
theorem dX3_unlike_6 : decode cX3_unlike 6 = .ok (.istore_n 1, 1) := by decide +kernel
theorem dX3_unlike_7 : decode cX3_unlike 7 = .ok (.iconst 0, 1) := by decide +kernel
theorem dX3_unlike_8 : decode cX3_unlike 8 = .ok (.istore_n 2, 1) := by decide +kernel
theorem dX3_unlike_9 : decode cX3_unlike 9 = .ok (.iload_n 2, 1) := by decide +kernel
theorem dX3_unlike_10 : decode cX3_unlike 10 = .ok (.aload_n 0, 1) := by decide +kernel
theorem dX3_unlike_11 : decode cX3_unlike 11 = .ok (.invokevirtual 150, 3) := by decide +kernel
theorem dX3_unlike_14 : decode cX3_unlike 14 = .ok (.if_icmp .ge 48, 3) := by decide +kernel
theorem dX3_unlike_17 : decode cX3_unlike 17 = .ok (.iconst 0, 1) := by decide +kernel
theorem dX3_unlike_18 : decode cX3_unlike 18 = .ok (.istore_n 3, 1) := by decide +kernel
theorem dX3_unlike_19 : decode cX3_unlike 19 = .ok (.iload_n 3, 1) := by decide +kernel
theorem dX3_unlike_20 : decode cX3_unlike 20 = .ok (.aload_n 0, 1) := by decide +kernel
theorem dX3_unlike_21 : decode cX3_unlike 21 = .ok (.getfield 7, 3) := by decide +kernel
theorem dX3_unlike_24 : decode cX3_unlike 24 = .ok (.if_icmp .ge 32, 3) := by decide +kernel
theorem dX3_unlike_27 : decode cX3_unlike 27 = .ok (.iload_n 1, 1) := by decide +kernel
theorem dX3_unlike_28 : decode cX3_unlike 28 = .ok (.aload_n 0, 1) := by decide +kernel
theorem dX3_unlike_29 : decode cX3_unlike 29 = .ok (.iload_n 2, 1) := by decide +kernel
theorem dX3_unlike_30 : decode cX3_unlike 30 = .ok (.iload_n 3, 1) := by decide +kernel
theorem dX3_unlike_31 : decode cX3_unlike 31 = .ok (.aload_n 0, 1) := by decide +kernel
theorem dX3_unlike_32 : decode cX3_unlike 32 = .ok (.iload_n 2, 1) := by decide +kernel
theorem dX3_unlike_33 : decode cX3_unlike 33 = .ok (.iload_n 3, 1) := by decide +kernel
theorem dX3_unlike_34 : decode cX3_unlike 34 = .ok (.invokevirtual 124, 3) := by decide +kernel
theorem dX3_unlike_37 : decode cX3_unlike 37 = .ok (.invokevirtual 154, 3) := by decide +kernel
theorem dX3_unlike_40 : decode cX3_unlike 40 = .ok (.ifCond .eq 7, 3) := by decide +kernel
theorem dX3_unlike_43 : decode cX3_unlike 43 = .ok (.iconst 0, 1) := by decide +kernel
theorem dX3_unlike_44 : decode cX3_unlike 44 = .ok (.goto 4, 3) := by decide +kernel
theorem dX3_unlike_47 : decode cX3_unlike 47 = .ok (.iconst 1, 1) := by decide +kernel
theorem dX3_unlike_48 : decode cX3_unlike 48 = .ok (.iadd, 1) := by decide +kernel
theorem dX3_unlike_49 : decode cX3_unlike 49 = .ok (.istore_n 1, 1) := by decide +kernel
theorem dX3_unlike_50 : decode cX3_unlike 50 = .ok (.iinc 3 1, 3) := by decide +kernel
theorem dX3_unlike_53 : decode cX3_unlike 53 = .ok (.goto (-34), 3) := by decide +kernel
theorem dX3_unlike_56 : decode cX3_unlike 56 = .ok (.iinc 2 1, 3) := by decide +kernel
theorem dX3_unlike_59 : decode cX3_unlike 59 = .ok (.goto (-50), 3) := by decide +kernel
theorem dX3_unlike_62 : decode cX3_unlike 62 = .ok (.iload_n 1, 1) := by decide +kernel
theorem dX3_unlike_63 : decode cX3_unlike 63 = .ok (.ireturn, 1) := by decide +kernel
theorem dX3_lies_0 : decode cX3_lies 0 = .ok (.aload_n 0, 1) := by decide +kernel
theorem dX3_lies_1 : decode cX3_lies 1 = .ok (.getfield 17, 3) := by decide +kernel
theorem dX3_lies_4 : decode cX3_lies 4 = .ok (.iconst 4, 1) := by decide +kernel
theorem dX3_lies_5 : decode cX3_lies 5 = .ok (.iload_n 1, 1) := by decide +kernel
theorem dX3_lies_6 : decode cX3_lies 6 = .ok (.imul, 1) := by decide +kernel
theorem dX3_lies_7 : decode cX3_lies 7 = .ok (.iload_n 3, 1) := by decide +kernel
theorem dX3_lies_8 : decode cX3_lies 8 = .ok (.bipush 8, 2) := by decide +kernel
theorem dX3_lies_10 : decode cX3_lies 10 = .ok (.iadd, 1) := by decide +kernel
theorem dX3_lies_11 : decode cX3_lies 11 = .ok (.iload_n 2, 1) := by decide +kernel
theorem dX3_lies_12 : decode cX3_lies 12 = .ok (.isub, 1) := by decide +kernel
theorem dX3_lies_13 : decode cX3_lies 13 = .ok (.iconst 4, 1) := by decide +kernel
theorem dX3_lies_14 : decode cX3_lies 14 = .ok (.irem, 1) := by decide +kernel
theorem dX3_lies_15 : decode cX3_lies 15 = .ok (.iadd, 1) := by decide +kernel
theorem dX3_lies_16 : decode cX3_lies 16 = .ok (.iaload, 1) := by decide +kernel
theorem dX3_lies_17 : decode cX3_lies 17 = .ok (.ireturn, 1) := by decide +kernel
theorem dX3_spot_0 : decode cX3_spot 0 = .ok (.iload_n 0, 1) := by decide +kernel
theorem dX3_spot_1 : decode cX3_spot 1 = .ok (.iconst 4, 1) := by decide +kernel
theorem dX3_spot_2 : decode cX3_spot 2 = .ok (.imul, 1) := by decide +kernel
theorem dX3_spot_3 : decode cX3_spot 3 = .ok (.iload_n 1, 1) := by decide +kernel
theorem dX3_spot_4 : decode cX3_spot 4 = .ok (.iadd, 1) := by decide +kernel
theorem dX3_spot_5 : decode cX3_spot 5 = .ok (.iconst 4, 1) := by decide +kernel
theorem dX3_spot_6 : decode cX3_spot 6 = .ok (.imul, 1) := by decide +kernel
theorem dX3_spot_7 : decode cX3_spot 7 = .ok (.iload_n 2, 1) := by decide +kernel
theorem dX3_spot_8 : decode cX3_spot 8 = .ok (.iadd, 1) := by decide +kernel
theorem dX3_spot_9 : decode cX3_spot 9 = .ok (.bipush 10, 2) := by decide +kernel
theorem dX3_spot_11 : decode cX3_spot 11 = .ok (.imul, 1) := by decide +kernel
theorem dX3_spot_12 : decode cX3_spot 12 = .ok (.iload_n 3, 1) := by decide +kernel
theorem dX3_spot_13 : decode cX3_spot 13 = .ok (.iadd, 1) := by decide +kernel
theorem dX3_spot_14 : decode cX3_spot 14 = .ok (.bipush 61, 2) := by decide +kernel
theorem dX3_spot_16 : decode cX3_spot 16 = .ok (.imul, 1) := by decide +kernel
theorem dX3_spot_17 : decode cX3_spot 17 = .ok (.iload 4, 2) := by decide +kernel
theorem dX3_spot_19 : decode cX3_spot 19 = .ok (.iadd, 1) := by decide +kernel
theorem dX3_spot_20 : decode cX3_spot 20 = .ok (.bipush 30, 2) := by decide +kernel
theorem dX3_spot_22 : decode cX3_spot 22 = .ok (.iadd, 1) := by decide +kernel
theorem dX3_spot_23 : decode cX3_spot 23 = .ok (.ireturn, 1) := by decide +kernel
theorem dX3_by_0 : decode cX3_by 0 = .ok (.iload 7, 2) := by decide +kernel
theorem dX3_by_2 : decode cX3_by 2 = .ok (.iconst 2, 1) := by decide +kernel
theorem dX3_by_3 : decode cX3_by 3 = .ok (.if_icmp .ne 90, 3) := by decide +kernel
theorem dX3_by_6 : decode cX3_by 6 = .ok (.iload 5, 2) := by decide +kernel
theorem dX3_by_8 : decode cX3_by 8 = .ok (.aload_n 0, 1) := by decide +kernel
theorem dX3_by_9 : decode cX3_by 9 = .ok (.getfield 68, 3) := by decide +kernel
theorem dX3_by_12 : decode cX3_by 12 = .ok (.if_icmp .ge 27, 3) := by decide +kernel
theorem dX3_by_15 : decode cX3_by 15 = .ok (.aload_n 0, 1) := by decide +kernel
theorem dX3_by_16 : decode cX3_by 16 = .ok (.iload_n 2, 1) := by decide +kernel
theorem dX3_by_17 : decode cX3_by 17 = .ok (.iload_n 1, 1) := by decide +kernel
theorem dX3_by_18 : decode cX3_by 18 = .ok (.aload_n 0, 1) := by decide +kernel
theorem dX3_by_19 : decode cX3_by 19 = .ok (.getfield 13, 3) := by decide +kernel
theorem dX3_by_22 : decode cX3_by 22 = .ok (.iconst 4, 1) := by decide +kernel
theorem dX3_by_23 : decode cX3_by 23 = .ok (.iload_n 1, 1) := by decide +kernel
theorem dX3_by_24 : decode cX3_by 24 = .ok (.imul, 1) := by decide +kernel
theorem dX3_by_25 : decode cX3_by 25 = .ok (.iload 4, 2) := by decide +kernel
theorem dX3_by_27 : decode cX3_by 27 = .ok (.iadd, 1) := by decide +kernel
theorem dX3_by_28 : decode cX3_by 28 = .ok (.iaload, 1) := by decide +kernel
theorem dX3_by_29 : decode cX3_by 29 = .ok (.invokevirtual 154, 3) := by decide +kernel
theorem dX3_by_32 : decode cX3_by 32 = .ok (.ifCond .eq 7, 3) := by decide +kernel
theorem dX3_by_35 : decode cX3_by 35 = .ok (.iconst 1, 1) := by decide +kernel
theorem dX3_by_36 : decode cX3_by 36 = .ok (.goto 4, 3) := by decide +kernel
theorem dX3_by_39 : decode cX3_by 39 = .ok (.iconst 0, 1) := by decide +kernel
theorem dX3_by_40 : decode cX3_by 40 = .ok (.istore 8, 2) := by decide +kernel
theorem dX3_by_42 : decode cX3_by 42 = .ok (.iload 8, 2) := by decide +kernel
theorem dX3_by_44 : decode cX3_by 44 = .ok (.ifCond .eq 26, 3) := by decide +kernel
theorem dX3_by_47 : decode cX3_by 47 = .ok (.aload_n 0, 1) := by decide +kernel
theorem dX3_by_48 : decode cX3_by 48 = .ok (.getfield 72, 3) := by decide +kernel
theorem dX3_by_51 : decode cX3_by 51 = .ok (.iload_n 2, 1) := by decide +kernel
theorem dX3_by_52 : decode cX3_by 52 = .ok (.iconst 1, 1) := by decide +kernel
theorem dX3_by_53 : decode cX3_by 53 = .ok (.iadd, 1) := by decide +kernel
theorem dX3_by_54 : decode cX3_by 54 = .ok (.iload_n 3, 1) := by decide +kernel
theorem dX3_by_55 : decode cX3_by 55 = .ok (.iload 4, 2) := by decide +kernel
theorem dX3_by_57 : decode cX3_by 57 = .ok (.iload 5, 2) := by decide +kernel
theorem dX3_by_59 : decode cX3_by 59 = .ok (.iconst 1, 1) := by decide +kernel
theorem dX3_by_60 : decode cX3_by 60 = .ok (.iadd, 1) := by decide +kernel
theorem dX3_by_61 : decode cX3_by 61 = .ok (.iload 6, 2) := by decide +kernel
theorem dX3_by_63 : decode cX3_by 63 = .ok (.invokestatic 157, 3) := by decide +kernel
theorem dX3_by_66 : decode cX3_by 66 = .ok (.iaload, 1) := by decide +kernel
theorem dX3_by_67 : decode cX3_by 67 = .ok (.goto 5, 3) := by decide +kernel
theorem dX3_by_70 : decode cX3_by 70 = .ok (.ldc 161, 2) := by decide +kernel
theorem dX3_by_72 : decode cX3_by 72 = .ok (.istore 9, 2) := by decide +kernel
theorem dX3_by_74 : decode cX3_by 74 = .ok (.iload 9, 2) := by decide +kernel
theorem dX3_by_76 : decode cX3_by 76 = .ok (.ldc 161, 2) := by decide +kernel
theorem dX3_by_78 : decode cX3_by 78 = .ok (.if_icmp .ge 12, 3) := by decide +kernel
theorem dX3_by_81 : decode cX3_by 81 = .ok (.iload 9, 2) := by decide +kernel
theorem dX3_by_83 : decode cX3_by 83 = .ok (.sipush 1000, 3) := by decide +kernel
theorem dX3_by_86 : decode cX3_by 86 = .ok (.iadd, 1) := by decide +kernel
theorem dX3_by_87 : decode cX3_by 87 = .ok (.goto 5, 3) := by decide +kernel
theorem dX3_by_90 : decode cX3_by 90 = .ok (.ldc 161, 2) := by decide +kernel
theorem dX3_by_92 : decode cX3_by 92 = .ok (.ireturn, 1) := by decide +kernel
theorem dX3_by_93 : decode cX3_by 93 = .ok (.iload_n 3, 1) := by decide +kernel
theorem dX3_by_94 : decode cX3_by 94 = .ok (.iload 7, 2) := by decide +kernel
theorem dX3_by_96 : decode cX3_by 96 = .ok (.ifCond .ne 7, 3) := by decide +kernel
theorem dX3_by_99 : decode cX3_by 99 = .ok (.iconst 1, 1) := by decide +kernel
theorem dX3_by_100 : decode cX3_by 100 = .ok (.goto 4, 3) := by decide +kernel
theorem dX3_by_103 : decode cX3_by 103 = .ok (.iconst 3, 1) := by decide +kernel
theorem dX3_by_104 : decode cX3_by 104 = .ok (.iadd, 1) := by decide +kernel
theorem dX3_by_105 : decode cX3_by 105 = .ok (.iconst 4, 1) := by decide +kernel
theorem dX3_by_106 : decode cX3_by 106 = .ok (.irem, 1) := by decide +kernel
theorem dX3_by_107 : decode cX3_by 107 = .ok (.istore 8, 2) := by decide +kernel
theorem dX3_by_109 : decode cX3_by 109 = .ok (.aload_n 0, 1) := by decide +kernel
theorem dX3_by_110 : decode cX3_by 110 = .ok (.iload_n 1, 1) := by decide +kernel
theorem dX3_by_111 : decode cX3_by 111 = .ok (.iload 8, 2) := by decide +kernel
theorem dX3_by_113 : decode cX3_by 113 = .ok (.iload 7, 2) := by decide +kernel
theorem dX3_by_115 : decode cX3_by 115 = .ok (.invokevirtual 162, 3) := by decide +kernel
theorem dX3_by_118 : decode cX3_by 118 = .ok (.istore 9, 2) := by decide +kernel
theorem dX3_by_120 : decode cX3_by 120 = .ok (.iload 6, 2) := by decide +kernel
theorem dX3_by_122 : decode cX3_by 122 = .ok (.iload 7, 2) := by decide +kernel
theorem dX3_by_124 : decode cX3_by 124 = .ok (.aload_n 0, 1) := by decide +kernel
theorem dX3_by_125 : decode cX3_by 125 = .ok (.getfield 20, 3) := by decide +kernel
theorem dX3_by_128 : decode cX3_by 128 = .ok (.iload_n 1, 1) := by decide +kernel
theorem dX3_by_129 : decode cX3_by 129 = .ok (.iaload, 1) := by decide +kernel
theorem dX3_by_130 : decode cX3_by 130 = .ok (.if_icmp .ne 7, 3) := by decide +kernel
theorem dX3_by_133 : decode cX3_by 133 = .ok (.iconst 1, 1) := by decide +kernel
theorem dX3_by_134 : decode cX3_by 134 = .ok (.goto 4, 3) := by decide +kernel
theorem dX3_by_137 : decode cX3_by 137 = .ok (.iconst (-1), 1) := by decide +kernel
theorem dX3_by_138 : decode cX3_by 138 = .ok (.iadd, 1) := by decide +kernel
theorem dX3_by_139 : decode cX3_by 139 = .ok (.istore 10, 2) := by decide +kernel
theorem dX3_by_141 : decode cX3_by 141 = .ok (.iload 10, 2) := by decide +kernel
theorem dX3_by_143 : decode cX3_by 143 = .ok (.i2l, 1) := by decide +kernel
theorem dX3_by_144 : decode cX3_by 144 = .ok (.ldc2_w 166, 3) := by decide +kernel
theorem dX3_by_147 : decode cX3_by 147 = .ok (.ldc2_w 146, 3) := by decide +kernel
theorem dX3_by_150 : decode cX3_by 150 = .ok (.invokestatic 88, 3) := by decide +kernel
theorem dX3_by_153 : decode cX3_by 153 = .ok (.ifCond .eq 44, 3) := by decide +kernel
theorem dX3_by_156 : decode cX3_by 156 = .ok (.aload_n 0, 1) := by decide +kernel
theorem dX3_by_157 : decode cX3_by 157 = .ok (.iload_n 2, 1) := by decide +kernel
theorem dX3_by_158 : decode cX3_by 158 = .ok (.iload_n 1, 1) := by decide +kernel
theorem dX3_by_159 : decode cX3_by 159 = .ok (.aload_n 0, 1) := by decide +kernel
theorem dX3_by_160 : decode cX3_by 160 = .ok (.getfield 13, 3) := by decide +kernel
theorem dX3_by_163 : decode cX3_by 163 = .ok (.iconst 4, 1) := by decide +kernel
theorem dX3_by_164 : decode cX3_by 164 = .ok (.iload_n 1, 1) := by decide +kernel
theorem dX3_by_165 : decode cX3_by 165 = .ok (.imul, 1) := by decide +kernel
theorem dX3_by_166 : decode cX3_by 166 = .ok (.iload 9, 2) := by decide +kernel
theorem dX3_by_168 : decode cX3_by 168 = .ok (.iadd, 1) := by decide +kernel
theorem dX3_by_169 : decode cX3_by 169 = .ok (.iaload, 1) := by decide +kernel
theorem dX3_by_170 : decode cX3_by 170 = .ok (.invokevirtual 154, 3) := by decide +kernel
theorem dX3_by_173 : decode cX3_by 173 = .ok (.ifCond .eq 24, 3) := by decide +kernel
theorem dX3_by_176 : decode cX3_by 176 = .ok (.aload_n 0, 1) := by decide +kernel
theorem dX3_by_177 : decode cX3_by 177 = .ok (.getfield 72, 3) := by decide +kernel
theorem dX3_by_180 : decode cX3_by 180 = .ok (.iload_n 2, 1) := by decide +kernel
theorem dX3_by_181 : decode cX3_by 181 = .ok (.iconst 1, 1) := by decide +kernel
theorem dX3_by_182 : decode cX3_by 182 = .ok (.iadd, 1) := by decide +kernel
theorem dX3_by_183 : decode cX3_by 183 = .ok (.iload 8, 2) := by decide +kernel
theorem dX3_by_185 : decode cX3_by 185 = .ok (.iload 9, 2) := by decide +kernel
theorem dX3_by_187 : decode cX3_by 187 = .ok (.iconst 0, 1) := by decide +kernel
theorem dX3_by_188 : decode cX3_by 188 = .ok (.iload 10, 2) := by decide +kernel
theorem dX3_by_190 : decode cX3_by 190 = .ok (.invokestatic 157, 3) := by decide +kernel
theorem dX3_by_193 : decode cX3_by 193 = .ok (.iaload, 1) := by decide +kernel
theorem dX3_by_194 : decode cX3_by 194 = .ok (.goto 5, 3) := by decide +kernel
theorem dX3_by_197 : decode cX3_by 197 = .ok (.ldc 161, 2) := by decide +kernel
theorem dX3_by_199 : decode cX3_by 199 = .ok (.ireturn, 1) := by decide +kernel
theorem dX3_look_0 : decode cX3_look 0 = .ok (.iconst 0, 1) := by decide +kernel
theorem dX3_look_1 : decode cX3_look 1 = .ok (.istore_n 2, 1) := by decide +kernel
theorem dX3_look_2 : decode cX3_look 2 = .ok (.iload_n 2, 1) := by decide +kernel
theorem dX3_look_3 : decode cX3_look 3 = .ok (.iconst 4, 1) := by decide +kernel
theorem dX3_look_4 : decode cX3_look 4 = .ok (.if_icmp .ge 85, 3) := by decide +kernel
theorem dX3_look_7 : decode cX3_look 7 = .ok (.iconst 0, 1) := by decide +kernel
theorem dX3_look_8 : decode cX3_look 8 = .ok (.istore_n 3, 1) := by decide +kernel
theorem dX3_look_9 : decode cX3_look 9 = .ok (.iload_n 3, 1) := by decide +kernel
theorem dX3_look_10 : decode cX3_look 10 = .ok (.iconst 4, 1) := by decide +kernel
theorem dX3_look_11 : decode cX3_look 11 = .ok (.if_icmp .ge 72, 3) := by decide +kernel
theorem dX3_look_14 : decode cX3_look 14 = .ok (.iconst 0, 1) := by decide +kernel
theorem dX3_look_15 : decode cX3_look 15 = .ok (.istore 4, 2) := by decide +kernel
theorem dX3_look_17 : decode cX3_look 17 = .ok (.iload 4, 2) := by decide +kernel
theorem dX3_look_19 : decode cX3_look 19 = .ok (.bipush 10, 2) := by decide +kernel
theorem dX3_look_21 : decode cX3_look 21 = .ok (.if_icmp .ge 56, 3) := by decide +kernel
theorem dX3_look_24 : decode cX3_look 24 = .ok (.bipush (-30), 2) := by decide +kernel
theorem dX3_look_26 : decode cX3_look 26 = .ok (.istore 5, 2) := by decide +kernel
theorem dX3_look_28 : decode cX3_look 28 = .ok (.iload 5, 2) := by decide +kernel
theorem dX3_look_30 : decode cX3_look 30 = .ok (.bipush 30, 2) := by decide +kernel
theorem dX3_look_32 : decode cX3_look 32 = .ok (.if_icmp .gt 39, 3) := by decide +kernel
theorem dX3_look_35 : decode cX3_look 35 = .ok (.aload_n 0, 1) := by decide +kernel
theorem dX3_look_36 : decode cX3_look 36 = .ok (.getfield 72, 3) := by decide +kernel
theorem dX3_look_39 : decode cX3_look 39 = .ok (.aload_n 0, 1) := by decide +kernel
theorem dX3_look_40 : decode cX3_look 40 = .ok (.getfield 65, 3) := by decide +kernel
theorem dX3_look_43 : decode cX3_look 43 = .ok (.iload_n 2, 1) := by decide +kernel
theorem dX3_look_44 : decode cX3_look 44 = .ok (.iload_n 3, 1) := by decide +kernel
theorem dX3_look_45 : decode cX3_look 45 = .ok (.iload 4, 2) := by decide +kernel
theorem dX3_look_47 : decode cX3_look 47 = .ok (.iload 5, 2) := by decide +kernel
theorem dX3_look_49 : decode cX3_look 49 = .ok (.invokestatic 157, 3) := by decide +kernel
theorem dX3_look_52 : decode cX3_look 52 = .ok (.aload_n 0, 1) := by decide +kernel
theorem dX3_look_53 : decode cX3_look 53 = .ok (.getfield 26, 3) := by decide +kernel
theorem dX3_look_56 : decode cX3_look 56 = .ok (.iload_n 1, 1) := by decide +kernel
theorem dX3_look_57 : decode cX3_look 57 = .ok (.iaload, 1) := by decide +kernel
theorem dX3_look_58 : decode cX3_look 58 = .ok (.iload 5, 2) := by decide +kernel
theorem dX3_look_60 : decode cX3_look 60 = .ok (.iadd, 1) := by decide +kernel
theorem dX3_look_61 : decode cX3_look 61 = .ok (.invokestatic 131, 3) := by decide +kernel
theorem dX3_look_64 : decode cX3_look 64 = .ok (.iastore, 1) := by decide +kernel
theorem dX3_look_65 : decode cX3_look 65 = .ok (.iinc 5 1, 3) := by decide +kernel
theorem dX3_look_68 : decode cX3_look 68 = .ok (.goto (-40), 3) := by decide +kernel
theorem dX3_look_71 : decode cX3_look 71 = .ok (.iinc 4 1, 3) := by decide +kernel
theorem dX3_look_74 : decode cX3_look 74 = .ok (.goto (-57), 3) := by decide +kernel
theorem dX3_look_77 : decode cX3_look 77 = .ok (.iinc 3 1, 3) := by decide +kernel
theorem dX3_look_80 : decode cX3_look 80 = .ok (.goto (-71), 3) := by decide +kernel
theorem dX3_look_83 : decode cX3_look 83 = .ok (.iinc 2 1, 3) := by decide +kernel
theorem dX3_look_86 : decode cX3_look 86 = .ok (.goto (-84), 3) := by decide +kernel
theorem dX3_look_89 : decode cX3_look 89 = .ok (.aload_n 0, 1) := by decide +kernel
theorem dX3_look_90 : decode cX3_look 90 = .ok (.getfield 65, 3) := by decide +kernel
theorem dX3_look_93 : decode cX3_look 93 = .ok (.iconst 1, 1) := by decide +kernel
theorem dX3_look_94 : decode cX3_look 94 = .ok (.isub, 1) := by decide +kernel
theorem dX3_look_95 : decode cX3_look 95 = .ok (.istore_n 2, 1) := by decide +kernel
theorem dX3_look_96 : decode cX3_look 96 = .ok (.iload_n 2, 1) := by decide +kernel
theorem dX3_look_97 : decode cX3_look 97 = .ok (.ifCond .lt 157, 3) := by decide +kernel
theorem dX3_look_100 : decode cX3_look 100 = .ok (.iconst 0, 1) := by decide +kernel
theorem dX3_look_101 : decode cX3_look 101 = .ok (.istore_n 3, 1) := by decide +kernel
theorem dX3_look_102 : decode cX3_look 102 = .ok (.iload_n 3, 1) := by decide +kernel
theorem dX3_look_103 : decode cX3_look 103 = .ok (.iconst 4, 1) := by decide +kernel
theorem dX3_look_104 : decode cX3_look 104 = .ok (.if_icmp .ge 144, 3) := by decide +kernel
theorem dX3_look_107 : decode cX3_look 107 = .ok (.iconst 0, 1) := by decide +kernel
theorem dX3_look_108 : decode cX3_look 108 = .ok (.istore 4, 2) := by decide +kernel
theorem dX3_look_110 : decode cX3_look 110 = .ok (.iload 4, 2) := by decide +kernel
theorem dX3_look_112 : decode cX3_look 112 = .ok (.iconst 4, 1) := by decide +kernel
theorem dX3_look_113 : decode cX3_look 113 = .ok (.if_icmp .ge 129, 3) := by decide +kernel
theorem dX3_look_116 : decode cX3_look 116 = .ok (.iconst 0, 1) := by decide +kernel
theorem dX3_look_117 : decode cX3_look 117 = .ok (.istore 5, 2) := by decide +kernel
theorem dX3_look_119 : decode cX3_look 119 = .ok (.iload 5, 2) := by decide +kernel
theorem dX3_look_121 : decode cX3_look 121 = .ok (.bipush 10, 2) := by decide +kernel
theorem dX3_look_123 : decode cX3_look 123 = .ok (.if_icmp .ge 113, 3) := by decide +kernel
theorem dX3_look_126 : decode cX3_look 126 = .ok (.iload_n 2, 1) := by decide +kernel
theorem dX3_look_127 : decode cX3_look 127 = .ok (.ineg, 1) := by decide +kernel
theorem dX3_look_128 : decode cX3_look 128 = .ok (.istore 6, 2) := by decide +kernel
theorem dX3_look_130 : decode cX3_look 130 = .ok (.iload 6, 2) := by decide +kernel
theorem dX3_look_132 : decode cX3_look 132 = .ok (.iload_n 2, 1) := by decide +kernel
theorem dX3_look_133 : decode cX3_look 133 = .ok (.if_icmp .gt 97, 3) := by decide +kernel
theorem dX3_look_136 : decode cX3_look 136 = .ok (.ldc 161, 2) := by decide +kernel
theorem dX3_look_138 : decode cX3_look 138 = .ok (.istore 7, 2) := by decide +kernel
theorem dX3_look_140 : decode cX3_look 140 = .ok (.iconst 0, 1) := by decide +kernel
theorem dX3_look_141 : decode cX3_look 141 = .ok (.istore 8, 2) := by decide +kernel
theorem dX3_look_143 : decode cX3_look 143 = .ok (.iload 8, 2) := by decide +kernel
theorem dX3_look_145 : decode cX3_look 145 = .ok (.iconst 3, 1) := by decide +kernel
theorem dX3_look_146 : decode cX3_look 146 = .ok (.if_icmp .ge 60, 3) := by decide +kernel
theorem dX3_look_149 : decode cX3_look 149 = .ok (.iload 5, 2) := by decide +kernel
theorem dX3_look_151 : decode cX3_look 151 = .ok (.bipush 9, 2) := by decide +kernel
theorem dX3_look_153 : decode cX3_look 153 = .ok (.if_icmp .ne 14, 3) := by decide +kernel
theorem dX3_look_156 : decode cX3_look 156 = .ok (.iload 8, 2) := by decide +kernel
theorem dX3_look_158 : decode cX3_look 158 = .ok (.iconst 2, 1) := by decide +kernel
theorem dX3_look_159 : decode cX3_look 159 = .ok (.if_icmp .ne 8, 3) := by decide +kernel
theorem dX3_look_162 : decode cX3_look 162 = .ok (.ldc 161, 2) := by decide +kernel
theorem dX3_look_164 : decode cX3_look 164 = .ok (.goto 18, 3) := by decide +kernel
theorem dX3_look_167 : decode cX3_look 167 = .ok (.aload_n 0, 1) := by decide +kernel
theorem dX3_look_168 : decode cX3_look 168 = .ok (.iload_n 1, 1) := by decide +kernel
theorem dX3_look_169 : decode cX3_look 169 = .ok (.iload_n 2, 1) := by decide +kernel
theorem dX3_look_170 : decode cX3_look 170 = .ok (.iload_n 3, 1) := by decide +kernel
theorem dX3_look_171 : decode cX3_look 171 = .ok (.iload 4, 2) := by decide +kernel
theorem dX3_look_173 : decode cX3_look 173 = .ok (.iload 5, 2) := by decide +kernel
theorem dX3_look_175 : decode cX3_look 175 = .ok (.iload 6, 2) := by decide +kernel
theorem dX3_look_177 : decode cX3_look 177 = .ok (.iload 8, 2) := by decide +kernel
theorem dX3_look_179 : decode cX3_look 179 = .ok (.invokevirtual 168, 3) := by decide +kernel
theorem dX3_look_182 : decode cX3_look 182 = .ok (.istore 9, 2) := by decide +kernel
theorem dX3_look_184 : decode cX3_look 184 = .ok (.iload 9, 2) := by decide +kernel
theorem dX3_look_186 : decode cX3_look 186 = .ok (.iload 7, 2) := by decide +kernel
theorem dX3_look_188 : decode cX3_look 188 = .ok (.if_icmp .ge 8, 3) := by decide +kernel
theorem dX3_look_191 : decode cX3_look 191 = .ok (.iload 9, 2) := by decide +kernel
theorem dX3_look_193 : decode cX3_look 193 = .ok (.goto 5, 3) := by decide +kernel
theorem dX3_look_196 : decode cX3_look 196 = .ok (.iload 7, 2) := by decide +kernel
theorem dX3_look_198 : decode cX3_look 198 = .ok (.istore 7, 2) := by decide +kernel
theorem dX3_look_200 : decode cX3_look 200 = .ok (.iinc 8 1, 3) := by decide +kernel
theorem dX3_look_203 : decode cX3_look 203 = .ok (.goto (-60), 3) := by decide +kernel
theorem dX3_look_206 : decode cX3_look 206 = .ok (.aload_n 0, 1) := by decide +kernel
theorem dX3_look_207 : decode cX3_look 207 = .ok (.getfield 72, 3) := by decide +kernel
theorem dX3_look_210 : decode cX3_look 210 = .ok (.iload_n 2, 1) := by decide +kernel
theorem dX3_look_211 : decode cX3_look 211 = .ok (.iload_n 3, 1) := by decide +kernel
theorem dX3_look_212 : decode cX3_look 212 = .ok (.iload 4, 2) := by decide +kernel
theorem dX3_look_214 : decode cX3_look 214 = .ok (.iload 5, 2) := by decide +kernel
theorem dX3_look_216 : decode cX3_look 216 = .ok (.iload 6, 2) := by decide +kernel
theorem dX3_look_218 : decode cX3_look 218 = .ok (.invokestatic 157, 3) := by decide +kernel
theorem dX3_look_221 : decode cX3_look 221 = .ok (.iload 7, 2) := by decide +kernel
theorem dX3_look_223 : decode cX3_look 223 = .ok (.iastore, 1) := by decide +kernel
theorem dX3_look_224 : decode cX3_look 224 = .ok (.iinc 6 1, 3) := by decide +kernel
theorem dX3_look_227 : decode cX3_look 227 = .ok (.goto (-97), 3) := by decide +kernel
theorem dX3_look_230 : decode cX3_look 230 = .ok (.iinc 5 1, 3) := by decide +kernel
theorem dX3_look_233 : decode cX3_look 233 = .ok (.goto (-114), 3) := by decide +kernel
theorem dX3_look_236 : decode cX3_look 236 = .ok (.iinc 4 1, 3) := by decide +kernel
theorem dX3_look_239 : decode cX3_look 239 = .ok (.goto (-129), 3) := by decide +kernel
theorem dX3_look_242 : decode cX3_look 242 = .ok (.iinc 3 1, 3) := by decide +kernel
theorem dX3_look_245 : decode cX3_look 245 = .ok (.goto (-143), 3) := by decide +kernel
theorem dX3_look_248 : decode cX3_look 248 = .ok (.iinc 2 (-1), 3) := by decide +kernel
theorem dX3_look_251 : decode cX3_look 251 = .ok (.goto (-155), 3) := by decide +kernel
theorem dX3_look_254 : decode cX3_look 254 = .ok (.aload_n 0, 1) := by decide +kernel
theorem dX3_look_255 : decode cX3_look 255 = .ok (.getfield 92, 3) := by decide +kernel
theorem dX3_look_258 : decode cX3_look 258 = .ok (.ifCond .ne 14, 3) := by decide +kernel
theorem dX3_look_261 : decode cX3_look 261 = .ok (.aload_n 0, 1) := by decide +kernel
theorem dX3_look_262 : decode cX3_look 262 = .ok (.getfield 17, 3) := by decide +kernel
theorem dX3_look_265 : decode cX3_look 265 = .ok (.iconst 4, 1) := by decide +kernel
theorem dX3_look_266 : decode cX3_look 266 = .ok (.iload_n 1, 1) := by decide +kernel
theorem dX3_look_267 : decode cX3_look 267 = .ok (.imul, 1) := by decide +kernel
theorem dX3_look_268 : decode cX3_look 268 = .ok (.iaload, 1) := by decide +kernel
theorem dX3_look_269 : decode cX3_look 269 = .ok (.goto 19, 3) := by decide +kernel
theorem dX3_look_272 : decode cX3_look 272 = .ok (.aload_n 0, 1) := by decide +kernel
theorem dX3_look_273 : decode cX3_look 273 = .ok (.getfield 53, 3) := by decide +kernel
theorem dX3_look_276 : decode cX3_look 276 = .ok (.bipush 16, 2) := by decide +kernel
theorem dX3_look_278 : decode cX3_look 278 = .ok (.aload_n 0, 1) := by decide +kernel
theorem dX3_look_279 : decode cX3_look 279 = .ok (.getfield 92, 3) := by decide +kernel
theorem dX3_look_282 : decode cX3_look 282 = .ok (.iconst 1, 1) := by decide +kernel
theorem dX3_look_283 : decode cX3_look 283 = .ok (.isub, 1) := by decide +kernel
theorem dX3_look_284 : decode cX3_look 284 = .ok (.imul, 1) := by decide +kernel
theorem dX3_look_285 : decode cX3_look 285 = .ok (.iload_n 1, 1) := by decide +kernel
theorem dX3_look_286 : decode cX3_look 286 = .ok (.iadd, 1) := by decide +kernel
theorem dX3_look_287 : decode cX3_look 287 = .ok (.iaload, 1) := by decide +kernel
theorem dX3_look_288 : decode cX3_look 288 = .ok (.istore_n 2, 1) := by decide +kernel
theorem dX3_look_289 : decode cX3_look 289 = .ok (.aload_n 0, 1) := by decide +kernel
theorem dX3_look_290 : decode cX3_look 290 = .ok (.getfield 29, 3) := by decide +kernel
theorem dX3_look_293 : decode cX3_look 293 = .ok (.iload_n 1, 1) := by decide +kernel
theorem dX3_look_294 : decode cX3_look 294 = .ok (.iaload, 1) := by decide +kernel
theorem dX3_look_295 : decode cX3_look 295 = .ok (.bipush 9, 2) := by decide +kernel
theorem dX3_look_297 : decode cX3_look 297 = .ok (.if_icmp .le 8, 3) := by decide +kernel
theorem dX3_look_300 : decode cX3_look 300 = .ok (.bipush 9, 2) := by decide +kernel
theorem dX3_look_302 : decode cX3_look 302 = .ok (.goto 9, 3) := by decide +kernel
theorem dX3_look_305 : decode cX3_look 305 = .ok (.aload_n 0, 1) := by decide +kernel
theorem dX3_look_306 : decode cX3_look 306 = .ok (.getfield 29, 3) := by decide +kernel
theorem dX3_look_309 : decode cX3_look 309 = .ok (.iload_n 1, 1) := by decide +kernel
theorem dX3_look_310 : decode cX3_look 310 = .ok (.iaload, 1) := by decide +kernel
theorem dX3_look_311 : decode cX3_look 311 = .ok (.istore_n 3, 1) := by decide +kernel
theorem dX3_look_312 : decode cX3_look 312 = .ok (.iconst 0, 1) := by decide +kernel
theorem dX3_look_313 : decode cX3_look 313 = .ok (.istore 4, 2) := by decide +kernel
theorem dX3_look_315 : decode cX3_look 315 = .ok (.iconst 0, 1) := by decide +kernel
theorem dX3_look_316 : decode cX3_look 316 = .ok (.istore 5, 2) := by decide +kernel
theorem dX3_look_318 : decode cX3_look 318 = .ok (.aload_n 0, 1) := by decide +kernel
theorem dX3_look_319 : decode cX3_look 319 = .ok (.getfield 72, 3) := by decide +kernel
theorem dX3_look_322 : decode cX3_look 322 = .ok (.iconst 0, 1) := by decide +kernel
theorem dX3_look_323 : decode cX3_look 323 = .ok (.iconst 0, 1) := by decide +kernel
theorem dX3_look_324 : decode cX3_look 324 = .ok (.iload_n 2, 1) := by decide +kernel
theorem dX3_look_325 : decode cX3_look 325 = .ok (.iload_n 3, 1) := by decide +kernel
theorem dX3_look_326 : decode cX3_look 326 = .ok (.iconst 0, 1) := by decide +kernel
theorem dX3_look_327 : decode cX3_look 327 = .ok (.invokestatic 157, 3) := by decide +kernel
theorem dX3_look_330 : decode cX3_look 330 = .ok (.iaload, 1) := by decide +kernel
theorem dX3_look_331 : decode cX3_look 331 = .ok (.istore 6, 2) := by decide +kernel
theorem dX3_look_333 : decode cX3_look 333 = .ok (.iconst 0, 1) := by decide +kernel
theorem dX3_look_334 : decode cX3_look 334 = .ok (.istore 7, 2) := by decide +kernel
theorem dX3_look_336 : decode cX3_look 336 = .ok (.iload 7, 2) := by decide +kernel
theorem dX3_look_338 : decode cX3_look 338 = .ok (.aload_n 0, 1) := by decide +kernel
theorem dX3_look_339 : decode cX3_look 339 = .ok (.getfield 65, 3) := by decide +kernel
theorem dX3_look_342 : decode cX3_look 342 = .ok (.if_icmp .ge 142, 3) := by decide +kernel
theorem dX3_look_345 : decode cX3_look 345 = .ok (.iload 6, 2) := by decide +kernel
theorem dX3_look_347 : decode cX3_look 347 = .ok (.ldc 161, 2) := by decide +kernel
theorem dX3_look_349 : decode cX3_look 349 = .ok (.if_icmp .ge 135, 3) := by decide +kernel
theorem dX3_look_352 : decode cX3_look 352 = .ok (.iconst 0, 1) := by decide +kernel
theorem dX3_look_353 : decode cX3_look 353 = .ok (.istore 8, 2) := by decide +kernel
theorem dX3_look_355 : decode cX3_look 355 = .ok (.iload 8, 2) := by decide +kernel
theorem dX3_look_357 : decode cX3_look 357 = .ok (.iconst 2, 1) := by decide +kernel
theorem dX3_look_358 : decode cX3_look 358 = .ok (.if_icmp .ne 9, 3) := by decide +kernel
theorem dX3_look_361 : decode cX3_look 361 = .ok (.iload_n 3, 1) := by decide +kernel
theorem dX3_look_362 : decode cX3_look 362 = .ok (.bipush 9, 2) := by decide +kernel
theorem dX3_look_364 : decode cX3_look 364 = .ok (.if_icmp .eq 37, 3) := by decide +kernel
theorem dX3_look_367 : decode cX3_look 367 = .ok (.aload_n 0, 1) := by decide +kernel
theorem dX3_look_368 : decode cX3_look 368 = .ok (.iload_n 1, 1) := by decide +kernel
theorem dX3_look_369 : decode cX3_look 369 = .ok (.iload 7, 2) := by decide +kernel
theorem dX3_look_371 : decode cX3_look 371 = .ok (.iload 4, 2) := by decide +kernel
theorem dX3_look_373 : decode cX3_look 373 = .ok (.iload_n 2, 1) := by decide +kernel
theorem dX3_look_374 : decode cX3_look 374 = .ok (.iload_n 3, 1) := by decide +kernel
theorem dX3_look_375 : decode cX3_look 375 = .ok (.iload 5, 2) := by decide +kernel
theorem dX3_look_377 : decode cX3_look 377 = .ok (.iload 8, 2) := by decide +kernel
theorem dX3_look_379 : decode cX3_look 379 = .ok (.invokevirtual 168, 3) := by decide +kernel
theorem dX3_look_382 : decode cX3_look 382 = .ok (.aload_n 0, 1) := by decide +kernel
theorem dX3_look_383 : decode cX3_look 383 = .ok (.getfield 72, 3) := by decide +kernel
theorem dX3_look_386 : decode cX3_look 386 = .ok (.iload 7, 2) := by decide +kernel
theorem dX3_look_388 : decode cX3_look 388 = .ok (.iload 4, 2) := by decide +kernel
theorem dX3_look_390 : decode cX3_look 390 = .ok (.iload_n 2, 1) := by decide +kernel
theorem dX3_look_391 : decode cX3_look 391 = .ok (.iload_n 3, 1) := by decide +kernel
theorem dX3_look_392 : decode cX3_look 392 = .ok (.iload 5, 2) := by decide +kernel
theorem dX3_look_394 : decode cX3_look 394 = .ok (.invokestatic 157, 3) := by decide +kernel
theorem dX3_look_397 : decode cX3_look 397 = .ok (.iaload, 1) := by decide +kernel
theorem dX3_look_398 : decode cX3_look 398 = .ok (.if_icmp .eq 9, 3) := by decide +kernel
theorem dX3_look_401 : decode cX3_look 401 = .ok (.iinc 8 1, 3) := by decide +kernel
theorem dX3_look_404 : decode cX3_look 404 = .ok (.goto (-49), 3) := by decide +kernel
theorem dX3_look_407 : decode cX3_look 407 = .ok (.aload_n 0, 1) := by decide +kernel
theorem dX3_look_408 : decode cX3_look 408 = .ok (.getfield 75, 3) := by decide +kernel
theorem dX3_look_411 : decode cX3_look 411 = .ok (.iload 7, 2) := by decide +kernel
theorem dX3_look_413 : decode cX3_look 413 = .ok (.iload 8, 2) := by decide +kernel
theorem dX3_look_415 : decode cX3_look 415 = .ok (.iastore, 1) := by decide +kernel
theorem dX3_look_416 : decode cX3_look 416 = .ok (.iload 8, 2) := by decide +kernel
theorem dX3_look_418 : decode cX3_look 418 = .ok (.iconst 2, 1) := by decide +kernel
theorem dX3_look_419 : decode cX3_look 419 = .ok (.if_icmp .ne 9, 3) := by decide +kernel
theorem dX3_look_422 : decode cX3_look 422 = .ok (.iinc 3 1, 3) := by decide +kernel
theorem dX3_look_425 : decode cX3_look 425 = .ok (.goto 53, 3) := by decide +kernel
theorem dX3_look_428 : decode cX3_look 428 = .ok (.iload 4, 2) := by decide +kernel
theorem dX3_look_430 : decode cX3_look 430 = .ok (.iload 8, 2) := by decide +kernel
theorem dX3_look_432 : decode cX3_look 432 = .ok (.ifCond .ne 7, 3) := by decide +kernel
theorem dX3_look_435 : decode cX3_look 435 = .ok (.iconst 1, 1) := by decide +kernel
theorem dX3_look_436 : decode cX3_look 436 = .ok (.goto 4, 3) := by decide +kernel
theorem dX3_look_439 : decode cX3_look 439 = .ok (.iconst 3, 1) := by decide +kernel
theorem dX3_look_440 : decode cX3_look 440 = .ok (.iadd, 1) := by decide +kernel
theorem dX3_look_441 : decode cX3_look 441 = .ok (.iconst 4, 1) := by decide +kernel
theorem dX3_look_442 : decode cX3_look 442 = .ok (.irem, 1) := by decide +kernel
theorem dX3_look_443 : decode cX3_look 443 = .ok (.istore 4, 2) := by decide +kernel
theorem dX3_look_445 : decode cX3_look 445 = .ok (.aload_n 0, 1) := by decide +kernel
theorem dX3_look_446 : decode cX3_look 446 = .ok (.iload_n 1, 1) := by decide +kernel
theorem dX3_look_447 : decode cX3_look 447 = .ok (.iload 4, 2) := by decide +kernel
theorem dX3_look_449 : decode cX3_look 449 = .ok (.iload 8, 2) := by decide +kernel
theorem dX3_look_451 : decode cX3_look 451 = .ok (.invokevirtual 162, 3) := by decide +kernel
theorem dX3_look_454 : decode cX3_look 454 = .ok (.istore_n 2, 1) := by decide +kernel
theorem dX3_look_455 : decode cX3_look 455 = .ok (.iconst 0, 1) := by decide +kernel
theorem dX3_look_456 : decode cX3_look 456 = .ok (.istore_n 3, 1) := by decide +kernel
theorem dX3_look_457 : decode cX3_look 457 = .ok (.iload 5, 2) := by decide +kernel
theorem dX3_look_459 : decode cX3_look 459 = .ok (.iload 8, 2) := by decide +kernel
theorem dX3_look_461 : decode cX3_look 461 = .ok (.aload_n 0, 1) := by decide +kernel
theorem dX3_look_462 : decode cX3_look 462 = .ok (.getfield 20, 3) := by decide +kernel
theorem dX3_look_465 : decode cX3_look 465 = .ok (.iload_n 1, 1) := by decide +kernel
theorem dX3_look_466 : decode cX3_look 466 = .ok (.iaload, 1) := by decide +kernel
theorem dX3_look_467 : decode cX3_look 467 = .ok (.if_icmp .ne 7, 3) := by decide +kernel
theorem dX3_look_470 : decode cX3_look 470 = .ok (.iconst 1, 1) := by decide +kernel
theorem dX3_look_471 : decode cX3_look 471 = .ok (.goto 4, 3) := by decide +kernel
theorem dX3_look_474 : decode cX3_look 474 = .ok (.iconst (-1), 1) := by decide +kernel
theorem dX3_look_475 : decode cX3_look 475 = .ok (.iadd, 1) := by decide +kernel
theorem dX3_look_476 : decode cX3_look 476 = .ok (.istore 5, 2) := by decide +kernel
theorem dX3_look_478 : decode cX3_look 478 = .ok (.iinc 7 1, 3) := by decide +kernel
theorem dX3_look_481 : decode cX3_look 481 = .ok (.goto (-145), 3) := by decide +kernel
theorem dX3_look_484 : decode cX3_look 484 = .ok (.aload_n 0, 1) := by decide +kernel
theorem dX3_look_485 : decode cX3_look 485 = .ok (.aload_n 0, 1) := by decide +kernel
theorem dX3_look_486 : decode cX3_look 486 = .ok (.getfield 26, 3) := by decide +kernel
theorem dX3_look_489 : decode cX3_look 489 = .ok (.iload_n 1, 1) := by decide +kernel
theorem dX3_look_490 : decode cX3_look 490 = .ok (.iaload, 1) := by decide +kernel
theorem dX3_look_491 : decode cX3_look 491 = .ok (.iload 5, 2) := by decide +kernel
theorem dX3_look_493 : decode cX3_look 493 = .ok (.iadd, 1) := by decide +kernel
theorem dX3_look_494 : decode cX3_look 494 = .ok (.putfield 172, 3) := by decide +kernel
theorem dX3_look_497 : decode cX3_look 497 = .ok (.iload 6, 2) := by decide +kernel
theorem dX3_look_499 : decode cX3_look 499 = .ok (.ireturn, 1) := by decide +kernel
theorem dX3_idles_0 : decode cX3_idles 0 = .ok (.aload_n 0, 1) := by decide +kernel
theorem dX3_idles_1 : decode cX3_idles 1 = .ok (.iconst 0, 1) := by decide +kernel
theorem dX3_idles_2 : decode cX3_idles 2 = .ok (.putfield 85, 3) := by decide +kernel
theorem dX3_idles_5 : decode cX3_idles 5 = .ok (.aload_n 0, 1) := by decide +kernel
theorem dX3_idles_6 : decode cX3_idles 6 = .ok (.iload_n 1, 1) := by decide +kernel
theorem dX3_idles_7 : decode cX3_idles 7 = .ok (.invokevirtual 97, 3) := by decide +kernel
theorem dX3_idles_10 : decode cX3_idles 10 = .ok (.ifCond .eq 5, 3) := by decide +kernel
theorem dX3_idles_13 : decode cX3_idles 13 = .ok (.iconst (-1), 1) := by decide +kernel
theorem dX3_idles_14 : decode cX3_idles 14 = .ok (.ireturn, 1) := by decide +kernel
theorem dX3_idles_15 : decode cX3_idles 15 = .ok (.aload_n 0, 1) := by decide +kernel
theorem dX3_idles_16 : decode cX3_idles 16 = .ok (.iload_n 1, 1) := by decide +kernel
theorem dX3_idles_17 : decode cX3_idles 17 = .ok (.invokevirtual 175, 3) := by decide +kernel
theorem dX3_idles_20 : decode cX3_idles 20 = .ok (.istore_n 2, 1) := by decide +kernel
theorem dX3_idles_21 : decode cX3_idles 21 = .ok (.iload_n 2, 1) := by decide +kernel
theorem dX3_idles_22 : decode cX3_idles 22 = .ok (.ldc 161, 2) := by decide +kernel
theorem dX3_idles_24 : decode cX3_idles 24 = .ok (.if_icmp .ge 11, 3) := by decide +kernel
theorem dX3_idles_27 : decode cX3_idles 27 = .ok (.iload_n 2, 1) := by decide +kernel
theorem dX3_idles_28 : decode cX3_idles 28 = .ok (.sipush 1000, 3) := by decide +kernel
theorem dX3_idles_31 : decode cX3_idles 31 = .ok (.idiv, 1) := by decide +kernel
theorem dX3_idles_32 : decode cX3_idles 32 = .ok (.goto 5, 3) := by decide +kernel
theorem dX3_idles_35 : decode cX3_idles 35 = .ok (.bipush (-99), 2) := by decide +kernel
theorem dX3_idles_37 : decode cX3_idles 37 = .ok (.ireturn, 1) := by decide +kernel
theorem dX3_turning_0 : decode cX3_turning 0 = .ok (.aload_n 0, 1) := by decide +kernel
theorem dX3_turning_1 : decode cX3_turning 1 = .ok (.iconst 0, 1) := by decide +kernel
theorem dX3_turning_2 : decode cX3_turning 2 = .ok (.putfield 85, 3) := by decide +kernel
theorem dX3_turning_5 : decode cX3_turning 5 = .ok (.aload_n 0, 1) := by decide +kernel
theorem dX3_turning_6 : decode cX3_turning 6 = .ok (.iload_n 1, 1) := by decide +kernel
theorem dX3_turning_7 : decode cX3_turning 7 = .ok (.invokevirtual 97, 3) := by decide +kernel
theorem dX3_turning_10 : decode cX3_turning 10 = .ok (.ifCond .eq 5, 3) := by decide +kernel
theorem dX3_turning_13 : decode cX3_turning 13 = .ok (.iconst (-1), 1) := by decide +kernel
theorem dX3_turning_14 : decode cX3_turning 14 = .ok (.ireturn, 1) := by decide +kernel
theorem dX3_turning_15 : decode cX3_turning 15 = .ok (.iload_n 2, 1) := by decide +kernel
theorem dX3_turning_16 : decode cX3_turning 16 = .ok (.i2l, 1) := by decide +kernel
theorem dX3_turning_17 : decode cX3_turning 17 = .ok (.lconst 0, 1) := by decide +kernel
theorem dX3_turning_18 : decode cX3_turning 18 = .ok (.aload_n 0, 1) := by decide +kernel
theorem dX3_turning_19 : decode cX3_turning 19 = .ok (.getfield 65, 3) := by decide +kernel
theorem dX3_turning_22 : decode cX3_turning 22 = .ok (.iconst 1, 1) := by decide +kernel
theorem dX3_turning_23 : decode cX3_turning 23 = .ok (.isub, 1) := by decide +kernel
theorem dX3_turning_24 : decode cX3_turning 24 = .ok (.i2l, 1) := by decide +kernel
theorem dX3_turning_25 : decode cX3_turning 25 = .ok (.invokestatic 88, 3) := by decide +kernel
theorem dX3_turning_28 : decode cX3_turning 28 = .ok (.ifCond .ne 6, 3) := by decide +kernel
theorem dX3_turning_31 : decode cX3_turning 31 = .ok (.bipush (-2), 2) := by decide +kernel
theorem dX3_turning_33 : decode cX3_turning 33 = .ok (.ireturn, 1) := by decide +kernel
theorem dX3_turning_34 : decode cX3_turning 34 = .ok (.aload_n 0, 1) := by decide +kernel
theorem dX3_turning_35 : decode cX3_turning 35 = .ok (.iload_n 1, 1) := by decide +kernel
theorem dX3_turning_36 : decode cX3_turning 36 = .ok (.invokevirtual 175, 3) := by decide +kernel
theorem dX3_turning_39 : decode cX3_turning 39 = .ok (.ldc 161, 2) := by decide +kernel
theorem dX3_turning_41 : decode cX3_turning 41 = .ok (.if_icmp .ge 12, 3) := by decide +kernel
theorem dX3_turning_44 : decode cX3_turning 44 = .ok (.aload_n 0, 1) := by decide +kernel
theorem dX3_turning_45 : decode cX3_turning 45 = .ok (.getfield 75, 3) := by decide +kernel
theorem dX3_turning_48 : decode cX3_turning 48 = .ok (.iload_n 2, 1) := by decide +kernel
theorem dX3_turning_49 : decode cX3_turning 49 = .ok (.iaload, 1) := by decide +kernel
theorem dX3_turning_50 : decode cX3_turning 50 = .ok (.goto 5, 3) := by decide +kernel
theorem dX3_turning_53 : decode cX3_turning 53 = .ok (.bipush (-99), 2) := by decide +kernel
theorem dX3_turning_55 : decode cX3_turning 55 = .ok (.ireturn, 1) := by decide +kernel
theorem dX3_behind_0 : decode cX3_behind 0 = .ok (.aload_n 0, 1) := by decide +kernel
theorem dX3_behind_1 : decode cX3_behind 1 = .ok (.iconst 0, 1) := by decide +kernel
theorem dX3_behind_2 : decode cX3_behind 2 = .ok (.putfield 85, 3) := by decide +kernel
theorem dX3_behind_5 : decode cX3_behind 5 = .ok (.aload_n 0, 1) := by decide +kernel
theorem dX3_behind_6 : decode cX3_behind 6 = .ok (.iload_n 1, 1) := by decide +kernel
theorem dX3_behind_7 : decode cX3_behind 7 = .ok (.invokevirtual 97, 3) := by decide +kernel
theorem dX3_behind_10 : decode cX3_behind 10 = .ok (.ifCond .eq 5, 3) := by decide +kernel
theorem dX3_behind_13 : decode cX3_behind 13 = .ok (.iconst (-1), 1) := by decide +kernel
theorem dX3_behind_14 : decode cX3_behind 14 = .ok (.ireturn, 1) := by decide +kernel
theorem dX3_behind_15 : decode cX3_behind 15 = .ok (.aload_n 0, 1) := by decide +kernel
theorem dX3_behind_16 : decode cX3_behind 16 = .ok (.iload_n 1, 1) := by decide +kernel
theorem dX3_behind_17 : decode cX3_behind 17 = .ok (.invokevirtual 175, 3) := by decide +kernel
theorem dX3_behind_20 : decode cX3_behind 20 = .ok (.ldc 161, 2) := by decide +kernel
theorem dX3_behind_22 : decode cX3_behind 22 = .ok (.if_icmp .ge 13, 3) := by decide +kernel
theorem dX3_behind_25 : decode cX3_behind 25 = .ok (.aload_n 0, 1) := by decide +kernel
theorem dX3_behind_26 : decode cX3_behind 26 = .ok (.getfield 172, 3) := by decide +kernel
theorem dX3_behind_29 : decode cX3_behind 29 = .ok (.bipush 100, 2) := by decide +kernel
theorem dX3_behind_31 : decode cX3_behind 31 = .ok (.iadd, 1) := by decide +kernel
theorem dX3_behind_32 : decode cX3_behind 32 = .ok (.goto 5, 3) := by decide +kernel
theorem dX3_behind_35 : decode cX3_behind 35 = .ok (.bipush (-99), 2) := by decide +kernel
theorem dX3_behind_37 : decode cX3_behind 37 = .ok (.ireturn, 1) := by decide +kernel
theorem dX3_weave_0 : decode cX3_weave 0 = .ok (.aload_n 0, 1) := by decide +kernel
theorem dX3_weave_1 : decode cX3_weave 1 = .ok (.iconst 0, 1) := by decide +kernel
theorem dX3_weave_2 : decode cX3_weave 2 = .ok (.putfield 85, 3) := by decide +kernel
theorem dX3_weave_5 : decode cX3_weave 5 = .ok (.iconst 0, 1) := by decide +kernel
theorem dX3_weave_6 : decode cX3_weave 6 = .ok (.istore_n 1, 1) := by decide +kernel
theorem dX3_weave_7 : decode cX3_weave 7 = .ok (.iload_n 1, 1) := by decide +kernel
theorem dX3_weave_8 : decode cX3_weave 8 = .ok (.aload_n 0, 1) := by decide +kernel
theorem dX3_weave_9 : decode cX3_weave 9 = .ok (.getfield 7, 3) := by decide +kernel
theorem dX3_weave_12 : decode cX3_weave 12 = .ok (.if_icmp .ge 55, 3) := by decide +kernel
theorem dX3_weave_15 : decode cX3_weave 15 = .ok (.aload_n 0, 1) := by decide +kernel
theorem dX3_weave_16 : decode cX3_weave 16 = .ok (.iload_n 1, 1) := by decide +kernel
theorem dX3_weave_17 : decode cX3_weave 17 = .ok (.invokevirtual 175, 3) := by decide +kernel
theorem dX3_weave_20 : decode cX3_weave 20 = .ok (.ldc 161, 2) := by decide +kernel
theorem dX3_weave_22 : decode cX3_weave 22 = .ok (.if_icmp .ne 6, 3) := by decide +kernel
theorem dX3_weave_25 : decode cX3_weave 25 = .ok (.bipush (-99), 2) := by decide +kernel
theorem dX3_weave_27 : decode cX3_weave 27 = .ok (.ireturn, 1) := by decide +kernel
theorem dX3_weave_28 : decode cX3_weave 28 = .ok (.iconst 0, 1) := by decide +kernel
theorem dX3_weave_29 : decode cX3_weave 29 = .ok (.istore_n 2, 1) := by decide +kernel
theorem dX3_weave_30 : decode cX3_weave 30 = .ok (.iload_n 2, 1) := by decide +kernel
theorem dX3_weave_31 : decode cX3_weave 31 = .ok (.aload_n 0, 1) := by decide +kernel
theorem dX3_weave_32 : decode cX3_weave 32 = .ok (.getfield 65, 3) := by decide +kernel
theorem dX3_weave_35 : decode cX3_weave 35 = .ok (.if_icmp .ge 26, 3) := by decide +kernel
theorem dX3_weave_38 : decode cX3_weave 38 = .ok (.aload_n 0, 1) := by decide +kernel
theorem dX3_weave_39 : decode cX3_weave 39 = .ok (.getfield 78, 3) := by decide +kernel
theorem dX3_weave_42 : decode cX3_weave 42 = .ok (.bipush 16, 2) := by decide +kernel
theorem dX3_weave_44 : decode cX3_weave 44 = .ok (.iload_n 2, 1) := by decide +kernel
theorem dX3_weave_45 : decode cX3_weave 45 = .ok (.imul, 1) := by decide +kernel
theorem dX3_weave_46 : decode cX3_weave 46 = .ok (.iload_n 1, 1) := by decide +kernel
theorem dX3_weave_47 : decode cX3_weave 47 = .ok (.iadd, 1) := by decide +kernel
theorem dX3_weave_48 : decode cX3_weave 48 = .ok (.aload_n 0, 1) := by decide +kernel
theorem dX3_weave_49 : decode cX3_weave 49 = .ok (.getfield 75, 3) := by decide +kernel
theorem dX3_weave_52 : decode cX3_weave 52 = .ok (.iload_n 2, 1) := by decide +kernel
theorem dX3_weave_53 : decode cX3_weave 53 = .ok (.iaload, 1) := by decide +kernel
theorem dX3_weave_54 : decode cX3_weave 54 = .ok (.iastore, 1) := by decide +kernel
theorem dX3_weave_55 : decode cX3_weave 55 = .ok (.iinc 2 1, 3) := by decide +kernel
theorem dX3_weave_58 : decode cX3_weave 58 = .ok (.goto (-28), 3) := by decide +kernel
theorem dX3_weave_61 : decode cX3_weave 61 = .ok (.iinc 1 1, 3) := by decide +kernel
theorem dX3_weave_64 : decode cX3_weave 64 = .ok (.goto (-57), 3) := by decide +kernel
theorem dX3_weave_67 : decode cX3_weave 67 = .ok (.aload_n 0, 1) := by decide +kernel
theorem dX3_weave_68 : decode cX3_weave 68 = .ok (.getfield 92, 3) := by decide +kernel
theorem dX3_weave_71 : decode cX3_weave 71 = .ok (.aload_n 0, 1) := by decide +kernel
theorem dX3_weave_72 : decode cX3_weave 72 = .ok (.getfield 65, 3) := by decide +kernel
theorem dX3_weave_75 : decode cX3_weave 75 = .ok (.iadd, 1) := by decide +kernel
theorem dX3_weave_76 : decode cX3_weave 76 = .ok (.bipush 60, 2) := by decide +kernel
theorem dX3_weave_78 : decode cX3_weave 78 = .ok (.if_icmp .le 6, 3) := by decide +kernel
theorem dX3_weave_81 : decode cX3_weave 81 = .ok (.bipush (-4), 2) := by decide +kernel
theorem dX3_weave_83 : decode cX3_weave 83 = .ok (.ireturn, 1) := by decide +kernel
theorem dX3_weave_84 : decode cX3_weave 84 = .ok (.iconst 0, 1) := by decide +kernel
theorem dX3_weave_85 : decode cX3_weave 85 = .ok (.istore_n 1, 1) := by decide +kernel
theorem dX3_weave_86 : decode cX3_weave 86 = .ok (.iload_n 1, 1) := by decide +kernel
theorem dX3_weave_87 : decode cX3_weave 87 = .ok (.aload_n 0, 1) := by decide +kernel
theorem dX3_weave_88 : decode cX3_weave 88 = .ok (.getfield 65, 3) := by decide +kernel
theorem dX3_weave_91 : decode cX3_weave 91 = .ok (.if_icmp .ge 51, 3) := by decide +kernel
theorem dX3_weave_94 : decode cX3_weave 94 = .ok (.iconst 0, 1) := by decide +kernel
theorem dX3_weave_95 : decode cX3_weave 95 = .ok (.istore_n 2, 1) := by decide +kernel
theorem dX3_weave_96 : decode cX3_weave 96 = .ok (.iload_n 2, 1) := by decide +kernel
theorem dX3_weave_97 : decode cX3_weave 97 = .ok (.aload_n 0, 1) := by decide +kernel
theorem dX3_weave_98 : decode cX3_weave 98 = .ok (.getfield 7, 3) := by decide +kernel
theorem dX3_weave_101 : decode cX3_weave 101 = .ok (.if_icmp .ge 25, 3) := by decide +kernel
theorem dX3_weave_104 : decode cX3_weave 104 = .ok (.aload_n 0, 1) := by decide +kernel
theorem dX3_weave_105 : decode cX3_weave 105 = .ok (.iload_n 2, 1) := by decide +kernel
theorem dX3_weave_106 : decode cX3_weave 106 = .ok (.aload_n 0, 1) := by decide +kernel
theorem dX3_weave_107 : decode cX3_weave 107 = .ok (.getfield 78, 3) := by decide +kernel
theorem dX3_weave_110 : decode cX3_weave 110 = .ok (.bipush 16, 2) := by decide +kernel
theorem dX3_weave_112 : decode cX3_weave 112 = .ok (.iload_n 1, 1) := by decide +kernel
theorem dX3_weave_113 : decode cX3_weave 113 = .ok (.imul, 1) := by decide +kernel
theorem dX3_weave_114 : decode cX3_weave 114 = .ok (.iload_n 2, 1) := by decide +kernel
theorem dX3_weave_115 : decode cX3_weave 115 = .ok (.iadd, 1) := by decide +kernel
theorem dX3_weave_116 : decode cX3_weave 116 = .ok (.iaload, 1) := by decide +kernel
theorem dX3_weave_117 : decode cX3_weave 117 = .ok (.invokevirtual 112, 3) := by decide +kernel
theorem dX3_weave_120 : decode cX3_weave 120 = .ok (.iinc 2 1, 3) := by decide +kernel
theorem dX3_weave_123 : decode cX3_weave 123 = .ok (.goto (-27), 3) := by decide +kernel
theorem dX3_weave_126 : decode cX3_weave 126 = .ok (.aload_n 0, 1) := by decide +kernel
theorem dX3_weave_127 : decode cX3_weave 127 = .ok (.dup, 1) := by decide +kernel
theorem dX3_weave_128 : decode cX3_weave 128 = .ok (.getfield 92, 3) := by decide +kernel
theorem dX3_weave_131 : decode cX3_weave 131 = .ok (.iconst 1, 1) := by decide +kernel
theorem dX3_weave_132 : decode cX3_weave 132 = .ok (.iadd, 1) := by decide +kernel
theorem dX3_weave_133 : decode cX3_weave 133 = .ok (.putfield 92, 3) := by decide +kernel
theorem dX3_weave_136 : decode cX3_weave 136 = .ok (.iinc 1 1, 3) := by decide +kernel
theorem dX3_weave_139 : decode cX3_weave 139 = .ok (.goto (-53), 3) := by decide +kernel
theorem dX3_weave_142 : decode cX3_weave 142 = .ok (.aload_n 0, 1) := by decide +kernel
theorem dX3_weave_143 : decode cX3_weave 143 = .ok (.getfield 92, 3) := by decide +kernel
theorem dX3_weave_146 : decode cX3_weave 146 = .ok (.ireturn, 1) := by decide +kernel
theorem dX3_quarrelOf_0 : decode cX3_quarrelOf 0 = .ok (.iconst 0, 1) := by decide +kernel
theorem dX3_quarrelOf_1 : decode cX3_quarrelOf 1 = .ok (.istore_n 2, 1) := by decide +kernel
theorem dX3_quarrelOf_2 : decode cX3_quarrelOf 2 = .ok (.iload_n 2, 1) := by decide +kernel
theorem dX3_quarrelOf_3 : decode cX3_quarrelOf 3 = .ok (.aload_n 0, 1) := by decide +kernel
theorem dX3_quarrelOf_4 : decode cX3_quarrelOf 4 = .ok (.invokevirtual 150, 3) := by decide +kernel
theorem dX3_quarrelOf_7 : decode cX3_quarrelOf 7 = .ok (.if_icmp .ge 118, 3) := by decide +kernel
theorem dX3_quarrelOf_10 : decode cX3_quarrelOf 10 = .ok (.iconst 0, 1) := by decide +kernel
theorem dX3_quarrelOf_11 : decode cX3_quarrelOf 11 = .ok (.istore_n 3, 1) := by decide +kernel
theorem dX3_quarrelOf_12 : decode cX3_quarrelOf 12 = .ok (.iload_n 3, 1) := by decide +kernel
theorem dX3_quarrelOf_13 : decode cX3_quarrelOf 13 = .ok (.iload_n 2, 1) := by decide +kernel
theorem dX3_quarrelOf_14 : decode cX3_quarrelOf 14 = .ok (.if_icmp .ge 105, 3) := by decide +kernel
theorem dX3_quarrelOf_17 : decode cX3_quarrelOf 17 = .ok (.aload_n 0, 1) := by decide +kernel
theorem dX3_quarrelOf_18 : decode cX3_quarrelOf 18 = .ok (.getfield 53, 3) := by decide +kernel
theorem dX3_quarrelOf_21 : decode cX3_quarrelOf 21 = .ok (.bipush 16, 2) := by decide +kernel
theorem dX3_quarrelOf_23 : decode cX3_quarrelOf 23 = .ok (.iload_n 2, 1) := by decide +kernel
theorem dX3_quarrelOf_24 : decode cX3_quarrelOf 24 = .ok (.imul, 1) := by decide +kernel
theorem dX3_quarrelOf_25 : decode cX3_quarrelOf 25 = .ok (.iload_n 1, 1) := by decide +kernel
theorem dX3_quarrelOf_26 : decode cX3_quarrelOf 26 = .ok (.iadd, 1) := by decide +kernel
theorem dX3_quarrelOf_27 : decode cX3_quarrelOf 27 = .ok (.iaload, 1) := by decide +kernel
theorem dX3_quarrelOf_28 : decode cX3_quarrelOf 28 = .ok (.aload_n 0, 1) := by decide +kernel
theorem dX3_quarrelOf_29 : decode cX3_quarrelOf 29 = .ok (.getfield 53, 3) := by decide +kernel
theorem dX3_quarrelOf_32 : decode cX3_quarrelOf 32 = .ok (.bipush 16, 2) := by decide +kernel
theorem dX3_quarrelOf_34 : decode cX3_quarrelOf 34 = .ok (.iload_n 3, 1) := by decide +kernel
theorem dX3_quarrelOf_35 : decode cX3_quarrelOf 35 = .ok (.imul, 1) := by decide +kernel
theorem dX3_quarrelOf_36 : decode cX3_quarrelOf 36 = .ok (.iload_n 1, 1) := by decide +kernel
theorem dX3_quarrelOf_37 : decode cX3_quarrelOf 37 = .ok (.iadd, 1) := by decide +kernel
theorem dX3_quarrelOf_38 : decode cX3_quarrelOf 38 = .ok (.iaload, 1) := by decide +kernel
theorem dX3_quarrelOf_39 : decode cX3_quarrelOf 39 = .ok (.if_icmp .ne 39, 3) := by decide +kernel
theorem dX3_quarrelOf_42 : decode cX3_quarrelOf 42 = .ok (.aload_n 0, 1) := by decide +kernel
theorem dX3_quarrelOf_43 : decode cX3_quarrelOf 43 = .ok (.getfield 62, 3) := by decide +kernel
theorem dX3_quarrelOf_46 : decode cX3_quarrelOf 46 = .ok (.bipush 16, 2) := by decide +kernel
theorem dX3_quarrelOf_48 : decode cX3_quarrelOf 48 = .ok (.iload_n 2, 1) := by decide +kernel
theorem dX3_quarrelOf_49 : decode cX3_quarrelOf 49 = .ok (.imul, 1) := by decide +kernel
theorem dX3_quarrelOf_50 : decode cX3_quarrelOf 50 = .ok (.iload_n 1, 1) := by decide +kernel
theorem dX3_quarrelOf_51 : decode cX3_quarrelOf 51 = .ok (.iadd, 1) := by decide +kernel
theorem dX3_quarrelOf_52 : decode cX3_quarrelOf 52 = .ok (.iaload, 1) := by decide +kernel
theorem dX3_quarrelOf_53 : decode cX3_quarrelOf 53 = .ok (.bipush (-99), 2) := by decide +kernel
theorem dX3_quarrelOf_55 : decode cX3_quarrelOf 55 = .ok (.if_icmp .eq 23, 3) := by decide +kernel
theorem dX3_quarrelOf_58 : decode cX3_quarrelOf 58 = .ok (.aload_n 0, 1) := by decide +kernel
theorem dX3_quarrelOf_59 : decode cX3_quarrelOf 59 = .ok (.getfield 62, 3) := by decide +kernel
theorem dX3_quarrelOf_62 : decode cX3_quarrelOf 62 = .ok (.bipush 16, 2) := by decide +kernel
theorem dX3_quarrelOf_64 : decode cX3_quarrelOf 64 = .ok (.iload_n 3, 1) := by decide +kernel
theorem dX3_quarrelOf_65 : decode cX3_quarrelOf 65 = .ok (.imul, 1) := by decide +kernel
theorem dX3_quarrelOf_66 : decode cX3_quarrelOf 66 = .ok (.iload_n 1, 1) := by decide +kernel
theorem dX3_quarrelOf_67 : decode cX3_quarrelOf 67 = .ok (.iadd, 1) := by decide +kernel
theorem dX3_quarrelOf_68 : decode cX3_quarrelOf 68 = .ok (.iaload, 1) := by decide +kernel
theorem dX3_quarrelOf_69 : decode cX3_quarrelOf 69 = .ok (.bipush (-99), 2) := by decide +kernel
theorem dX3_quarrelOf_71 : decode cX3_quarrelOf 71 = .ok (.if_icmp .eq 7, 3) := by decide +kernel
theorem dX3_quarrelOf_74 : decode cX3_quarrelOf 74 = .ok (.iconst 1, 1) := by decide +kernel
theorem dX3_quarrelOf_75 : decode cX3_quarrelOf 75 = .ok (.goto 4, 3) := by decide +kernel
theorem dX3_quarrelOf_78 : decode cX3_quarrelOf 78 = .ok (.iconst 0, 1) := by decide +kernel
theorem dX3_quarrelOf_79 : decode cX3_quarrelOf 79 = .ok (.istore 4, 2) := by decide +kernel
theorem dX3_quarrelOf_81 : decode cX3_quarrelOf 81 = .ok (.iload 4, 2) := by decide +kernel
theorem dX3_quarrelOf_83 : decode cX3_quarrelOf 83 = .ok (.ifCond .eq 30, 3) := by decide +kernel
theorem dX3_quarrelOf_86 : decode cX3_quarrelOf 86 = .ok (.aload_n 0, 1) := by decide +kernel
theorem dX3_quarrelOf_87 : decode cX3_quarrelOf 87 = .ok (.getfield 62, 3) := by decide +kernel
theorem dX3_quarrelOf_90 : decode cX3_quarrelOf 90 = .ok (.bipush 16, 2) := by decide +kernel
theorem dX3_quarrelOf_92 : decode cX3_quarrelOf 92 = .ok (.iload_n 2, 1) := by decide +kernel
theorem dX3_quarrelOf_93 : decode cX3_quarrelOf 93 = .ok (.imul, 1) := by decide +kernel
theorem dX3_quarrelOf_94 : decode cX3_quarrelOf 94 = .ok (.iload_n 1, 1) := by decide +kernel
theorem dX3_quarrelOf_95 : decode cX3_quarrelOf 95 = .ok (.iadd, 1) := by decide +kernel
theorem dX3_quarrelOf_96 : decode cX3_quarrelOf 96 = .ok (.iaload, 1) := by decide +kernel
theorem dX3_quarrelOf_97 : decode cX3_quarrelOf 97 = .ok (.aload_n 0, 1) := by decide +kernel
theorem dX3_quarrelOf_98 : decode cX3_quarrelOf 98 = .ok (.getfield 62, 3) := by decide +kernel
theorem dX3_quarrelOf_101 : decode cX3_quarrelOf 101 = .ok (.bipush 16, 2) := by decide +kernel
theorem dX3_quarrelOf_103 : decode cX3_quarrelOf 103 = .ok (.iload_n 3, 1) := by decide +kernel
theorem dX3_quarrelOf_104 : decode cX3_quarrelOf 104 = .ok (.imul, 1) := by decide +kernel
theorem dX3_quarrelOf_105 : decode cX3_quarrelOf 105 = .ok (.iload_n 1, 1) := by decide +kernel
theorem dX3_quarrelOf_106 : decode cX3_quarrelOf 106 = .ok (.iadd, 1) := by decide +kernel
theorem dX3_quarrelOf_107 : decode cX3_quarrelOf 107 = .ok (.iaload, 1) := by decide +kernel
theorem dX3_quarrelOf_108 : decode cX3_quarrelOf 108 = .ok (.if_icmp .eq 5, 3) := by decide +kernel
theorem dX3_quarrelOf_111 : decode cX3_quarrelOf 111 = .ok (.iload_n 2, 1) := by decide +kernel
theorem dX3_quarrelOf_112 : decode cX3_quarrelOf 112 = .ok (.ireturn, 1) := by decide +kernel
theorem dX3_quarrelOf_113 : decode cX3_quarrelOf 113 = .ok (.iinc 3 1, 3) := by decide +kernel
theorem dX3_quarrelOf_116 : decode cX3_quarrelOf 116 = .ok (.goto (-104), 3) := by decide +kernel
theorem dX3_quarrelOf_119 : decode cX3_quarrelOf 119 = .ok (.iinc 2 1, 3) := by decide +kernel
theorem dX3_quarrelOf_122 : decode cX3_quarrelOf 122 = .ok (.goto (-120), 3) := by decide +kernel
theorem dX3_quarrelOf_125 : decode cX3_quarrelOf 125 = .ok (.bipush (-99), 2) := by decide +kernel
theorem dX3_quarrelOf_127 : decode cX3_quarrelOf 127 = .ok (.ireturn, 1) := by decide +kernel
theorem dX3_threading_0 : decode cX3_threading 0 = .ok (.aload_n 0, 1) := by decide +kernel
theorem dX3_threading_1 : decode cX3_threading 1 = .ok (.iconst 0, 1) := by decide +kernel
theorem dX3_threading_2 : decode cX3_threading 2 = .ok (.putfield 85, 3) := by decide +kernel
theorem dX3_threading_5 : decode cX3_threading 5 = .ok (.aload_n 0, 1) := by decide +kernel
theorem dX3_threading_6 : decode cX3_threading 6 = .ok (.iload_n 1, 1) := by decide +kernel
theorem dX3_threading_7 : decode cX3_threading 7 = .ok (.invokevirtual 97, 3) := by decide +kernel
theorem dX3_threading_10 : decode cX3_threading 10 = .ok (.ifCond .ne 15, 3) := by decide +kernel
theorem dX3_threading_13 : decode cX3_threading 13 = .ok (.iload_n 2, 1) := by decide +kernel
theorem dX3_threading_14 : decode cX3_threading 14 = .ok (.i2l, 1) := by decide +kernel
theorem dX3_threading_15 : decode cX3_threading 15 = .ok (.lconst 0, 1) := by decide +kernel
theorem dX3_threading_16 : decode cX3_threading 16 = .ok (.ldc2_w 101, 3) := by decide +kernel
theorem dX3_threading_19 : decode cX3_threading 19 = .ok (.invokestatic 88, 3) := by decide +kernel
theorem dX3_threading_22 : decode cX3_threading 22 = .ok (.ifCond .ne 5, 3) := by decide +kernel
theorem dX3_threading_25 : decode cX3_threading 25 = .ok (.iconst (-1), 1) := by decide +kernel
theorem dX3_threading_26 : decode cX3_threading 26 = .ok (.ireturn, 1) := by decide +kernel
theorem dX3_threading_27 : decode cX3_threading 27 = .ok (.aload_n 0, 1) := by decide +kernel
theorem dX3_threading_28 : decode cX3_threading 28 = .ok (.iload_n 1, 1) := by decide +kernel
theorem dX3_threading_29 : decode cX3_threading 29 = .ok (.invokevirtual 178, 3) := by decide +kernel
theorem dX3_threading_32 : decode cX3_threading 32 = .ok (.bipush (-99), 2) := by decide +kernel
theorem dX3_threading_34 : decode cX3_threading 34 = .ok (.if_icmp .eq 6, 3) := by decide +kernel
theorem dX3_threading_37 : decode cX3_threading 37 = .ok (.bipush (-3), 2) := by decide +kernel
theorem dX3_threading_39 : decode cX3_threading 39 = .ok (.ireturn, 1) := by decide +kernel
theorem dX3_threading_40 : decode cX3_threading 40 = .ok (.bipush (-99), 2) := by decide +kernel
theorem dX3_threading_42 : decode cX3_threading 42 = .ok (.istore_n 3, 1) := by decide +kernel
theorem dX3_threading_43 : decode cX3_threading 43 = .ok (.iconst 0, 1) := by decide +kernel
theorem dX3_threading_44 : decode cX3_threading 44 = .ok (.istore 4, 2) := by decide +kernel
theorem dX3_threading_46 : decode cX3_threading 46 = .ok (.iload 4, 2) := by decide +kernel
theorem dX3_threading_48 : decode cX3_threading 48 = .ok (.aload_n 0, 1) := by decide +kernel
theorem dX3_threading_49 : decode cX3_threading 49 = .ok (.invokevirtual 150, 3) := by decide +kernel
theorem dX3_threading_52 : decode cX3_threading 52 = .ok (.if_icmp .ge 59, 3) := by decide +kernel
theorem dX3_threading_55 : decode cX3_threading 55 = .ok (.aload_n 0, 1) := by decide +kernel
theorem dX3_threading_56 : decode cX3_threading 56 = .ok (.getfield 53, 3) := by decide +kernel
theorem dX3_threading_59 : decode cX3_threading 59 = .ok (.bipush 16, 2) := by decide +kernel
theorem dX3_threading_61 : decode cX3_threading 61 = .ok (.iload 4, 2) := by decide +kernel
theorem dX3_threading_63 : decode cX3_threading 63 = .ok (.imul, 1) := by decide +kernel
theorem dX3_threading_64 : decode cX3_threading 64 = .ok (.iload_n 1, 1) := by decide +kernel
theorem dX3_threading_65 : decode cX3_threading 65 = .ok (.iadd, 1) := by decide +kernel
theorem dX3_threading_66 : decode cX3_threading 66 = .ok (.iaload, 1) := by decide +kernel
theorem dX3_threading_67 : decode cX3_threading 67 = .ok (.iload_n 2, 1) := by decide +kernel
theorem dX3_threading_68 : decode cX3_threading 68 = .ok (.if_icmp .ne 35, 3) := by decide +kernel
theorem dX3_threading_71 : decode cX3_threading 71 = .ok (.aload_n 0, 1) := by decide +kernel
theorem dX3_threading_72 : decode cX3_threading 72 = .ok (.getfield 62, 3) := by decide +kernel
theorem dX3_threading_75 : decode cX3_threading 75 = .ok (.bipush 16, 2) := by decide +kernel
theorem dX3_threading_77 : decode cX3_threading 77 = .ok (.iload 4, 2) := by decide +kernel
theorem dX3_threading_79 : decode cX3_threading 79 = .ok (.imul, 1) := by decide +kernel
theorem dX3_threading_80 : decode cX3_threading 80 = .ok (.iload_n 1, 1) := by decide +kernel
theorem dX3_threading_81 : decode cX3_threading 81 = .ok (.iadd, 1) := by decide +kernel
theorem dX3_threading_82 : decode cX3_threading 82 = .ok (.iaload, 1) := by decide +kernel
theorem dX3_threading_83 : decode cX3_threading 83 = .ok (.bipush (-99), 2) := by decide +kernel
theorem dX3_threading_85 : decode cX3_threading 85 = .ok (.if_icmp .eq 18, 3) := by decide +kernel
theorem dX3_threading_88 : decode cX3_threading 88 = .ok (.aload_n 0, 1) := by decide +kernel
theorem dX3_threading_89 : decode cX3_threading 89 = .ok (.getfield 62, 3) := by decide +kernel
theorem dX3_threading_92 : decode cX3_threading 92 = .ok (.bipush 16, 2) := by decide +kernel
theorem dX3_threading_94 : decode cX3_threading 94 = .ok (.iload 4, 2) := by decide +kernel
theorem dX3_threading_96 : decode cX3_threading 96 = .ok (.imul, 1) := by decide +kernel
theorem dX3_threading_97 : decode cX3_threading 97 = .ok (.iload_n 1, 1) := by decide +kernel
theorem dX3_threading_98 : decode cX3_threading 98 = .ok (.iadd, 1) := by decide +kernel
theorem dX3_threading_99 : decode cX3_threading 99 = .ok (.iaload, 1) := by decide +kernel
theorem dX3_threading_100 : decode cX3_threading 100 = .ok (.goto 4, 3) := by decide +kernel
theorem dX3_threading_103 : decode cX3_threading 103 = .ok (.iload_n 3, 1) := by decide +kernel
theorem dX3_threading_104 : decode cX3_threading 104 = .ok (.istore_n 3, 1) := by decide +kernel
theorem dX3_threading_105 : decode cX3_threading 105 = .ok (.iinc 4 1, 3) := by decide +kernel
theorem dX3_threading_108 : decode cX3_threading 108 = .ok (.goto (-62), 3) := by decide +kernel
theorem dX3_threading_111 : decode cX3_threading 111 = .ok (.iload_n 3, 1) := by decide +kernel
theorem dX3_threading_112 : decode cX3_threading 112 = .ok (.ireturn, 1) := by decide +kernel
theorem dX3_quarrel_0 : decode cX3_quarrel 0 = .ok (.aload_n 0, 1) := by decide +kernel
theorem dX3_quarrel_1 : decode cX3_quarrel 1 = .ok (.iconst 0, 1) := by decide +kernel
theorem dX3_quarrel_2 : decode cX3_quarrel 2 = .ok (.putfield 85, 3) := by decide +kernel
theorem dX3_quarrel_5 : decode cX3_quarrel 5 = .ok (.aload_n 0, 1) := by decide +kernel
theorem dX3_quarrel_6 : decode cX3_quarrel 6 = .ok (.iload_n 1, 1) := by decide +kernel
theorem dX3_quarrel_7 : decode cX3_quarrel 7 = .ok (.invokevirtual 97, 3) := by decide +kernel
theorem dX3_quarrel_10 : decode cX3_quarrel 10 = .ok (.ifCond .eq 7, 3) := by decide +kernel
theorem dX3_quarrel_13 : decode cX3_quarrel 13 = .ok (.iconst (-1), 1) := by decide +kernel
theorem dX3_quarrel_14 : decode cX3_quarrel 14 = .ok (.goto 8, 3) := by decide +kernel
theorem dX3_quarrel_17 : decode cX3_quarrel 17 = .ok (.aload_n 0, 1) := by decide +kernel
theorem dX3_quarrel_18 : decode cX3_quarrel 18 = .ok (.iload_n 1, 1) := by decide +kernel
theorem dX3_quarrel_19 : decode cX3_quarrel 19 = .ok (.invokevirtual 178, 3) := by decide +kernel
theorem dX3_quarrel_22 : decode cX3_quarrel 22 = .ok (.ireturn, 1) := by decide +kernel
theorem dX3_would_0 : decode cX3_would 0 = .ok (.iconst 0, 1) := by decide +kernel
theorem dX3_would_1 : decode cX3_would 1 = .ok (.istore 4, 2) := by decide +kernel
theorem dX3_would_3 : decode cX3_would 3 = .ok (.iconst 0, 1) := by decide +kernel
theorem dX3_would_4 : decode cX3_would 4 = .ok (.istore 5, 2) := by decide +kernel
theorem dX3_would_6 : decode cX3_would 6 = .ok (.iconst 1, 1) := by decide +kernel
theorem dX3_would_7 : decode cX3_would 7 = .ok (.istore 6, 2) := by decide +kernel
theorem dX3_would_9 : decode cX3_would 9 = .ok (.iconst 0, 1) := by decide +kernel
theorem dX3_would_10 : decode cX3_would 10 = .ok (.istore 7, 2) := by decide +kernel
theorem dX3_would_12 : decode cX3_would 12 = .ok (.iload 7, 2) := by decide +kernel
theorem dX3_would_14 : decode cX3_would 14 = .ok (.aload_n 0, 1) := by decide +kernel
theorem dX3_would_15 : decode cX3_would 15 = .ok (.invokevirtual 150, 3) := by decide +kernel
theorem dX3_would_18 : decode cX3_would 18 = .ok (.if_icmp .ge 117, 3) := by decide +kernel
theorem dX3_would_21 : decode cX3_would 21 = .ok (.iload 7, 2) := by decide +kernel
theorem dX3_would_23 : decode cX3_would 23 = .ok (.iload_n 2, 1) := by decide +kernel
theorem dX3_would_24 : decode cX3_would 24 = .ok (.if_icmp .ne 7, 3) := by decide +kernel
theorem dX3_would_27 : decode cX3_would 27 = .ok (.iload_n 3, 1) := by decide +kernel
theorem dX3_would_28 : decode cX3_would 28 = .ok (.goto 15, 3) := by decide +kernel
theorem dX3_would_31 : decode cX3_would 31 = .ok (.aload_n 0, 1) := by decide +kernel
theorem dX3_would_32 : decode cX3_would 32 = .ok (.getfield 50, 3) := by decide +kernel
theorem dX3_would_35 : decode cX3_would 35 = .ok (.bipush 16, 2) := by decide +kernel
theorem dX3_would_37 : decode cX3_would 37 = .ok (.iload 7, 2) := by decide +kernel
theorem dX3_would_39 : decode cX3_would 39 = .ok (.imul, 1) := by decide +kernel
theorem dX3_would_40 : decode cX3_would 40 = .ok (.iload_n 1, 1) := by decide +kernel
theorem dX3_would_41 : decode cX3_would 41 = .ok (.iadd, 1) := by decide +kernel
theorem dX3_would_42 : decode cX3_would 42 = .ok (.iaload, 1) := by decide +kernel
theorem dX3_would_43 : decode cX3_would 43 = .ok (.istore 8, 2) := by decide +kernel
theorem dX3_would_45 : decode cX3_would 45 = .ok (.iload 8, 2) := by decide +kernel
theorem dX3_would_47 : decode cX3_would 47 = .ok (.iconst 2, 1) := by decide +kernel
theorem dX3_would_48 : decode cX3_would 48 = .ok (.if_icmp .ne 19, 3) := by decide +kernel
theorem dX3_would_51 : decode cX3_would 51 = .ok (.iload 7, 2) := by decide +kernel
theorem dX3_would_53 : decode cX3_would 53 = .ok (.ifCond .ne 7, 3) := by decide +kernel
theorem dX3_would_56 : decode cX3_would 56 = .ok (.iconst 0, 1) := by decide +kernel
theorem dX3_would_57 : decode cX3_would 57 = .ok (.goto 5, 3) := by decide +kernel
theorem dX3_would_60 : decode cX3_would 60 = .ok (.iload 5, 2) := by decide +kernel
theorem dX3_would_62 : decode cX3_would 62 = .ok (.istore 5, 2) := by decide +kernel
theorem dX3_would_64 : decode cX3_would 64 = .ok (.goto 32, 3) := by decide +kernel
theorem dX3_would_67 : decode cX3_would 67 = .ok (.iload 4, 2) := by decide +kernel
theorem dX3_would_69 : decode cX3_would 69 = .ok (.iload 8, 2) := by decide +kernel
theorem dX3_would_71 : decode cX3_would 71 = .ok (.ifCond .ne 7, 3) := by decide +kernel
theorem dX3_would_74 : decode cX3_would 74 = .ok (.iconst 1, 1) := by decide +kernel
theorem dX3_would_75 : decode cX3_would 75 = .ok (.goto 4, 3) := by decide +kernel
theorem dX3_would_78 : decode cX3_would 78 = .ok (.iconst 3, 1) := by decide +kernel
theorem dX3_would_79 : decode cX3_would 79 = .ok (.iadd, 1) := by decide +kernel
theorem dX3_would_80 : decode cX3_would 80 = .ok (.iconst 4, 1) := by decide +kernel
theorem dX3_would_81 : decode cX3_would 81 = .ok (.irem, 1) := by decide +kernel
theorem dX3_would_82 : decode cX3_would 82 = .ok (.istore 4, 2) := by decide +kernel
theorem dX3_would_84 : decode cX3_would 84 = .ok (.iload 8, 2) := by decide +kernel
theorem dX3_would_86 : decode cX3_would 86 = .ok (.bipush 8, 2) := by decide +kernel
theorem dX3_would_88 : decode cX3_would 88 = .ok (.iadd, 1) := by decide +kernel
theorem dX3_would_89 : decode cX3_would 89 = .ok (.iload 4, 2) := by decide +kernel
theorem dX3_would_91 : decode cX3_would 91 = .ok (.isub, 1) := by decide +kernel
theorem dX3_would_92 : decode cX3_would 92 = .ok (.iconst 4, 1) := by decide +kernel
theorem dX3_would_93 : decode cX3_would 93 = .ok (.irem, 1) := by decide +kernel
theorem dX3_would_94 : decode cX3_would 94 = .ok (.istore 5, 2) := by decide +kernel
theorem dX3_would_96 : decode cX3_would 96 = .ok (.iload 6, 2) := by decide +kernel
theorem dX3_would_98 : decode cX3_would 98 = .ok (.ifCond .eq 28, 3) := by decide +kernel
theorem dX3_would_101 : decode cX3_would 101 = .ok (.aload_n 0, 1) := by decide +kernel
theorem dX3_would_102 : decode cX3_would 102 = .ok (.iload 7, 2) := by decide +kernel
theorem dX3_would_104 : decode cX3_would 104 = .ok (.iload_n 1, 1) := by decide +kernel
theorem dX3_would_105 : decode cX3_would 105 = .ok (.aload_n 0, 1) := by decide +kernel
theorem dX3_would_106 : decode cX3_would 106 = .ok (.getfield 13, 3) := by decide +kernel
theorem dX3_would_109 : decode cX3_would 109 = .ok (.iconst 4, 1) := by decide +kernel
theorem dX3_would_110 : decode cX3_would 110 = .ok (.iload_n 1, 1) := by decide +kernel
theorem dX3_would_111 : decode cX3_would 111 = .ok (.imul, 1) := by decide +kernel
theorem dX3_would_112 : decode cX3_would 112 = .ok (.iload 5, 2) := by decide +kernel
theorem dX3_would_114 : decode cX3_would 114 = .ok (.iadd, 1) := by decide +kernel
theorem dX3_would_115 : decode cX3_would 115 = .ok (.iaload, 1) := by decide +kernel
theorem dX3_would_116 : decode cX3_would 116 = .ok (.invokevirtual 154, 3) := by decide +kernel
theorem dX3_would_119 : decode cX3_would 119 = .ok (.ifCond .eq 7, 3) := by decide +kernel
theorem dX3_would_122 : decode cX3_would 122 = .ok (.iconst 1, 1) := by decide +kernel
theorem dX3_would_123 : decode cX3_would 123 = .ok (.goto 4, 3) := by decide +kernel
theorem dX3_would_126 : decode cX3_would 126 = .ok (.iconst 0, 1) := by decide +kernel
theorem dX3_would_127 : decode cX3_would 127 = .ok (.istore 6, 2) := by decide +kernel
theorem dX3_would_129 : decode cX3_would 129 = .ok (.iinc 7 1, 3) := by decide +kernel
theorem dX3_would_132 : decode cX3_would 132 = .ok (.goto (-120), 3) := by decide +kernel
theorem dX3_would_135 : decode cX3_would 135 = .ok (.iload 6, 2) := by decide +kernel
theorem dX3_would_137 : decode cX3_would 137 = .ok (.ireturn, 1) := by decide +kernel
theorem dX3_wrongOf_0 : decode cX3_wrongOf 0 = .ok (.iconst 0, 1) := by decide +kernel
theorem dX3_wrongOf_1 : decode cX3_wrongOf 1 = .ok (.istore 4, 2) := by decide +kernel
theorem dX3_wrongOf_3 : decode cX3_wrongOf 3 = .ok (.iconst 0, 1) := by decide +kernel
theorem dX3_wrongOf_4 : decode cX3_wrongOf 4 = .ok (.istore 5, 2) := by decide +kernel
theorem dX3_wrongOf_6 : decode cX3_wrongOf 6 = .ok (.iload 5, 2) := by decide +kernel
theorem dX3_wrongOf_8 : decode cX3_wrongOf 8 = .ok (.aload_n 0, 1) := by decide +kernel
theorem dX3_wrongOf_9 : decode cX3_wrongOf 9 = .ok (.invokevirtual 150, 3) := by decide +kernel
theorem dX3_wrongOf_12 : decode cX3_wrongOf 12 = .ok (.if_icmp .ge 75, 3) := by decide +kernel
theorem dX3_wrongOf_15 : decode cX3_wrongOf 15 = .ok (.iconst 0, 1) := by decide +kernel
theorem dX3_wrongOf_16 : decode cX3_wrongOf 16 = .ok (.istore 6, 2) := by decide +kernel
theorem dX3_wrongOf_18 : decode cX3_wrongOf 18 = .ok (.iload 6, 2) := by decide +kernel
theorem dX3_wrongOf_20 : decode cX3_wrongOf 20 = .ok (.iconst 3, 1) := by decide +kernel
theorem dX3_wrongOf_21 : decode cX3_wrongOf 21 = .ok (.if_icmp .ge 60, 3) := by decide +kernel
theorem dX3_wrongOf_24 : decode cX3_wrongOf 24 = .ok (.iload 6, 2) := by decide +kernel
theorem dX3_wrongOf_26 : decode cX3_wrongOf 26 = .ok (.aload_n 0, 1) := by decide +kernel
theorem dX3_wrongOf_27 : decode cX3_wrongOf 27 = .ok (.getfield 50, 3) := by decide +kernel
theorem dX3_wrongOf_30 : decode cX3_wrongOf 30 = .ok (.bipush 16, 2) := by decide +kernel
theorem dX3_wrongOf_32 : decode cX3_wrongOf 32 = .ok (.iload 5, 2) := by decide +kernel
theorem dX3_wrongOf_34 : decode cX3_wrongOf 34 = .ok (.imul, 1) := by decide +kernel
theorem dX3_wrongOf_35 : decode cX3_wrongOf 35 = .ok (.iload_n 1, 1) := by decide +kernel
theorem dX3_wrongOf_36 : decode cX3_wrongOf 36 = .ok (.iadd, 1) := by decide +kernel
theorem dX3_wrongOf_37 : decode cX3_wrongOf 37 = .ok (.iaload, 1) := by decide +kernel
theorem dX3_wrongOf_38 : decode cX3_wrongOf 38 = .ok (.if_icmp .eq 37, 3) := by decide +kernel
theorem dX3_wrongOf_41 : decode cX3_wrongOf 41 = .ok (.aload_n 0, 1) := by decide +kernel
theorem dX3_wrongOf_42 : decode cX3_wrongOf 42 = .ok (.iload_n 1, 1) := by decide +kernel
theorem dX3_wrongOf_43 : decode cX3_wrongOf 43 = .ok (.iload 5, 2) := by decide +kernel
theorem dX3_wrongOf_45 : decode cX3_wrongOf 45 = .ok (.iload 6, 2) := by decide +kernel
theorem dX3_wrongOf_47 : decode cX3_wrongOf 47 = .ok (.invokevirtual 181, 3) := by decide +kernel
theorem dX3_wrongOf_50 : decode cX3_wrongOf 50 = .ok (.ifCond .eq 25, 3) := by decide +kernel
theorem dX3_wrongOf_53 : decode cX3_wrongOf 53 = .ok (.iload 4, 2) := by decide +kernel
theorem dX3_wrongOf_55 : decode cX3_wrongOf 55 = .ok (.iload_n 2, 1) := by decide +kernel
theorem dX3_wrongOf_56 : decode cX3_wrongOf 56 = .ok (.if_icmp .ne 16, 3) := by decide +kernel
theorem dX3_wrongOf_59 : decode cX3_wrongOf 59 = .ok (.iload_n 3, 1) := by decide +kernel
theorem dX3_wrongOf_60 : decode cX3_wrongOf 60 = .ok (.ifCond .ne 12, 3) := by decide +kernel
theorem dX3_wrongOf_63 : decode cX3_wrongOf 63 = .ok (.bipush 10, 2) := by decide +kernel
theorem dX3_wrongOf_65 : decode cX3_wrongOf 65 = .ok (.iload 5, 2) := by decide +kernel
theorem dX3_wrongOf_67 : decode cX3_wrongOf 67 = .ok (.imul, 1) := by decide +kernel
theorem dX3_wrongOf_68 : decode cX3_wrongOf 68 = .ok (.iload 6, 2) := by decide +kernel
theorem dX3_wrongOf_70 : decode cX3_wrongOf 70 = .ok (.iadd, 1) := by decide +kernel
theorem dX3_wrongOf_71 : decode cX3_wrongOf 71 = .ok (.ireturn, 1) := by decide +kernel
theorem dX3_wrongOf_72 : decode cX3_wrongOf 72 = .ok (.iinc 4 1, 3) := by decide +kernel
theorem dX3_wrongOf_75 : decode cX3_wrongOf 75 = .ok (.iinc 6 1, 3) := by decide +kernel
theorem dX3_wrongOf_78 : decode cX3_wrongOf 78 = .ok (.goto (-60), 3) := by decide +kernel
theorem dX3_wrongOf_81 : decode cX3_wrongOf 81 = .ok (.iinc 5 1, 3) := by decide +kernel
theorem dX3_wrongOf_84 : decode cX3_wrongOf 84 = .ok (.goto (-78), 3) := by decide +kernel
theorem dX3_wrongOf_87 : decode cX3_wrongOf 87 = .ok (.iload_n 3, 1) := by decide +kernel
theorem dX3_wrongOf_88 : decode cX3_wrongOf 88 = .ok (.ifCond .eq 8, 3) := by decide +kernel
theorem dX3_wrongOf_91 : decode cX3_wrongOf 91 = .ok (.iload 4, 2) := by decide +kernel
theorem dX3_wrongOf_93 : decode cX3_wrongOf 93 = .ok (.goto 5, 3) := by decide +kernel
theorem dX3_wrongOf_96 : decode cX3_wrongOf 96 = .ok (.bipush (-99), 2) := by decide +kernel
theorem dX3_wrongOf_98 : decode cX3_wrongOf 98 = .ok (.ireturn, 1) := by decide +kernel
theorem dX3_wrongs_0 : decode cX3_wrongs 0 = .ok (.aload_n 0, 1) := by decide +kernel
theorem dX3_wrongs_1 : decode cX3_wrongs 1 = .ok (.iconst 0, 1) := by decide +kernel
theorem dX3_wrongs_2 : decode cX3_wrongs 2 = .ok (.putfield 85, 3) := by decide +kernel
theorem dX3_wrongs_5 : decode cX3_wrongs 5 = .ok (.aload_n 0, 1) := by decide +kernel
theorem dX3_wrongs_6 : decode cX3_wrongs 6 = .ok (.iload_n 1, 1) := by decide +kernel
theorem dX3_wrongs_7 : decode cX3_wrongs 7 = .ok (.invokevirtual 97, 3) := by decide +kernel
theorem dX3_wrongs_10 : decode cX3_wrongs 10 = .ok (.ifCond .eq 5, 3) := by decide +kernel
theorem dX3_wrongs_13 : decode cX3_wrongs 13 = .ok (.iconst (-1), 1) := by decide +kernel
theorem dX3_wrongs_14 : decode cX3_wrongs 14 = .ok (.ireturn, 1) := by decide +kernel
theorem dX3_wrongs_15 : decode cX3_wrongs 15 = .ok (.aload_n 0, 1) := by decide +kernel
theorem dX3_wrongs_16 : decode cX3_wrongs 16 = .ok (.getfield 32, 3) := by decide +kernel
theorem dX3_wrongs_19 : decode cX3_wrongs 19 = .ok (.iload_n 1, 1) := by decide +kernel
theorem dX3_wrongs_20 : decode cX3_wrongs 20 = .ok (.iaload, 1) := by decide +kernel
theorem dX3_wrongs_21 : decode cX3_wrongs 21 = .ok (.ifCond .le 8, 3) := by decide +kernel
theorem dX3_wrongs_24 : decode cX3_wrongs 24 = .ok (.bipush (-3), 2) := by decide +kernel
theorem dX3_wrongs_26 : decode cX3_wrongs 26 = .ok (.goto 10, 3) := by decide +kernel
theorem dX3_wrongs_29 : decode cX3_wrongs 29 = .ok (.aload_n 0, 1) := by decide +kernel
theorem dX3_wrongs_30 : decode cX3_wrongs 30 = .ok (.iload_n 1, 1) := by decide +kernel
theorem dX3_wrongs_31 : decode cX3_wrongs 31 = .ok (.iconst 0, 1) := by decide +kernel
theorem dX3_wrongs_32 : decode cX3_wrongs 32 = .ok (.iconst 1, 1) := by decide +kernel
theorem dX3_wrongs_33 : decode cX3_wrongs 33 = .ok (.invokevirtual 184, 3) := by decide +kernel
theorem dX3_wrongs_36 : decode cX3_wrongs 36 = .ok (.ireturn, 1) := by decide +kernel
theorem dX3_wrong_0 : decode cX3_wrong 0 = .ok (.aload_n 0, 1) := by decide +kernel
theorem dX3_wrong_1 : decode cX3_wrong 1 = .ok (.iconst 0, 1) := by decide +kernel
theorem dX3_wrong_2 : decode cX3_wrong 2 = .ok (.putfield 85, 3) := by decide +kernel
theorem dX3_wrong_5 : decode cX3_wrong 5 = .ok (.aload_n 0, 1) := by decide +kernel
theorem dX3_wrong_6 : decode cX3_wrong 6 = .ok (.iload_n 1, 1) := by decide +kernel
theorem dX3_wrong_7 : decode cX3_wrong 7 = .ok (.invokevirtual 97, 3) := by decide +kernel
theorem dX3_wrong_10 : decode cX3_wrong 10 = .ok (.ifCond .eq 5, 3) := by decide +kernel
theorem dX3_wrong_13 : decode cX3_wrong 13 = .ok (.iconst (-1), 1) := by decide +kernel
theorem dX3_wrong_14 : decode cX3_wrong 14 = .ok (.ireturn, 1) := by decide +kernel
theorem dX3_wrong_15 : decode cX3_wrong 15 = .ok (.aload_n 0, 1) := by decide +kernel
theorem dX3_wrong_16 : decode cX3_wrong 16 = .ok (.getfield 32, 3) := by decide +kernel
theorem dX3_wrong_19 : decode cX3_wrong 19 = .ok (.iload_n 1, 1) := by decide +kernel
theorem dX3_wrong_20 : decode cX3_wrong 20 = .ok (.iaload, 1) := by decide +kernel
theorem dX3_wrong_21 : decode cX3_wrong 21 = .ok (.ifCond .le 8, 3) := by decide +kernel
theorem dX3_wrong_24 : decode cX3_wrong 24 = .ok (.bipush (-3), 2) := by decide +kernel
theorem dX3_wrong_26 : decode cX3_wrong 26 = .ok (.goto 10, 3) := by decide +kernel
theorem dX3_wrong_29 : decode cX3_wrong 29 = .ok (.aload_n 0, 1) := by decide +kernel
theorem dX3_wrong_30 : decode cX3_wrong 30 = .ok (.iload_n 1, 1) := by decide +kernel
theorem dX3_wrong_31 : decode cX3_wrong 31 = .ok (.iload_n 2, 1) := by decide +kernel
theorem dX3_wrong_32 : decode cX3_wrong 32 = .ok (.iconst 0, 1) := by decide +kernel
theorem dX3_wrong_33 : decode cX3_wrong 33 = .ok (.invokevirtual 184, 3) := by decide +kernel
theorem dX3_wrong_36 : decode cX3_wrong 36 = .ok (.ireturn, 1) := by decide +kernel
theorem dX3_count_0 : decode cX3_count 0 = .ok (.aload_n 0, 1) := by decide +kernel
theorem dX3_count_1 : decode cX3_count 1 = .ok (.iconst 0, 1) := by decide +kernel
theorem dX3_count_2 : decode cX3_count 2 = .ok (.putfield 85, 3) := by decide +kernel
theorem dX3_count_5 : decode cX3_count 5 = .ok (.iconst 0, 1) := by decide +kernel
theorem dX3_count_6 : decode cX3_count 6 = .ok (.istore_n 2, 1) := by decide +kernel
theorem dX3_count_7 : decode cX3_count 7 = .ok (.iconst 0, 1) := by decide +kernel
theorem dX3_count_8 : decode cX3_count 8 = .ok (.istore_n 3, 1) := by decide +kernel
theorem dX3_count_9 : decode cX3_count 9 = .ok (.iconst 0, 1) := by decide +kernel
theorem dX3_count_10 : decode cX3_count 10 = .ok (.istore 4, 2) := by decide +kernel
theorem dX3_count_12 : decode cX3_count 12 = .ok (.iconst 0, 1) := by decide +kernel
theorem dX3_count_13 : decode cX3_count 13 = .ok (.istore 5, 2) := by decide +kernel
theorem dX3_count_15 : decode cX3_count 15 = .ok (.iload 5, 2) := by decide +kernel
theorem dX3_count_17 : decode cX3_count 17 = .ok (.aload_n 0, 1) := by decide +kernel
theorem dX3_count_18 : decode cX3_count 18 = .ok (.getfield 7, 3) := by decide +kernel
theorem dX3_count_21 : decode cX3_count 21 = .ok (.if_icmp .ge 95, 3) := by decide +kernel
theorem dX3_count_24 : decode cX3_count 24 = .ok (.iload_n 3, 1) := by decide +kernel
theorem dX3_count_25 : decode cX3_count 25 = .ok (.aload_n 0, 1) := by decide +kernel
theorem dX3_count_26 : decode cX3_count 26 = .ok (.getfield 20, 3) := by decide +kernel
theorem dX3_count_29 : decode cX3_count 29 = .ok (.iload 5, 2) := by decide +kernel
theorem dX3_count_31 : decode cX3_count 31 = .ok (.iaload, 1) := by decide +kernel
theorem dX3_count_32 : decode cX3_count 32 = .ok (.iadd, 1) := by decide +kernel
theorem dX3_count_33 : decode cX3_count 33 = .ok (.istore_n 3, 1) := by decide +kernel
theorem dX3_count_34 : decode cX3_count 34 = .ok (.iconst 0, 1) := by decide +kernel
theorem dX3_count_35 : decode cX3_count 35 = .ok (.istore 6, 2) := by decide +kernel
theorem dX3_count_37 : decode cX3_count 37 = .ok (.iload 6, 2) := by decide +kernel
theorem dX3_count_39 : decode cX3_count 39 = .ok (.iconst 4, 1) := by decide +kernel
theorem dX3_count_40 : decode cX3_count 40 = .ok (.if_icmp .ge 28, 3) := by decide +kernel
theorem dX3_count_43 : decode cX3_count 43 = .ok (.iload 4, 2) := by decide +kernel
theorem dX3_count_45 : decode cX3_count 45 = .ok (.iconst 1, 1) := by decide +kernel
theorem dX3_count_46 : decode cX3_count 46 = .ok (.aload_n 0, 1) := by decide +kernel
theorem dX3_count_47 : decode cX3_count 47 = .ok (.getfield 13, 3) := by decide +kernel
theorem dX3_count_50 : decode cX3_count 50 = .ok (.iconst 4, 1) := by decide +kernel
theorem dX3_count_51 : decode cX3_count 51 = .ok (.iload 5, 2) := by decide +kernel
theorem dX3_count_53 : decode cX3_count 53 = .ok (.imul, 1) := by decide +kernel
theorem dX3_count_54 : decode cX3_count 54 = .ok (.iload 6, 2) := by decide +kernel
theorem dX3_count_56 : decode cX3_count 56 = .ok (.iadd, 1) := by decide +kernel
theorem dX3_count_57 : decode cX3_count 57 = .ok (.iaload, 1) := by decide +kernel
theorem dX3_count_58 : decode cX3_count 58 = .ok (.ishl, 1) := by decide +kernel
theorem dX3_count_59 : decode cX3_count 59 = .ok (.ior, 1) := by decide +kernel
theorem dX3_count_60 : decode cX3_count 60 = .ok (.istore 4, 2) := by decide +kernel
theorem dX3_count_62 : decode cX3_count 62 = .ok (.iinc 6 1, 3) := by decide +kernel
theorem dX3_count_65 : decode cX3_count 65 = .ok (.goto (-28), 3) := by decide +kernel
theorem dX3_count_68 : decode cX3_count 68 = .ok (.iconst 0, 1) := by decide +kernel
theorem dX3_count_69 : decode cX3_count 69 = .ok (.istore 6, 2) := by decide +kernel
theorem dX3_count_71 : decode cX3_count 71 = .ok (.iload 6, 2) := by decide +kernel
theorem dX3_count_73 : decode cX3_count 73 = .ok (.bipush 30, 2) := by decide +kernel
theorem dX3_count_75 : decode cX3_count 75 = .ok (.if_icmp .ge 35, 3) := by decide +kernel
theorem dX3_count_78 : decode cX3_count 78 = .ok (.iload_n 2, 1) := by decide +kernel
theorem dX3_count_79 : decode cX3_count 79 = .ok (.aload_n 0, 1) := by decide +kernel
theorem dX3_count_80 : decode cX3_count 80 = .ok (.getfield 62, 3) := by decide +kernel
theorem dX3_count_83 : decode cX3_count 83 = .ok (.bipush 16, 2) := by decide +kernel
theorem dX3_count_85 : decode cX3_count 85 = .ok (.iload 6, 2) := by decide +kernel
theorem dX3_count_87 : decode cX3_count 87 = .ok (.imul, 1) := by decide +kernel
theorem dX3_count_88 : decode cX3_count 88 = .ok (.iload 5, 2) := by decide +kernel
theorem dX3_count_90 : decode cX3_count 90 = .ok (.iadd, 1) := by decide +kernel
theorem dX3_count_91 : decode cX3_count 91 = .ok (.iaload, 1) := by decide +kernel
theorem dX3_count_92 : decode cX3_count 92 = .ok (.bipush (-99), 2) := by decide +kernel
theorem dX3_count_94 : decode cX3_count 94 = .ok (.if_icmp .ne 7, 3) := by decide +kernel
theorem dX3_count_97 : decode cX3_count 97 = .ok (.iconst 0, 1) := by decide +kernel
theorem dX3_count_98 : decode cX3_count 98 = .ok (.goto 4, 3) := by decide +kernel
theorem dX3_count_101 : decode cX3_count 101 = .ok (.iconst 1, 1) := by decide +kernel
theorem dX3_count_102 : decode cX3_count 102 = .ok (.iadd, 1) := by decide +kernel
theorem dX3_count_103 : decode cX3_count 103 = .ok (.istore_n 2, 1) := by decide +kernel
theorem dX3_count_104 : decode cX3_count 104 = .ok (.iinc 6 1, 3) := by decide +kernel
theorem dX3_count_107 : decode cX3_count 107 = .ok (.goto (-36), 3) := by decide +kernel
theorem dX3_count_110 : decode cX3_count 110 = .ok (.iinc 5 1, 3) := by decide +kernel
theorem dX3_count_113 : decode cX3_count 113 = .ok (.goto (-98), 3) := by decide +kernel
theorem dX3_count_116 : decode cX3_count 116 = .ok (.iconst 0, 1) := by decide +kernel
theorem dX3_count_117 : decode cX3_count 117 = .ok (.istore 5, 2) := by decide +kernel
theorem dX3_count_119 : decode cX3_count 119 = .ok (.iconst 0, 1) := by decide +kernel
theorem dX3_count_120 : decode cX3_count 120 = .ok (.istore 6, 2) := by decide +kernel
theorem dX3_count_122 : decode cX3_count 122 = .ok (.iload 6, 2) := by decide +kernel
theorem dX3_count_124 : decode cX3_count 124 = .ok (.bipush 8, 2) := by decide +kernel
theorem dX3_count_126 : decode cX3_count 126 = .ok (.if_icmp .ge 21, 3) := by decide +kernel
theorem dX3_count_129 : decode cX3_count 129 = .ok (.iload 5, 2) := by decide +kernel
theorem dX3_count_131 : decode cX3_count 131 = .ok (.iload 4, 2) := by decide +kernel
theorem dX3_count_133 : decode cX3_count 133 = .ok (.iload 6, 2) := by decide +kernel
theorem dX3_count_135 : decode cX3_count 135 = .ok (.ishr, 1) := by decide +kernel
theorem dX3_count_136 : decode cX3_count 136 = .ok (.iconst 1, 1) := by decide +kernel
theorem dX3_count_137 : decode cX3_count 137 = .ok (.iand, 1) := by decide +kernel
theorem dX3_count_138 : decode cX3_count 138 = .ok (.iadd, 1) := by decide +kernel
theorem dX3_count_139 : decode cX3_count 139 = .ok (.istore 5, 2) := by decide +kernel
theorem dX3_count_141 : decode cX3_count 141 = .ok (.iinc 6 1, 3) := by decide +kernel
theorem dX3_count_144 : decode cX3_count 144 = .ok (.goto (-22), 3) := by decide +kernel
theorem dX3_count_147 : decode cX3_count 147 = .ok (.iload_n 1, 1) := by decide +kernel
theorem dX3_count_148 : decode cX3_count 148 = .ok (.tableswitch 53 0 4 #[36, 41, 46, 48, 50], 36) := by decide +kernel
theorem dX3_count_184 : decode cX3_count 184 = .ok (.aload_n 0, 1) := by decide +kernel
theorem dX3_count_185 : decode cX3_count 185 = .ok (.getfield 7, 3) := by decide +kernel
theorem dX3_count_188 : decode cX3_count 188 = .ok (.ireturn, 1) := by decide +kernel
theorem dX3_count_189 : decode cX3_count 189 = .ok (.aload_n 0, 1) := by decide +kernel
theorem dX3_count_190 : decode cX3_count 190 = .ok (.getfield 92, 3) := by decide +kernel
theorem dX3_count_193 : decode cX3_count 193 = .ok (.ireturn, 1) := by decide +kernel
theorem dX3_count_194 : decode cX3_count 194 = .ok (.iload_n 2, 1) := by decide +kernel
theorem dX3_count_195 : decode cX3_count 195 = .ok (.ireturn, 1) := by decide +kernel
theorem dX3_count_196 : decode cX3_count 196 = .ok (.iload_n 3, 1) := by decide +kernel
theorem dX3_count_197 : decode cX3_count 197 = .ok (.ireturn, 1) := by decide +kernel
theorem dX3_count_198 : decode cX3_count 198 = .ok (.iload 5, 2) := by decide +kernel
theorem dX3_count_200 : decode cX3_count 200 = .ok (.ireturn, 1) := by decide +kernel
theorem dX3_count_201 : decode cX3_count 201 = .ok (.bipush (-2), 2) := by decide +kernel
theorem dX3_count_203 : decode cX3_count 203 = .ok (.ireturn, 1) := by decide +kernel
end
section
/-! BASE: ints by their values, a walk that hides heap and locals (GG), contracts that name answer and world. -/
def iI (z : Int) : Int32 := Int32.ofInt z
abbrev ok32 (z : Int) : Prop := -2147483648 ≤ z ∧ z ≤ 2147483647
theorem iI_toInt {z : Int} (h : ok32 z) : (iI z).toInt = z := Int32.toInt_ofInt_of_le (by have := h.1; omega) (by have := h.2; omega)
theorem iI_of (x : Int32) : x = iI x.toInt := (Int32.ofInt_toInt x).symm
theorem ok_toInt (x : Int32) : ok32 x.toInt := ⟨by have := Int32.le_toInt x; omega, by have := Int32.toInt_lt x; omega⟩
theorem iI_add (a b : Int) : iI a + iI b = iI (a + b) := (Int32.ofInt_add a b).symm
theorem iI_sub (a b : Int) : iI a - iI b = iI (a - b) := (Int32.ofInt_sub a b).symm
theorem iI_mul (a b : Int) : iI a * iI b = iI (a * b) := (Int32.ofInt_mul a b).symm
theorem iI_neg (a : Int) : -iI a = iI (-a) := (Int32.ofInt_neg a).symm
theorem iI_lt {a b : Int} (ha : ok32 a) (hb : ok32 b) : iI a < iI b ↔ a < b := by rw [Int32.lt_iff_toInt_lt, iI_toInt ha, iI_toInt hb]
theorem iI_le {a b : Int} (ha : ok32 a) (hb : ok32 b) : iI a ≤ iI b ↔ a ≤ b := by rw [Int32.le_iff_toInt_le, iI_toInt ha, iI_toInt hb]
theorem iI_eq {a b : Int} (ha : ok32 a) (hb : ok32 b) : iI a = iI b ↔ a = b := by rw [← Int32.toInt_inj, iI_toInt ha, iI_toInt hb]
theorem iI_z : iI 0 = 0 := rfl
theorem ok_z : ok32 0 := by decide
theorem iI_clamp {z : Int} (h : ok32 z) : (iI z).toNatClampNeg = z.toNat := by
  show (iI z).toInt.toNat = _
  rw [iI_toInt h]
theorem iI_in {z : Int} {n : Nat} (h0 : 0 ≤ z) (h1 : z < (n : Int)) (h2 : z ≤ 2147483647) : vp_in (iI z) n := by
  rw [vp_in_iff, iI_toInt ⟨by omega, h2⟩]
  exact ⟨h0, h1⟩
def zi_and (a b : Int) : Int := (iI a &&& iI b).toInt
def zi_or (a b : Int) : Int := (iI a ||| iI b).toInt
def zi_xor (a b : Int) : Int := (iI a ^^^ iI b).toInt
def zi_shl (a b : Int) : Int := (iI a <<< (iI b &&& 31)).toInt
def zi_shr (a b : Int) : Int := (iI a >>> (iI b &&& 31)).toInt
theorem ok_and (a b : Int) : ok32 (zi_and a b) := ok_toInt _
theorem ok_or (a b : Int) : ok32 (zi_or a b) := ok_toInt _
theorem ok_xor (a b : Int) : ok32 (zi_xor a b) := ok_toInt _
theorem ok_shl (a b : Int) : ok32 (zi_shl a b) := ok_toInt _
theorem ok_shr (a b : Int) : ok32 (zi_shr a b) := ok_toInt _
theorem iI_div {a b : Int} (ha : 0 ≤ a) (ha2 : a ≤ 2147483647) (hb : 0 < b) (hb2 : b ≤ 2147483647) : iI a / iI b = iI (a / b) := by
  apply Int32.toInt_inj.mp
  have hd : a / b ≤ a := Int.ediv_le_self b ha
  have hd0 : 0 ≤ a / b := Int.ediv_nonneg ha (by omega)
  rw [Int32.toInt_div_of_ne_left, iI_toInt ⟨by omega, ha2⟩, iI_toInt ⟨by omega, hb2⟩, iI_toInt ⟨by omega, by omega⟩, Int.tdiv_eq_ediv_of_nonneg ha]
  intro h
  have h2 := congrArg Int32.toInt h
  rw [iI_toInt ⟨by omega, ha2⟩] at h2
  have h3 : Int32.minValue.toInt = -2147483648 := by decide
  omega
theorem iI_rem {a b : Int} (ha : 0 ≤ a) (ha2 : a ≤ 2147483647) (hb : 0 < b) (hb2 : b ≤ 2147483647) : iI a - iI a / iI b * iI b = iI (a % b) := by
  rw [iI_div ha ha2 hb hb2, iI_mul, iI_sub]
  congr 1
  have := Int.emod_add_mul_ediv a b
  have h2 : a / b * b = b * (a / b) := Int.mul_comm _ _
  omega
theorem iI_ne0 {b : Int} (hb : 0 < b) (hb2 : b ≤ 2147483647) : ¬ iI b = 0 := by
  rw [← iI_z, iI_eq ⟨by omega, hb2⟩ ok_z]
  omega
/-- arrays by functions on Int -/
def ia (g : Int → Int) : Nat → Int32 := fun j => iI (g (j : Int))
def la (g : Int → Int64) : Nat → Int64 := fun j => g (j : Int)
def iu {α : Type} (g : Int → α) (z : Int) (v : α) : Int → α := fun j => if j = z then v else g j
theorem iu_same {α : Type} (g : Int → α) (z : Int) (v : α) : iu g z v z = v := if_pos rfl
theorem iu_ne {α : Type} (g : Int → α) {z j : Int} (v : α) (h : j ≠ z) : iu g z v j = g j := if_neg h
theorem ia_rd {g : Int → Int} {z : Int} (h0 : 0 ≤ z) (h2 : z ≤ 2147483647) : ia g (iI z).toNatClampNeg = iI (g z) := by
  rw [iI_clamp ⟨by omega, h2⟩, ia, Int.toNat_of_nonneg h0]
theorem ia_wr {g : Int → Int} {z v : Int} (h0 : 0 ≤ z) (h2 : z ≤ 2147483647) : upd (ia g) (iI z).toNatClampNeg (iI v) = ia (iu g z v) := by
  rw [iI_clamp ⟨by omega, h2⟩]
  funext j
  by_cases h : j = z.toNat
  · subst h
    simp [upd, ia, iu, Int.toNat_of_nonneg h0]
  · have : ¬ (j : Int) = z := by omega
    simp [upd, ia, iu, h, this]
theorem la_rd {g : Int → Int64} {z : Int} (h0 : 0 ≤ z) (h2 : z ≤ 2147483647) : la g (iI z).toNatClampNeg = g z := by
  rw [iI_clamp ⟨by omega, h2⟩, la, Int.toNat_of_nonneg h0]
theorem la_wr {g : Int → Int64} {z : Int} {v : Int64} (h0 : 0 ≤ z) (h2 : z ≤ 2147483647) : vp_updL (la g) (iI z).toNatClampNeg v = la (iu g z v) := by
  rw [iI_clamp ⟨by omega, h2⟩]
  funext j
  by_cases h : j = z.toNat
  · subst h
    simp [vp_updL, la, iu, Int.toNat_of_nonneg h0]
  · have : ¬ (j : Int) = z := by omega
    simp [vp_updL, la, iu, h, this]
def lI (z : Int) : Int64 := Int64.ofInt z
def zcmp (a b : Int) : Int := if b < a then 1 else if a = b then 0 else -1
theorem zcmp_ok (a b : Int) : -1 ≤ zcmp a b ∧ zcmp a b ≤ 1 := by unfold zcmp; omega
theorem zcmp_lt (a b : Int) : zcmp a b < 0 ↔ a < b := by unfold zcmp; omega
theorem zcmp_gt (a b : Int) : 0 < zcmp a b ↔ b < a := by unfold zcmp; omega
def zcr (a b : Int64) : Int := if b < a then 1 else if a = b then 0 else -1
theorem zcr_ok (a b : Int64) : -1 ≤ zcr a b ∧ zcr a b ≤ 1 := by
  unfold zcr
  split
  · omega
  · split <;> omega
theorem lI_toInt {z : Int} (h : ok32 z) : (lI z).toInt = z := Int64.toInt_ofInt_of_le (by have := h.1; omega) (by have := h.2; omega)
theorem lI_lt {a b : Int} (ha : ok32 a) (hb : ok32 b) : lI a < lI b ↔ a < b := by rw [Int64.lt_iff_toInt_lt, lI_toInt ha, lI_toInt hb]
theorem lI_eq {a b : Int} (ha : ok32 a) (hb : ok32 b) : lI a = lI b ↔ a = b := by rw [← Int64.toInt_inj, lI_toInt ha, lI_toInt hb]
theorem lI_i2l {a : Int} (h : ok32 a) : (iI a).toInt64 = lI a := by
  apply Int64.toInt_inj.mp
  rw [Int32.toInt_toInt64, iI_toInt h, lI_toInt h]
theorem lI_cmp {a b : Int} (ha : ok32 a) (hb : ok32 b) : lg_cmp (lI a) (lI b) = iI (zcmp a b) := by
  unfold lg_cmp zcmp
  simp only [gt_iff_lt]
  by_cases h1 : b < a
  · rw [if_pos h1, if_pos ((lI_lt hb ha).mpr h1)]; rfl
  · rw [if_neg h1, if_neg (fun h => h1 ((lI_lt hb ha).mp h))]
    by_cases h2 : a = b
    · rw [if_pos h2, if_pos (by rw [h2])]; rfl
    · rw [if_neg h2, if_neg (fun h => h2 ((lI_eq ha hb).mp h))]; rfl
theorem lr_cmp (a b : Int64) : lg_cmp a b = iI (zcr a b) := by
  unfold lg_cmp zcr
  simp only [gt_iff_lt]
  by_cases h1 : b < a
  · rw [if_pos h1, if_pos h1]; rfl
  · rw [if_neg h1, if_neg h1]
    by_cases h2 : a = b
    · rw [if_pos h2, if_pos h2]; rfl
    · rw [if_neg h2, if_neg h2]; rfl
def zl_shl (a : Int64) (b : Int) : Int64 := a <<< ((iI b).toInt64 &&& 63)
def zl_ushr (a : Int64) (b : Int) : Int64 := (a.toUInt64 >>> ((iI b).toInt64.toUInt64 &&& Int64.toUInt64 63)).toInt64
theorem narrow_bool {z : Int} (h : z = 0 ∨ z = 1) : narrow .boolean (.int (iI z)) = .int (iI z) := by
  rcases h with rfl | rfl <;> decide
theorem shl1_rg (n : Int) (h : 1 ≤ n ∧ n ≤ 16) : 2 ≤ zi_shl 1 n ∧ zi_shl 1 n ≤ 65536 := by
  have h2 : n = 1 ∨ n = 2 ∨ n = 3 ∨ n = 4 ∨ n = 5 ∨ n = 6 ∨ n = 7 ∨ n = 8 ∨ n = 9 ∨ n = 10 ∨ n = 11 ∨ n = 12 ∨ n = 13 ∨ n = 14 ∨ n = 15 ∨ n = 16 := by omega
  rcases h2 with rfl | rfl | rfl | rfl | rfl | rfl | rfl | rfl | rfl | rfl | rfl | rfl | rfl | rfl | rfl | rfl <;> decide
theorem ret2 {α β : Type} {a : α × β} {r : α} {s : β} (w : β → va_W) (h : a = (r, s)) : w a.2 = w s := by rw [h]
/-! GG: the walk at (world, pc, named locals, stack); heap, write-list and locals array are hidden. -/
def rmK (k : Nat × Nat) : Room := { frames := k.1, cells := 0, slots := 0, locals := k.2 }
abbrev KK : Type := va_G × (ClassId × ClassId × ClassId)
def kt (K : KK) : List (ClassId × FieldType) := [(K.2.1, .int), (K.2.2.1, .long), (K.2.2.2, .object "TurnedCards$Card")]
/-- an int array of n places, a long array, an array of references -/
def zA (K : KK) (n : Nat) (g : Int → Int) : va_E := .inl (K.2.1, n, .inl (ia g))
def zL (K : KK) (n : Nat) (g : Int → Int64) : va_E := .inl (K.2.2.1, n, .inr (.inl (la g)))
def zR (K : KK) (n : Nat) (f : Nat → Option Nat) : va_E := .inl (K.2.2.2, n, .inr (.inr (.inr (.inr f))))
abbrev Cx : Type := Program × Env × State × MethodId × Array Value × List Frame × Method × Code × (State → Prop) × (Nat → Prop) × Nat × Nat
def cx_p (x : Cx) : Program := x.1
def cx_e (x : Cx) : Env := x.2.1
def cx_s (x : Cx) : State := x.2.2.1
def cx_m (x : Cx) : MethodId := x.2.2.2.1
def cx_a (x : Cx) : Array Value := x.2.2.2.2.1
def cx_b (x : Cx) : List Frame := x.2.2.2.2.2.1
def cx_t (x : Cx) : Method := x.2.2.2.2.2.2.1
def cx_c (x : Cx) : Code := x.2.2.2.2.2.2.2.1
def cx_Q (x : Cx) : State → Prop := x.2.2.2.2.2.2.2.2.1
def cx_A (x : Cx) : Nat → Prop := x.2.2.2.2.2.2.2.2.2.1
def cx_k (x : Cx) : Nat := x.2.2.2.2.2.2.2.2.2.2.1
def cx_z (x : Cx) : Nat := x.2.2.2.2.2.2.2.2.2.2.2
def WW (l : Launch) (R : Room) (x : Cx) (H : Heap) (locs : List Loc) (g : JFrame) : Prop := W (cx_p x) l (cx_e x) R (cx_s x) (cx_m x) (cx_a x) (cx_b x) (cx_t x) (cx_c x) H locs (cx_k x) (cx_z x) (cx_Q x) g
def GG (l : Launch) (R : Room) (K : KK) (x : Cx) (ws : va_W) (pc : Nat) (lv : List (Nat × Value)) (st : List Value) : Prop :=
  ∀ (H : Heap) (locs : List Loc) (ls : Array Slot), va_P K.1 vwCl ws H → va_S (cx_A x) (cx_s x).heap H locs → lv_has ls (cx_c x).maxLocals lv → WW l R x H locs (F0 (cx_m x) pc ls st)
def OK (l : Launch) (R : Room) (K : KK) (x : Cx) (cc : ByteArray) (nL : Nat) (own : String) : Prop :=
  (CallFix (cx_p x) (cx_m x) (cx_c x) cc nL (cx_s x) (cx_a x) TT own ∧ va_K K.1 vwCl (kt K) (cx_s x)) ∧ (∀ q : Nat, (cx_s x).heap.size ≤ q → cx_A x q) ∧ cx_k x ≤ R.cells ∧ cx_z x ≤ R.slots ∧ l = l
section GGR
variable {l : Launch} {R : Room} {K : KK} {x : Cx} {cc : ByteArray} {nL : Nat} {own : String} {ws : va_W} {pc : Nat} {lv : List (Nat × Value)} {st : List Value}
theorem gx_sub {lv' : List (Nat × Value)} (ks : List Nat) (hl : lv_pick lv ks = lv') (kk : GG l R K x ws pc lv' st) : GG l R K x ws pc lv st :=
  fun H locs ls hP hS h => kk H locs ls hP hS (lv_sub h ks hl)
theorem gx_eq {ws' : va_W} {lv' : List (Nat × Value)} {st' : List Value} (kk : GG l R K x ws' pc lv' st') (h1 : ws' = ws) (h2 : lv' = lv) (h3 : st' = st) : GG l R K x ws pc lv st := by subst h1; subst h2; subst h3; exact kk
theorem gx_iconst (X : OK l R K x cc nL own) {n z : Int} (hdg : decode cc pc = .ok (.iconst n, 1)) (hv : n = z) (kk : GG l R K x ws (pc + 1) lv (.int (iI z) :: st)) : GG l R K x ws pc lv (st) := by
  intro H locs ls hP hS hl
  exact lv_iconst X.1.1.1 X.1.1.2.1 hdg (by rw [hv]; rfl) (kk H locs ls hP hS hl)
theorem gx_bipush (X : OK l R K x cc nL own) {n z : Int} (hdg : decode cc pc = .ok (.bipush n, 2)) (hv : (Int8.ofInt n).toInt32 = iI z) (kk : GG l R K x ws (pc + 2) lv (.int (iI z) :: st)) : GG l R K x ws pc lv (st) := by
  intro H locs ls hP hS hl
  exact lv_bipush X.1.1.1 X.1.1.2.1 hdg hv (kk H locs ls hP hS hl)
theorem gx_sipush (X : OK l R K x cc nL own) {n z : Int} (hdg : decode cc pc = .ok (.sipush n, 3)) (hv : (Int16.ofInt n).toInt32 = iI z) (kk : GG l R K x ws (pc + 3) lv (.int (iI z) :: st)) : GG l R K x ws pc lv (st) := by
  intro H locs ls hP hS hl
  exact lv_sipush X.1.1.1 X.1.1.2.1 hdg hv (kk H locs ls hP hS hl)
theorem gx_ldc (X : OK l R K x cc nL own) {i : Nat} {v : Int32} {z : Int} (hm : Jvm.Cond.constant own i v ∈ TT) (hdg : decode cc pc = .ok (.ldc i, 2)) (hv : v = iI z) (kk : GG l R K x ws (pc + 2) lv (.int (iI z) :: st)) : GG l R K x ws pc lv (st) := by
  intro H locs ls hP hS hl
  exact lv_ldc X.1.1.1 X.1.1.2.1 X.1.1.2.2.2.1 (X.1.1.2.2.2.2 _ hm) hdg (hv ▸ (kk H locs ls hP hS hl))
theorem gx_ldc2 (X : OK l R K x cc nL own) {i : Nat} {v : Int64} (hm : Jvm.Cond.constantLong own i v ∈ TT) (hdg : decode cc pc = .ok (.ldc2_w i, 3)) (kk : GG l R K x ws (pc + 3) lv (.long v :: st)) : GG l R K x ws pc lv (st) := by
  intro H locs ls hP hS hl
  exact lv_ldc2 X.1.1.1 X.1.1.2.1 X.1.1.2.2.2.1 (X.1.1.2.2.2.2 _ hm) hdg (kk H locs ls hP hS hl)
theorem gx_lconst (X : OK l R K x cc nL own) {n : Fin 2} {v : Int64} (hdg : decode cc pc = .ok (.lconst n, 1)) (hv : Int64.ofNat (n : Nat) = v) (kk : GG l R K x ws (pc + 1) lv (.long v :: st)) : GG l R K x ws pc lv (st) := by
  intro H locs ls hP hS hl
  exact lv_lconst X.1.1.1 X.1.1.2.1 hdg hv (kk H locs ls hP hS hl)
theorem gx_iload_n (X : OK l R K x cc nL own) {k : Fin 4} {i : Nat} {v : Int32} (hdg : decode cc pc = .ok (.iload_n k, 1)) (hi : (k : Nat) = i) (j : Nat) (hj : lv[j]? = some (i, .int v)) (kk : GG l R K x ws (pc + 1) lv (.int v :: st)) : GG l R K x ws pc lv (st) := by
  intro H locs ls hP hS hl
  exact lv_iload_n X.1.1.1 X.1.1.2.1 hdg hi (lv_at hl j hj) (kk H locs ls hP hS hl)
theorem gx_iload (X : OK l R K x cc nL own) {i : Nat} {v : Int32} (hdg : decode cc pc = .ok (.iload i, 2)) (j : Nat) (hj : lv[j]? = some (i, .int v)) (kk : GG l R K x ws (pc + 2) lv (.int v :: st)) : GG l R K x ws pc lv (st) := by
  intro H locs ls hP hS hl
  exact lv_iload X.1.1.1 X.1.1.2.1 hdg (lv_at hl j hj) (kk H locs ls hP hS hl)
theorem gx_lload_n (X : OK l R K x cc nL own) {k : Fin 4} {i : Nat} {v : Int64} (hdg : decode cc pc = .ok (.lload_n k, 1)) (hi : (k : Nat) = i) (j : Nat) (hj : lv[j]? = some (i, .long v)) (kk : GG l R K x ws (pc + 1) lv (.long v :: st)) : GG l R K x ws pc lv (st) := by
  intro H locs ls hP hS hl
  exact lv_lload_n X.1.1.1 X.1.1.2.1 hdg hi (lv_at hl j hj) (kk H locs ls hP hS hl)
theorem gx_lload (X : OK l R K x cc nL own) {i : Nat} {v : Int64} (hdg : decode cc pc = .ok (.lload i, 2)) (j : Nat) (hj : lv[j]? = some (i, .long v)) (kk : GG l R K x ws (pc + 2) lv (.long v :: st)) : GG l R K x ws pc lv (st) := by
  intro H locs ls hP hS hl
  exact lv_lload X.1.1.1 X.1.1.2.1 hdg (lv_at hl j hj) (kk H locs ls hP hS hl)
theorem gx_aload_n (X : OK l R K x cc nL own) {k : Fin 4} {i : Nat} {v : Nat} (hdg : decode cc pc = .ok (.aload_n k, 1)) (hi : (k : Nat) = i) (j : Nat) (hj : lv[j]? = some (i, .ref v)) (kk : GG l R K x ws (pc + 1) lv (.ref v :: st)) : GG l R K x ws pc lv (st) := by
  intro H locs ls hP hS hl
  exact lv_aload_n X.1.1.1 X.1.1.2.1 hdg hi (lv_at hl j hj) (kk H locs ls hP hS hl)
theorem gx_aload (X : OK l R K x cc nL own) {i : Nat} {v : Nat} (hdg : decode cc pc = .ok (.aload i, 2)) (j : Nat) (hj : lv[j]? = some (i, .ref v)) (kk : GG l R K x ws (pc + 2) lv (.ref v :: st)) : GG l R K x ws pc lv (st) := by
  intro H locs ls hP hS hl
  exact lv_aload X.1.1.1 X.1.1.2.1 hdg (lv_at hl j hj) (kk H locs ls hP hS hl)
theorem gx_istore_n (X : OK l R K x cc nL own) {k : Fin 4} {i : Nat} {v : Int32} {lv' : List (Nat × Value)} (hdg : decode cc pc = .ok (.istore_n k, 1)) (hi : (k : Nat) = i) (hn : i < nL) (hl9 : (i, Value.int v) :: lv.filter (fun q => !(q.1 == i) && !(q.1 + 1 == i && q.2.category == 2)) = lv') (kk : GG l R K x ws (pc + 1) lv' st) : GG l R K x ws pc lv (.int v :: st) := by
  intro H locs ls hP hS hl
  exact lv_istore_n X.1.1.1 X.1.1.2.1 hdg hi hl (by rw [X.1.1.2.2.1]; exact hn) hl9 (fun ls' h' => kk H locs ls' hP hS h')
theorem gx_istore (X : OK l R K x cc nL own) {i : Nat} {v : Int32} {lv' : List (Nat × Value)} (hdg : decode cc pc = .ok (.istore i, 2)) (hn : i < nL) (hl9 : (i, Value.int v) :: lv.filter (fun q => !(q.1 == i) && !(q.1 + 1 == i && q.2.category == 2)) = lv') (kk : GG l R K x ws (pc + 2) lv' st) : GG l R K x ws pc lv (.int v :: st) := by
  intro H locs ls hP hS hl
  exact lv_istore X.1.1.1 X.1.1.2.1 hdg hl (by rw [X.1.1.2.2.1]; exact hn) hl9 (fun ls' h' => kk H locs ls' hP hS h')
theorem gx_astore_n (X : OK l R K x cc nL own) {k : Fin 4} {i : Nat} {v : Nat} {lv' : List (Nat × Value)} (hdg : decode cc pc = .ok (.astore_n k, 1)) (hi : (k : Nat) = i) (hn : i < nL) (hl9 : (i, Value.ref v) :: lv.filter (fun q => !(q.1 == i) && !(q.1 + 1 == i && q.2.category == 2)) = lv') (kk : GG l R K x ws (pc + 1) lv' st) : GG l R K x ws pc lv (.ref v :: st) := by
  intro H locs ls hP hS hl
  exact lv_astore_n X.1.1.1 X.1.1.2.1 hdg hi hl (by rw [X.1.1.2.2.1]; exact hn) hl9 (fun ls' h' => kk H locs ls' hP hS h')
theorem gx_astore (X : OK l R K x cc nL own) {i : Nat} {v : Nat} {lv' : List (Nat × Value)} (hdg : decode cc pc = .ok (.astore i, 2)) (hn : i < nL) (hl9 : (i, Value.ref v) :: lv.filter (fun q => !(q.1 == i) && !(q.1 + 1 == i && q.2.category == 2)) = lv') (kk : GG l R K x ws (pc + 2) lv' st) : GG l R K x ws pc lv (.ref v :: st) := by
  intro H locs ls hP hS hl
  exact lv_astore X.1.1.1 X.1.1.2.1 hdg hl (by rw [X.1.1.2.2.1]; exact hn) hl9 (fun ls' h' => kk H locs ls' hP hS h')
theorem gx_lstore (X : OK l R K x cc nL own) {i : Nat} {v : Int64} {lv' : List (Nat × Value)} (hdg : decode cc pc = .ok (.lstore i, 2)) (hn : i + 1 < nL) (hl9 : (i, Value.long v) :: lv.filter (fun q => !(q.1 == i) && (!(q.1 == i + 1) && !(q.1 + 1 == i && q.2.category == 2))) = lv') (kk : GG l R K x ws (pc + 2) lv' st) : GG l R K x ws pc lv (.long v :: st) := by
  intro H locs ls hP hS hl
  exact lv_lstore X.1.1.1 X.1.1.2.1 hdg hl (by rw [X.1.1.2.2.1]; exact hn) hl9 (fun ls' h' => kk H locs ls' hP hS h')
theorem gx_iinc (X : OK l R K x cc nL own) {i : Nat} {n z : Int} {lv' : List (Nat × Value)} (hdg : decode cc pc = .ok (.iinc i n, 3)) (j : Nat) (hj : lv[j]? = some (i, .int (iI z))) (hn : i < nL) (hl9 : (i, Value.int (iI (z + n))) :: lv.filter (fun q => !(q.1 == i) && !(q.1 + 1 == i && q.2.category == 2)) = lv') (kk : GG l R K x ws (pc + 3) lv' st) : GG l R K x ws pc lv st := by
  intro H locs ls hP hS hl
  exact lv_iinc X.1.1.1 X.1.1.2.1 hdg hl hj (v := iI (z + n)) (iI_add z n) (by rw [X.1.1.2.2.1]; exact hn) hl9 (fun ls' h' => kk H locs ls' hP hS h')
theorem gx_dup (X : OK l R K x cc nL own) {v : Value} (hdg : decode cc pc = .ok (.dup, 1)) (hc : v.category = 1) (kk : GG l R K x ws (pc + 1) lv (v :: v :: st)) : GG l R K x ws pc lv (v :: st) := by
  intro H locs ls hP hS hl
  exact lv_dup X.1.1.1 X.1.1.2.1 hdg hc (kk H locs ls hP hS hl)
theorem gx_iadd (X : OK l R K x cc nL own) {a b : Int} (hdg : decode cc pc = .ok (.iadd, 1)) (kk : GG l R K x ws (pc + 1) lv (.int (iI (a + b)) :: st)) : GG l R K x ws pc lv (.int (iI b) :: .int (iI a) :: st) := by
  intro H locs ls hP hS hl
  exact lv_iadd X.1.1.1 X.1.1.2.1 hdg (iI_add a b ▸ (kk H locs ls hP hS hl))
theorem gx_isub (X : OK l R K x cc nL own) {a b : Int} (hdg : decode cc pc = .ok (.isub, 1)) (kk : GG l R K x ws (pc + 1) lv (.int (iI (a - b)) :: st)) : GG l R K x ws pc lv (.int (iI b) :: .int (iI a) :: st) := by
  intro H locs ls hP hS hl
  exact lv_isub X.1.1.1 X.1.1.2.1 hdg (iI_sub a b ▸ (kk H locs ls hP hS hl))
theorem gx_imul (X : OK l R K x cc nL own) {a b : Int} (hdg : decode cc pc = .ok (.imul, 1)) (kk : GG l R K x ws (pc + 1) lv (.int (iI (a * b)) :: st)) : GG l R K x ws pc lv (.int (iI b) :: .int (iI a) :: st) := by
  intro H locs ls hP hS hl
  exact lv_imul X.1.1.1 X.1.1.2.1 hdg (iI_mul a b ▸ (kk H locs ls hP hS hl))
theorem gx_ineg (X : OK l R K x cc nL own) {a : Int} (hdg : decode cc pc = .ok (.ineg, 1)) (kk : GG l R K x ws (pc + 1) lv (.int (iI (-a)) :: st)) : GG l R K x ws pc lv (.int (iI a) :: st) := by
  intro H locs ls hP hS hl
  exact lv_ineg X.1.1.1 X.1.1.2.1 hdg (iI_neg a ▸ (kk H locs ls hP hS hl))
theorem gx_iand (X : OK l R K x cc nL own) {a b : Int} (hdg : decode cc pc = .ok (.iand, 1)) (kk : GG l R K x ws (pc + 1) lv (.int (iI (zi_and a b)) :: st)) : GG l R K x ws pc lv (.int (iI b) :: .int (iI a) :: st) := by
  intro H locs ls hP hS hl
  exact lv_iand X.1.1.1 X.1.1.2.1 hdg (by rw [show _ = iI (zi_and a b) from iI_of _]; exact (kk H locs ls hP hS hl))
theorem gx_ior (X : OK l R K x cc nL own) {a b : Int} (hdg : decode cc pc = .ok (.ior, 1)) (kk : GG l R K x ws (pc + 1) lv (.int (iI (zi_or a b)) :: st)) : GG l R K x ws pc lv (.int (iI b) :: .int (iI a) :: st) := by
  intro H locs ls hP hS hl
  exact lv_ior X.1.1.1 X.1.1.2.1 hdg (by rw [show _ = iI (zi_or a b) from iI_of _]; exact (kk H locs ls hP hS hl))
theorem gx_ixor (X : OK l R K x cc nL own) {a b : Int} (hdg : decode cc pc = .ok (.ixor, 1)) (kk : GG l R K x ws (pc + 1) lv (.int (iI (zi_xor a b)) :: st)) : GG l R K x ws pc lv (.int (iI b) :: .int (iI a) :: st) := by
  intro H locs ls hP hS hl
  exact lv_ixor X.1.1.1 X.1.1.2.1 hdg (by rw [show _ = iI (zi_xor a b) from iI_of _]; exact (kk H locs ls hP hS hl))
theorem gx_ishl (X : OK l R K x cc nL own) {a b : Int} (hdg : decode cc pc = .ok (.ishl, 1)) (kk : GG l R K x ws (pc + 1) lv (.int (iI (zi_shl a b)) :: st)) : GG l R K x ws pc lv (.int (iI b) :: .int (iI a) :: st) := by
  intro H locs ls hP hS hl
  exact lv_ishl X.1.1.1 X.1.1.2.1 hdg (by rw [show _ = iI (zi_shl a b) from iI_of _]; exact (kk H locs ls hP hS hl))
theorem gx_ishr (X : OK l R K x cc nL own) {a b : Int} (hdg : decode cc pc = .ok (.ishr, 1)) (kk : GG l R K x ws (pc + 1) lv (.int (iI (zi_shr a b)) :: st)) : GG l R K x ws pc lv (.int (iI b) :: .int (iI a) :: st) := by
  intro H locs ls hP hS hl
  exact lv_ishr X.1.1.1 X.1.1.2.1 hdg (by rw [show _ = iI (zi_shr a b) from iI_of _]; exact (kk H locs ls hP hS hl))
theorem gx_irem (X : OK l R K x cc nL own) {a b : Int} (hdg : decode cc pc = .ok (.irem, 1)) (h : 0 ≤ a ∧ a ≤ 2147483647 ∧ 0 < b ∧ b ≤ 2147483647) (kk : GG l R K x ws (pc + 1) lv (.int (iI (a % b)) :: st)) : GG l R K x ws pc lv (.int (iI b) :: .int (iI a) :: st) := by
  intro H locs ls hP hS hl
  exact lv_irem X.1.1.1 X.1.1.2.1 hdg (iI_ne0 h.2.2.1 h.2.2.2) (iI_rem h.1 h.2.1 h.2.2.1 h.2.2.2 ▸ (kk H locs ls hP hS hl))
theorem gx_idiv (X : OK l R K x cc nL own) {a b : Int} (hdg : decode cc pc = .ok (.idiv, 1)) (h : 0 ≤ a ∧ a ≤ 2147483647 ∧ 0 < b ∧ b ≤ 2147483647) (kk : GG l R K x ws (pc + 1) lv (.int (iI (a / b)) :: st)) : GG l R K x ws pc lv (.int (iI b) :: .int (iI a) :: st) := by
  intro H locs ls hP hS hl
  exact lv_idiv X.1.1.1 X.1.1.2.1 hdg (iI_ne0 h.2.2.1 h.2.2.2) (iI_div h.1 h.2.1 h.2.2.1 h.2.2.2 ▸ (kk H locs ls hP hS hl))
theorem gx_land (X : OK l R K x cc nL own) {a b : Int64} (hdg : decode cc pc = .ok (.land, 1)) (kk : GG l R K x ws (pc + 1) lv (.long (a &&& b) :: st)) : GG l R K x ws pc lv (.long b :: .long a :: st) := by
  intro H locs ls hP hS hl
  exact lv_land X.1.1.1 X.1.1.2.1 hdg (kk H locs ls hP hS hl)
theorem gx_lor (X : OK l R K x cc nL own) {a b : Int64} (hdg : decode cc pc = .ok (.lor, 1)) (kk : GG l R K x ws (pc + 1) lv (.long (a ||| b) :: st)) : GG l R K x ws pc lv (.long b :: .long a :: st) := by
  intro H locs ls hP hS hl
  exact lv_lor X.1.1.1 X.1.1.2.1 hdg (kk H locs ls hP hS hl)
theorem gx_i2l (X : OK l R K x cc nL own) {a : Int} (hdg : decode cc pc = .ok (.i2l, 1)) (h : ok32 a) (kk : GG l R K x ws (pc + 1) lv (.long (lI a) :: st)) : GG l R K x ws pc lv (.int (iI a) :: st) := by
  intro H locs ls hP hS hl
  exact lv_i2l X.1.1.1 X.1.1.2.1 hdg (lI_i2l h) (kk H locs ls hP hS hl)
theorem gx_lshl (X : OK l R K x cc nL own) {a v : Int64} {b : Int} (hdg : decode cc pc = .ok (.lshl, 1)) (hv : a <<< ((iI b).toInt64 &&& 63) = v) (kk : GG l R K x ws (pc + 1) lv (.long v :: st)) : GG l R K x ws pc lv (.int (iI b) :: .long a :: st) := by
  intro H locs ls hP hS hl
  exact lv_lshl X.1.1.1 X.1.1.2.1 hdg hv (kk H locs ls hP hS hl)
theorem gx_lushr (X : OK l R K x cc nL own) {a v : Int64} {b : Int} (hdg : decode cc pc = .ok (.lushr, 1)) (hv : (a.toUInt64 >>> ((iI b).toInt64.toUInt64 &&& Int64.toUInt64 63)).toInt64 = v) (kk : GG l R K x ws (pc + 1) lv (.long v :: st)) : GG l R K x ws pc lv (.int (iI b) :: .long a :: st) := by
  intro H locs ls hP hS hl
  exact lv_lushr X.1.1.1 X.1.1.2.1 hdg hv (kk H locs ls hP hS hl)
theorem gx_lcmpi (X : OK l R K x cc nL own) {a b : Int} (hdg : decode cc pc = .ok (.lcmp, 1)) (h : ok32 a ∧ ok32 b) (kk : GG l R K x ws (pc + 1) lv (.int (iI (zcmp a b)) :: st)) : GG l R K x ws pc lv (.long (lI b) :: .long (lI a) :: st) := by
  intro H locs ls hP hS hl
  exact W.lcmp X.1.1.1 X.1.1.2.1 hdg (by rw [lI_cmp h.1 h.2]; exact (kk H locs ls hP hS hl))
theorem gx_lcmpr (X : OK l R K x cc nL own) {a b : Int64} (hdg : decode cc pc = .ok (.lcmp, 1)) (kk : GG l R K x ws (pc + 1) lv (.int (iI (zcr a b)) :: st)) : GG l R K x ws pc lv (.long b :: .long a :: st) := by
  intro H locs ls hP hS hl
  exact W.lcmp X.1.1.1 X.1.1.2.1 hdg (by rw [lr_cmp]; exact (kk H locs ls hP hS hl))
theorem gx_dup2 (X : OK l R K x cc nL own) {v w : Value} (hdg : decode cc pc = .ok (.dup2, 1)) (hv : v.category = 1) (hw : w.category = 1) (kk : GG l R K x ws (pc + 1) lv (v :: w :: v :: w :: st)) : GG l R K x ws pc lv (v :: w :: st) := by
  intro H locs ls hP hS hl
  exact lv_dup2_11 X.1.1.1 X.1.1.2.1 hdg hv hw (kk H locs ls hP hS hl)
theorem gx_switchIn (X : OK l R K x cc nL own) {dflt lo hi : Int} {offs : Array Int} {len : Nat} {a : Int} {off : Int} {tgt : Nat} (hdg : decode cc pc = .ok (.tableswitch dflt lo hi offs, len)) (k : Int) (hk : a = k) (hr : ok32 k) (hb : lo ≤ k ∧ k ≤ hi) (ho : offs[(k - lo).toNat]? = some off) (ht : (pc : Int) + off = (tgt : Int)) (kk : GG l R K x ws tgt lv st) : GG l R K x ws pc lv (.int (iI a) :: st) := by
  intro H locs ls hP hS hl
  subst hk
  exact lv_tableIn X.1.1.1 X.1.1.2.1 hdg (by rw [iI_toInt hr]; omega) (by rw [iI_toInt hr]; omega) (by rw [iI_toInt hr]; exact ho) ht (kk H locs ls hP hS hl)
theorem gx_switchOut (X : OK l R K x cc nL own) {dflt lo hi : Int} {offs : Array Int} {len : Nat} {a : Int} {tgt : Nat} (hdg : decode cc pc = .ok (.tableswitch dflt lo hi offs, len)) (hr : ok32 a) (h : a < lo ∨ hi < a) (ht : (pc : Int) + dflt = (tgt : Int)) (kk : GG l R K x ws tgt lv st) : GG l R K x ws pc lv (.int (iI a) :: st) := by
  intro H locs ls hP hS hl
  exact lv_tableOut X.1.1.1 X.1.1.2.1 hdg (by rw [iI_toInt hr]; exact h) ht (kk H locs ls hP hS hl)
theorem gx_goto (X : OK l R K x cc nL own) {off : Int} {tgt : Nat} (hdg : decode cc pc = .ok (.goto off, 3)) (ht : (pc : Int) + off = (tgt : Int)) (kk : GG l R K x ws tgt lv st) : GG l R K x ws pc lv st := by
  intro H locs ls hP hS hl
  exact lv_goto X.1.1.1 X.1.1.2.1 hdg ht (kk H locs ls hP hS hl)
theorem gx_icmp_eq (X : OK l R K x cc nL own) {a b : Int} {off : Int} {tgt : Nat} (hdg : decode cc pc = .ok (.if_icmp .eq off, 3)) (ht : (pc : Int) + off = (tgt : Int)) (hr : ok32 a ∧ ok32 b) (kt : a = b → GG l R K x ws tgt lv st) (kf : ¬ a = b → GG l R K x ws (pc + 3) lv st) : GG l R K x ws pc lv (.int (iI b) :: .int (iI a) :: st) := by
  obtain ⟨ha, hb⟩ := hr
  intro H locs ls hP hS hl
  exact lv_icmp_eq X.1.1.1 X.1.1.2.1 hdg ht (fun h => kt ((iI_eq ha hb).mp h) H locs ls hP hS hl) (fun h => kf (fun h9 => h ((iI_eq ha hb).mpr h9)) H locs ls hP hS hl)
theorem gx_if_eq (X : OK l R K x cc nL own) {a : Int} {off : Int} {tgt : Nat} (hdg : decode cc pc = .ok (.ifCond .eq off, 3)) (ht : (pc : Int) + off = (tgt : Int)) (ha : ok32 a) (kt : a = 0 → GG l R K x ws tgt lv st) (kf : ¬ a = 0 → GG l R K x ws (pc + 3) lv st) : GG l R K x ws pc lv (.int (iI a) :: st) := by
  intro H locs ls hP hS hl
  exact lv_if_eq X.1.1.1 X.1.1.2.1 hdg ht (fun h => kt ((iI_eq ha ok_z).mp h) H locs ls hP hS hl) (fun h => kf (fun h9 => h (by rw [h9]; rfl)) H locs ls hP hS hl)
theorem gx_icmp_ne (X : OK l R K x cc nL own) {a b : Int} {off : Int} {tgt : Nat} (hdg : decode cc pc = .ok (.if_icmp .ne off, 3)) (ht : (pc : Int) + off = (tgt : Int)) (hr : ok32 a ∧ ok32 b) (kt : ¬ a = b → GG l R K x ws tgt lv st) (kf : a = b → GG l R K x ws (pc + 3) lv st) : GG l R K x ws pc lv (.int (iI b) :: .int (iI a) :: st) := by
  obtain ⟨ha, hb⟩ := hr
  intro H locs ls hP hS hl
  exact lv_icmp_ne X.1.1.1 X.1.1.2.1 hdg ht (fun h => kt (fun h9 => h ((iI_eq ha hb).mpr h9)) H locs ls hP hS hl) (fun h => kf ((iI_eq ha hb).mp h) H locs ls hP hS hl)
theorem gx_if_ne (X : OK l R K x cc nL own) {a : Int} {off : Int} {tgt : Nat} (hdg : decode cc pc = .ok (.ifCond .ne off, 3)) (ht : (pc : Int) + off = (tgt : Int)) (ha : ok32 a) (kt : ¬ a = 0 → GG l R K x ws tgt lv st) (kf : a = 0 → GG l R K x ws (pc + 3) lv st) : GG l R K x ws pc lv (.int (iI a) :: st) := by
  intro H locs ls hP hS hl
  exact lv_if_ne X.1.1.1 X.1.1.2.1 hdg ht (fun h => kt (fun h9 => h (by rw [h9]; rfl)) H locs ls hP hS hl) (fun h => kf ((iI_eq ha ok_z).mp h) H locs ls hP hS hl)
theorem gx_icmp_lt (X : OK l R K x cc nL own) {a b : Int} {off : Int} {tgt : Nat} (hdg : decode cc pc = .ok (.if_icmp .lt off, 3)) (ht : (pc : Int) + off = (tgt : Int)) (hr : ok32 a ∧ ok32 b) (kt : a < b → GG l R K x ws tgt lv st) (kf : ¬ a < b → GG l R K x ws (pc + 3) lv st) : GG l R K x ws pc lv (.int (iI b) :: .int (iI a) :: st) := by
  obtain ⟨ha, hb⟩ := hr
  intro H locs ls hP hS hl
  exact lv_icmp_lt X.1.1.1 X.1.1.2.1 hdg ht (fun h => kt ((iI_lt ha hb).mp h) H locs ls hP hS hl) (fun h => kf (fun h9 => h ((iI_lt ha hb).mpr h9)) H locs ls hP hS hl)
theorem gx_if_lt (X : OK l R K x cc nL own) {a : Int} {off : Int} {tgt : Nat} (hdg : decode cc pc = .ok (.ifCond .lt off, 3)) (ht : (pc : Int) + off = (tgt : Int)) (ha : ok32 a) (kt : a < 0 → GG l R K x ws tgt lv st) (kf : ¬ a < 0 → GG l R K x ws (pc + 3) lv st) : GG l R K x ws pc lv (.int (iI a) :: st) := by
  intro H locs ls hP hS hl
  exact lv_if_lt X.1.1.1 X.1.1.2.1 hdg ht (fun h => kt ((iI_lt ha ok_z).mp h) H locs ls hP hS hl) (fun h => kf (fun h9 => h ((iI_lt ha ok_z).mpr h9)) H locs ls hP hS hl)
theorem gx_icmp_ge (X : OK l R K x cc nL own) {a b : Int} {off : Int} {tgt : Nat} (hdg : decode cc pc = .ok (.if_icmp .ge off, 3)) (ht : (pc : Int) + off = (tgt : Int)) (hr : ok32 a ∧ ok32 b) (kt : b ≤ a → GG l R K x ws tgt lv st) (kf : ¬ b ≤ a → GG l R K x ws (pc + 3) lv st) : GG l R K x ws pc lv (.int (iI b) :: .int (iI a) :: st) := by
  obtain ⟨ha, hb⟩ := hr
  intro H locs ls hP hS hl
  exact lv_icmp_ge X.1.1.1 X.1.1.2.1 hdg ht (fun h => kt ((iI_le hb ha).mp h) H locs ls hP hS hl) (fun h => kf (fun h9 => h ((iI_le hb ha).mpr h9)) H locs ls hP hS hl)
theorem gx_if_ge (X : OK l R K x cc nL own) {a : Int} {off : Int} {tgt : Nat} (hdg : decode cc pc = .ok (.ifCond .ge off, 3)) (ht : (pc : Int) + off = (tgt : Int)) (ha : ok32 a) (kt : 0 ≤ a → GG l R K x ws tgt lv st) (kf : ¬ 0 ≤ a → GG l R K x ws (pc + 3) lv st) : GG l R K x ws pc lv (.int (iI a) :: st) := by
  intro H locs ls hP hS hl
  exact lv_if_ge X.1.1.1 X.1.1.2.1 hdg ht (fun h => kt ((iI_le ok_z ha).mp h) H locs ls hP hS hl) (fun h => kf (fun h9 => h ((iI_le ok_z ha).mpr h9)) H locs ls hP hS hl)
theorem gx_icmp_gt (X : OK l R K x cc nL own) {a b : Int} {off : Int} {tgt : Nat} (hdg : decode cc pc = .ok (.if_icmp .gt off, 3)) (ht : (pc : Int) + off = (tgt : Int)) (hr : ok32 a ∧ ok32 b) (kt : b < a → GG l R K x ws tgt lv st) (kf : ¬ b < a → GG l R K x ws (pc + 3) lv st) : GG l R K x ws pc lv (.int (iI b) :: .int (iI a) :: st) := by
  obtain ⟨ha, hb⟩ := hr
  intro H locs ls hP hS hl
  exact lv_icmp_gt X.1.1.1 X.1.1.2.1 hdg ht (fun h => kt ((iI_lt hb ha).mp h) H locs ls hP hS hl) (fun h => kf (fun h9 => h ((iI_lt hb ha).mpr h9)) H locs ls hP hS hl)
theorem gx_if_gt (X : OK l R K x cc nL own) {a : Int} {off : Int} {tgt : Nat} (hdg : decode cc pc = .ok (.ifCond .gt off, 3)) (ht : (pc : Int) + off = (tgt : Int)) (ha : ok32 a) (kt : 0 < a → GG l R K x ws tgt lv st) (kf : ¬ 0 < a → GG l R K x ws (pc + 3) lv st) : GG l R K x ws pc lv (.int (iI a) :: st) := by
  intro H locs ls hP hS hl
  exact lv_if_gt X.1.1.1 X.1.1.2.1 hdg ht (fun h => kt ((iI_lt ok_z ha).mp h) H locs ls hP hS hl) (fun h => kf (fun h9 => h ((iI_lt ok_z ha).mpr h9)) H locs ls hP hS hl)
theorem gx_icmp_le (X : OK l R K x cc nL own) {a b : Int} {off : Int} {tgt : Nat} (hdg : decode cc pc = .ok (.if_icmp .le off, 3)) (ht : (pc : Int) + off = (tgt : Int)) (hr : ok32 a ∧ ok32 b) (kt : a ≤ b → GG l R K x ws tgt lv st) (kf : ¬ a ≤ b → GG l R K x ws (pc + 3) lv st) : GG l R K x ws pc lv (.int (iI b) :: .int (iI a) :: st) := by
  obtain ⟨ha, hb⟩ := hr
  intro H locs ls hP hS hl
  exact lv_icmp_le X.1.1.1 X.1.1.2.1 hdg ht (fun h => kt ((iI_le ha hb).mp h) H locs ls hP hS hl) (fun h => kf (fun h9 => h ((iI_le ha hb).mpr h9)) H locs ls hP hS hl)
theorem gx_if_le (X : OK l R K x cc nL own) {a : Int} {off : Int} {tgt : Nat} (hdg : decode cc pc = .ok (.ifCond .le off, 3)) (ht : (pc : Int) + off = (tgt : Int)) (ha : ok32 a) (kt : a ≤ 0 → GG l R K x ws tgt lv st) (kf : ¬ a ≤ 0 → GG l R K x ws (pc + 3) lv st) : GG l R K x ws pc lv (.int (iI a) :: st) := by
  intro H locs ls hP hS hl
  exact lv_if_le X.1.1.1 X.1.1.2.1 hdg ht (fun h => kt ((iI_le ha ok_z).mp h) H locs ls hP hS hl) (fun h => kf (fun h9 => h ((iI_le ha ok_z).mpr h9)) H locs ls hP hS hl)
theorem gx_get (X : OK l R K x cc nL own) {ref C : String} {T : u_T} {N ci index : Nat} {a : Nat} (hin : ∀ w ∈ u_ws C T N, w ∈ TT) (q0 : Nat) {fs : List Value} (he : ws[q0]? = some (a, .inr (ci, fs))) (hc :  vwCl[ci]? = some (C, T, N)) (k : Nat) (hk : k < N) (hlink : Cond.fieldLink own index ref (T k).2.1 (T k).2.2.1 ∈ TT) (href : (T k).1 = ref) {v : Value} (hv : fs[k]? = some v) (hdg : decode cc pc = .ok (.getfield index, 3)) (kk : GG l R K x ws (pc + 3) lv (v :: st)) : GG l R K x ws pc lv (.ref a :: st) := by
  intro H locs ls hP hS hl
  exact va_get X.1.1.1 X.1.1.2.1 X.1.1.2.2.2.2 hin X.1.1.2.2.2.1 X.1.2 hP q0 he hc k hk (X.1.1.2.2.2.2 _ hlink) (fun _ h9 => href ▸ h9) hv hdg (kk H locs ls hP hS hl)
theorem gx_put (X : OK l R K x cc nL own) {ref C : String} {T : u_T} {N ci index : Nat} {a : Nat} (hin : ∀ w ∈ u_ws C T N, w ∈ TT) (ty0 : Nat → FieldType) (hty : ∀ k, k < N → parseFieldDescriptor (T k).2.2.1 = some (ty0 k)) (hnm : ∀ a, a < N → ∀ b, b < N → a ≠ b → (T a).2.1 ≠ (T b).2.1) (hD : va_D (cx_A x) ws) (q0 : Nat) {fs : List Value} (he : ws[q0]? = some (a, .inr (ci, fs))) (hc :  vwCl[ci]? = some (C, T, N)) (k : Nat) (hk : k < N) (hlink : Cond.fieldLink own index ref (T k).2.1 (T k).2.2.1 ∈ TT) (href : (T k).1 = ref) (hfin : (T k).2.2.2 = false) {ty : FieldType} {v : Value} (hd : parseFieldDescriptor (T k).2.2.1 = some ty) (hn : narrow ty v = v) (hfit : fits ty v = true) (hl9 : k < fs.length) {ws' : va_W} (hset : ws.set q0 (a, .inr (ci, fs.set k v)) = ws') (hdg : decode cc pc = .ok (.putfield index, 3)) (kk : GG l R K x ws' (pc + 3) lv st) : GG l R K x ws pc lv (v :: .ref a :: st) := by
  intro H locs ls hP hS hl
  subst hset
  exact va_put X.1.1.1 X.1.1.2.1 X.1.1.2.2.2.2 hin ty0 hty hnm X.1.1.2.2.2.1 X.1.2 hP hD hS q0 he hc k hk (X.1.1.2.2.2.2 _ hlink) (fun _ h9 => href ▸ h9) hfin hd hn hfit hl9 hdg (fun H1 locs1 hP1 _ hS1 => kk H1 locs1 ls hP1 hS1 hl)
theorem gx_iald (X : OK l R K x cc nL own) {a n : Nat} {g : Int → Int} {z v : Int} (q0 : Nat) (ha : ws[q0]? = some (a, zA K n g)) (hz : 0 ≤ z ∧ z < (n : Int) ∧ z ≤ 2147483647) (hv : g z = v) (hdg : decode cc pc = .ok (.iaload, 1)) (kk : GG l R K x ws (pc + 1) lv (.int (iI v) :: st)) : GG l R K x ws pc lv (.int (iI z) :: .ref a :: st) := by
  intro H locs ls hP hS hl
  subst hv
  exact va_iald X.1.1.1 X.1.1.2.1 X.1.2 hP q0 0 ha rfl (iI_in hz.1 hz.2.1 hz.2.2) hdg (by rw [ia_rd hz.1 hz.2.2]; exact (kk H locs ls hP hS hl))
theorem gx_iast (X : OK l R K x cc nL own) {a n : Nat} {g : Int → Int} {z v : Int} (hD : va_D (cx_A x) ws) (q0 : Nat) (ha : ws[q0]? = some (a, zA K n g)) (hz : 0 ≤ z ∧ z < (n : Int) ∧ z ≤ 2147483647) {ws' : va_W} (hset : ws.set q0 (a, zA K n (iu g z v)) = ws') (hdg : decode cc pc = .ok (.iastore, 1)) (kk : GG l R K x ws' (pc + 1) lv st) : GG l R K x ws pc lv (.int (iI v) :: .int (iI z) :: .ref a :: st) := by
  intro H locs ls hP hS hl
  subst hset
  refine va_iast X.1.1.1 X.1.1.2.1 X.1.2 hP hD hS q0 0 ha rfl (iI_in hz.1 hz.2.1 hz.2.2) hdg (fun H1 locs1 hP1 _ hS1 => ?_)
  rw [ia_wr hz.1 hz.2.2] at hP1
  exact kk H1 locs1 ls hP1 hS1 hl
theorem gx_lald (X : OK l R K x cc nL own) {a n : Nat} {g : Int → Int64} {z : Int} {v : Int64} (q0 : Nat) (ha : ws[q0]? = some (a, zL K n g)) (hz : 0 ≤ z ∧ z < (n : Int) ∧ z ≤ 2147483647) (hv : g z = v) (hdg : decode cc pc = .ok (.laload, 1)) (kk : GG l R K x ws (pc + 1) lv (.long v :: st)) : GG l R K x ws pc lv (.int (iI z) :: .ref a :: st) := by
  intro H locs ls hP hS hl
  subst hv
  exact va_lald X.1.1.1 X.1.1.2.1 X.1.2 hP q0 1 ha rfl (iI_in hz.1 hz.2.1 hz.2.2) hdg (by rw [la_rd hz.1 hz.2.2]; exact (kk H locs ls hP hS hl))
theorem gx_last (X : OK l R K x cc nL own) {a n : Nat} {g : Int → Int64} {z : Int} {v : Int64} (hD : va_D (cx_A x) ws) (q0 : Nat) (ha : ws[q0]? = some (a, zL K n g)) (hz : 0 ≤ z ∧ z < (n : Int) ∧ z ≤ 2147483647) {ws' : va_W} (hset : ws.set q0 (a, zL K n (iu g z v)) = ws') (hdg : decode cc pc = .ok (.lastore, 1)) (kk : GG l R K x ws' (pc + 1) lv st) : GG l R K x ws pc lv (.long v :: .int (iI z) :: .ref a :: st) := by
  intro H locs ls hP hS hl
  subst hset
  refine va_last X.1.1.1 X.1.1.2.1 X.1.2 hP hD hS q0 1 ha rfl (iI_in hz.1 hz.2.1 hz.2.2) hdg (fun H1 locs1 hP1 _ hS1 => ?_)
  rw [la_wr hz.1 hz.2.2] at hP1
  exact kk H1 locs1 ls hP1 hS1 hl
theorem gx_aald (X : OK l R K x cc nL own) {a n v : Nat} {f : Nat → Option Nat} {z : Int} (q0 : Nat) (ha : ws[q0]? = some (a, zR K n f)) (hz : 0 ≤ z ∧ z < (n : Int) ∧ z ≤ 2147483647) (hv : f z.toNat = some v) (hdg : decode cc pc = .ok (.aaload, 1)) (kk : GG l R K x ws (pc + 1) lv (.ref v :: st)) : GG l R K x ws pc lv (.int (iI z) :: .ref a :: st) := by
  intro H locs ls hP hS hl
  refine va_aldq X.1.1.1 X.1.1.2.1 X.1.2 hP q0 2 ha rfl (iI_in hz.1 hz.2.1 hz.2.2) hdg ?_
  rw [iI_clamp ⟨by omega, hz.2.2⟩, hv]
  exact (kk H locs ls hP hS hl)
/-- the machine's end at an answer -/
def ReI (l : Launch) (R : Room) (K : KK) (x : Cx) (cc : ByteArray) (z : Int) (ws' : va_W) : Prop := ∀ (H : Heap) (locs : List Loc) (ls : Array Slot) (pc : Nat), va_P K.1 vwCl ws' H → va_S (cx_A x) (cx_s x).heap H locs → decode cc pc = .ok (.ireturn, 1) → WW l R x H locs (F0 (cx_m x) pc ls [.int (iI z)])
def ReV (l : Launch) (R : Room) (K : KK) (x : Cx) (cc : ByteArray) (ws' : va_W) : Prop := ∀ (H : Heap) (locs : List Loc) (ls : Array Slot) (pc : Nat), va_P K.1 vwCl ws' H → va_S (cx_A x) (cx_s x).heap H locs → decode cc pc = .ok (.return_, 1) → WW l R x H locs (F0 (cx_m x) pc ls [])
def ReL (l : Launch) (R : Room) (K : KK) (x : Cx) (cc : ByteArray) (z : Int64) (ws' : va_W) : Prop := ∀ (H : Heap) (locs : List Loc) (ls : Array Slot) (pc : Nat), va_P K.1 vwCl ws' H → va_S (cx_A x) (cx_s x).heap H locs → decode cc pc = .ok (.lreturn, 1) → WW l R x H locs (F0 (cx_m x) pc ls [.long z])
def ReA (l : Launch) (R : Room) (K : KK) (x : Cx) (cc : ByteArray) (a : Nat) (ws' : va_W) : Prop := ∀ (H : Heap) (locs : List Loc) (ls : Array Slot) (pc : Nat), va_P K.1 vwCl ws' H → va_S (cx_A x) (cx_s x).heap H locs → decode cc pc = .ok (.areturn, 1) → WW l R x H locs (F0 (cx_m x) pc ls [.ref a])
theorem gx_iret {z r : Int} {ws' : va_W} (hR : ReI l R K x cc z ws') (h : z = r) (hw : ws' = ws) (hdg : decode cc pc = .ok (.ireturn, 1)) : GG l R K x ws pc lv [.int (iI r)] := by
  subst h; subst hw
  intro H locs ls hP hS _
  exact hR H locs ls pc hP hS hdg
theorem gx_lret {z r : Int64} {ws' : va_W} (hR : ReL l R K x cc z ws') (h : z = r) (hw : ws' = ws) (hdg : decode cc pc = .ok (.lreturn, 1)) : GG l R K x ws pc lv [.long r] := by
  subst h; subst hw
  intro H locs ls hP hS _
  exact hR H locs ls pc hP hS hdg
theorem gx_aret {z r : Nat} {ws' : va_W} (hR : ReA l R K x cc z ws') (h : z = r) (hw : ws' = ws) (hdg : decode cc pc = .ok (.areturn, 1)) : GG l R K x ws pc lv [.ref r] := by
  subst h; subst hw
  intro H locs ls hP hS _
  exact hR H locs ls pc hP hS hdg
theorem gx_vret {ws' : va_W} (hR : ReV l R K x cc ws') (hw : ws' = ws) (hdg : decode cc pc = .ok (.return_, 1)) : GG l R K x ws pc lv [] := by
  subst hw
  intro H locs ls hP hS _
  exact hR H locs ls pc hP hS hdg
end GGR
/-! contracts -/
def pw (K : KK) (ws : va_W) (sz : Nat) (U : State) : Prop := U.heap.size = sz ∧ va_P K.1 vwCl ws U.heap ∧ va_K K.1 vwCl (kt K) U ∧ va_D (fun _ => True) ws
def CtI (l : Launch) (y : MethodName) (b : ByteArray) (mL : Nat) (rt : FieldType) (k : Nat × Nat) (K : KK) (av : List Value) (ws : va_W) (z : Int) (ws' : va_W) : Prop :=
  ∀ sz, Met l y (.code y b mL (some rt) :: TT) (rmK k) (va_Pc av (pw K ws sz)) (va_Qi (S := Unit) (fun r _ => r = iI z) (fun _ t => va_P K.1 vwCl ws' t.heap) (va_A ws sz)) 0 0 (va_A ws sz)
def CtL (l : Launch) (y : MethodName) (b : ByteArray) (mL : Nat) (k : Nat × Nat) (K : KK) (av : List Value) (ws : va_W) (z : Int64) (ws' : va_W) : Prop :=
  ∀ sz, Met l y (.code y b mL (some .long) :: TT) (rmK k) (va_Pc av (pw K ws sz)) (va_Ql (S := Unit) (fun r _ => r = z) (fun _ t => va_P K.1 vwCl ws' t.heap) (va_A ws sz)) 0 0 (va_A ws sz)
def CtV (l : Launch) (y : MethodName) (b : ByteArray) (mL : Nat) (k : Nat × Nat) (K : KK) (av : List Value) (ws : va_W) (ws' : va_W) : Prop :=
  ∀ sz, Met l y (.code y b mL none :: TT) (rmK k) (va_Pc av (pw K ws sz)) (va_Qv (S := Unit) (fun _ => True) (fun _ t => va_P K.1 vwCl ws' t.heap) (va_A ws sz)) 0 0 (va_A ws sz)
def CtA (l : Launch) (y : MethodName) (b : ByteArray) (mL : Nat) (rt : FieldType) (k : Nat × Nat) (K : KK) (av : List Value) (ws : va_W) (a : Nat) (ws' : va_W) : Prop :=
  ∀ sz, Met l y (.code y b mL (some rt) :: TT) (rmK k) (va_Pc av (pw K ws sz)) (va_Qr (S := Unit) (fun _ => True) (fun _ r t => r = a ∧ va_P K.1 vwCl ws' t.heap) (va_A ws sz)) 0 0 (va_A ws sz)
theorem ctI_of {l : Launch} {y : MethodName} {b : ByteArray} {mL : Nat} {rt : FieldType} {z : Int} {k : Nat × Nat} {K : KK} {av : List Value} {ws ws' : va_W} (hy : plainName y.cls = true) (hlen : (lg_sl av).length ≤ mL) (hn9 : narrow rt (.int (iI z)) = .int (iI z))
    (body : ∀ x : Cx, OK l (rmK k) K x b mL y.cls → va_D (cx_A x) ws → ReI l (rmK k) K x b z ws' → GG l (rmK k) K x ws 0 (lv_args 0 av) []) : CtI l y b mL rt k K av ws z ws' := by
  intro sz
  refine Met.ofW (cc := b) (maxL := mL) (ret := some rt) hy rfl ?_
  intro p e s m args below meth c s₁ B hml hv
  obtain ⟨rfl, hsz, hP, hK, hD0⟩ := hv
  have hlocks := B.notSynchronized
  have hts0 := atoms_spec (ws := .code y b mL (some rt) :: TT) B.pre
  have hts : ∀ w ∈ TT, w.before av.toArray s = true := fun w hw => hts0 w (List.mem_cons_of_mem _ hw)
  have hown : s.vm.findClass y.cls = some m.cls := findClass_of_methodNamed B.named
  have hr := B.returns
  subst hsz
  rw [lg_entry_eq]
  refine body (p, e, s, m, av.toArray, below, meth, c, MQ below _ av.toArray s 0 0 (va_A ws s.heap.size), va_A ws s.heap.size, 0, 0) ⟨⟨⟨B.exec, B.bytes, hml, hown, hts⟩, hK⟩, fun q h => Or.inr h, Nat.zero_le _, Nat.zero_le _, rfl⟩ hD0.self ?_ s.heap [] _ hP va_S.rf (by rw [show (cx_c (p, e, s, m, av.toArray, below, meth, c, _, _, _, _)).maxLocals = mL from hml]; exact lv_entry av hlen)
  intro H locs ls pc hP9 hS9 hdg
  exact W.zret B.exec B.bytes hr hn9 (fun t ht hW => ⟨⟨iI z, (), rfl, rfl, by show va_P _ _ _ t.heap; rw [ht]; exact hP9⟩, hS9.F ht⟩) hS9.2.2 hdg
theorem ctL_of {l : Launch} {y : MethodName} {b : ByteArray} {mL : Nat} {z : Int64} {k : Nat × Nat} {K : KK} {av : List Value} {ws ws' : va_W} (hy : plainName y.cls = true) (hlen : (lg_sl av).length ≤ mL) 
    (body : ∀ x : Cx, OK l (rmK k) K x b mL y.cls → va_D (cx_A x) ws → ReL l (rmK k) K x b z ws' → GG l (rmK k) K x ws 0 (lv_args 0 av) []) : CtL l y b mL k K av ws z ws' := by
  intro sz
  refine Met.ofW (cc := b) (maxL := mL) (ret := some .long) hy rfl ?_
  intro p e s m args below meth c s₁ B hml hv
  obtain ⟨rfl, hsz, hP, hK, hD0⟩ := hv
  have hlocks := B.notSynchronized
  have hts0 := atoms_spec (ws := .code y b mL (some .long) :: TT) B.pre
  have hts : ∀ w ∈ TT, w.before av.toArray s = true := fun w hw => hts0 w (List.mem_cons_of_mem _ hw)
  have hown : s.vm.findClass y.cls = some m.cls := findClass_of_methodNamed B.named
  have hr := B.returns
  subst hsz
  rw [lg_entry_eq]
  refine body (p, e, s, m, av.toArray, below, meth, c, MQ below _ av.toArray s 0 0 (va_A ws s.heap.size), va_A ws s.heap.size, 0, 0) ⟨⟨⟨B.exec, B.bytes, hml, hown, hts⟩, hK⟩, fun q h => Or.inr h, Nat.zero_le _, Nat.zero_le _, rfl⟩ hD0.self ?_ s.heap [] _ hP va_S.rf (by rw [show (cx_c (p, e, s, m, av.toArray, below, meth, c, _, _, _, _)).maxLocals = mL from hml]; exact lv_entry av hlen)
  intro H locs ls pc hP9 hS9 hdg
  exact W.lret B.exec B.bytes hr (fun t ht hW => ⟨⟨z, (), rfl, rfl, by show va_P _ _ _ t.heap; rw [ht]; exact hP9⟩, hS9.F ht⟩) hS9.2.2 hdg
theorem ctV_of {l : Launch} {y : MethodName} {b : ByteArray} {mL : Nat}  {k : Nat × Nat} {K : KK} {av : List Value} {ws ws' : va_W} (hy : plainName y.cls = true) (hlen : (lg_sl av).length ≤ mL) 
    (body : ∀ x : Cx, OK l (rmK k) K x b mL y.cls → va_D (cx_A x) ws → ReV l (rmK k) K x b ws' → GG l (rmK k) K x ws 0 (lv_args 0 av) []) : CtV l y b mL k K av ws ws' := by
  intro sz
  refine Met.ofW (cc := b) (maxL := mL) (ret := none) hy rfl ?_
  intro p e s m args below meth c s₁ B hml hv
  obtain ⟨rfl, hsz, hP, hK, hD0⟩ := hv
  have hlocks := B.notSynchronized
  have hts0 := atoms_spec (ws := .code y b mL (none) :: TT) B.pre
  have hts : ∀ w ∈ TT, w.before av.toArray s = true := fun w hw => hts0 w (List.mem_cons_of_mem _ hw)
  have hown : s.vm.findClass y.cls = some m.cls := findClass_of_methodNamed B.named
  have hr := B.returns
  subst hsz
  rw [lg_entry_eq]
  refine body (p, e, s, m, av.toArray, below, meth, c, MQ below _ av.toArray s 0 0 (va_A ws s.heap.size), va_A ws s.heap.size, 0, 0) ⟨⟨⟨B.exec, B.bytes, hml, hown, hts⟩, hK⟩, fun q h => Or.inr h, Nat.zero_le _, Nat.zero_le _, rfl⟩ hD0.self ?_ s.heap [] _ hP va_S.rf (by rw [show (cx_c (p, e, s, m, av.toArray, below, meth, c, _, _, _, _)).maxLocals = mL from hml]; exact lv_entry av hlen)
  intro H locs ls pc hP9 hS9 hdg
  exact W.vret B.exec B.bytes hr (fun t ht hW => ⟨⟨(), rfl, trivial, by show va_P _ _ _ t.heap; rw [ht]; exact hP9⟩, hS9.F ht⟩) hS9.2.2 hdg
theorem ctA_of {l : Launch} {y : MethodName} {b : ByteArray} {mL : Nat} {rt : FieldType} {a : Nat} {k : Nat × Nat} {K : KK} {av : List Value} {ws ws' : va_W} (hy : plainName y.cls = true) (hlen : (lg_sl av).length ≤ mL) (hn9 : (∃ n, rt = .object n) ∨ ∃ t, rt = .array t)
    (body : ∀ x : Cx, OK l (rmK k) K x b mL y.cls → va_D (cx_A x) ws → ReA l (rmK k) K x b a ws' → GG l (rmK k) K x ws 0 (lv_args 0 av) []) : CtA l y b mL rt k K av ws a ws' := by
  intro sz
  refine Met.ofW (cc := b) (maxL := mL) (ret := some rt) hy rfl ?_
  intro p e s m args below meth c s₁ B hml hv
  obtain ⟨rfl, hsz, hP, hK, hD0⟩ := hv
  have hlocks := B.notSynchronized
  have hts0 := atoms_spec (ws := .code y b mL (some rt) :: TT) B.pre
  have hts : ∀ w ∈ TT, w.before av.toArray s = true := fun w hw => hts0 w (List.mem_cons_of_mem _ hw)
  have hown : s.vm.findClass y.cls = some m.cls := findClass_of_methodNamed B.named
  have hr := B.returns
  subst hsz
  rw [lg_entry_eq]
  refine body (p, e, s, m, av.toArray, below, meth, c, MQ below _ av.toArray s 0 0 (va_A ws s.heap.size), va_A ws s.heap.size, 0, 0) ⟨⟨⟨B.exec, B.bytes, hml, hown, hts⟩, hK⟩, fun q h => Or.inr h, Nat.zero_le _, Nat.zero_le _, rfl⟩ hD0.self ?_ s.heap [] _ hP va_S.rf (by rw [show (cx_c (p, e, s, m, av.toArray, below, meth, c, _, _, _, _)).maxLocals = mL from hml]; exact lv_entry av hlen)
  intro H locs ls pc hP9 hS9 hdg
  exact W.aret B.exec B.bytes hr hn9 (Or.inr ⟨a, rfl⟩) (fun t ht hW => ⟨⟨(), a, rfl, trivial, rfl, by show va_P _ _ _ t.heap; rw [ht]; exact hP9⟩, hS9.F ht⟩) hS9.2.2 hdg
/-- what a call takes along (wc) of a world (ws), what comes back (wc'), and the world then (ws') -/
def Jn (ws wc wc' ws' : va_W) : Prop := (∀ q ∈ wc, q ∈ ws) ∧ (∀ q ∈ ws', q ∈ wc' ∨ (q ∈ ws ∧ q.1 ∉ wc.map Prod.fst)) ∧ (∀ A, va_D A ws → va_D (fun _ => True) wc)
theorem jn_nil {ws : va_W} : Jn ws [] [] ws := ⟨fun _ h => absurd h List.not_mem_nil, fun q h => Or.inr ⟨h, by simp⟩, fun A _ => ⟨fun i j p q h => by simp at h, fun k q h => by simp at h⟩⟩
theorem jn_all {ws ws' : va_W} : Jn ws ws ws' ws' := ⟨fun _ h => h, fun q h => Or.inl h, fun A h => h.weaken (fun _ _ _ _ => trivial)⟩
theorem jn_P {D : va_G} {cl : List vw_C} {ws wc wc' ws' : va_W} {H H1 : Heap} (h : Jn ws wc wc' ws') (hP : va_P D cl ws H) (hP1 : va_P D cl wc' H1) (hk : ∀ q : Nat, q < H.size → ¬ va_A wc H.size q → H1[q]? = H[q]?) : va_P D cl ws' H1 := by
  intro k q hq
  rcases h.2.1 q (List.mem_of_getElem? hq) with h1 | ⟨h1, h2⟩
  · obtain ⟨i, hi⟩ := List.getElem?_of_mem h1
    exact hP1 i q hi
  · obtain ⟨i, hi⟩ := List.getElem?_of_mem h1
    have h3 := hP i q hi
    refine h3.kept (hk q.1 h3.lt ?_)
    rintro (⟨j, e, hj⟩ | h4)
    · exact h2 (List.mem_map.mpr ⟨(q.1, e), List.mem_of_getElem? hj, rfl⟩)
    · have := h3.lt
      omega
theorem jn_sub {D : va_G} {cl : List vw_C} {ws wc : va_W} {H : Heap} (h : ∀ q ∈ wc, q ∈ ws) (hP : va_P D cl ws H) : va_P D cl wc H := by
  intro k q hq
  obtain ⟨i, hi⟩ := List.getElem?_of_mem (h q (List.mem_of_getElem? hq))
  exact hP i q hi
theorem jn_free {A : Nat → Prop} {ws wc : va_W} {H0 H : Heap} {locs : List Loc} (h : ∀ q ∈ wc, q ∈ ws) (hD : va_D A ws) (hS : va_S A H0 H locs) (hA : ∀ q, H0.size ≤ q → A q) : ∀ q, va_A wc H.size q → A q := by
  rintro q (⟨k, e, hk⟩ | h1)
  · obtain ⟨i, hi⟩ := List.getElem?_of_mem (h _ (List.mem_of_getElem? hk))
    exact hD.2 i _ hi
  · exact hA q (Nat.le_trans hS.1 h1)
/-- the same addresses in the same order -/
theorem va_D_same {A : Nat → Prop} {ws ws' : va_W} (h : va_D A ws) (e : ws'.map Prod.fst = ws.map Prod.fst) : va_D A ws' := by
  have key : ∀ (k : Nat) (q : Nat × va_E), ws'[k]? = some q → ∃ q0, ws[k]? = some q0 ∧ q0.1 = q.1 := by
    intro k q hk
    have h1 : (ws'.map Prod.fst)[k]? = some q.1 := by rw [List.getElem?_map, hk]; rfl
    rw [e, List.getElem?_map] at h1
    cases hq : ws[k]? with
    | none => rw [hq] at h1; cases h1
    | some q0 => rw [hq] at h1; exact ⟨q0, rfl, Option.some.inj h1⟩
  refine ⟨fun i j p q hi hj hpq => ?_, fun k q hk => ?_⟩
  · obtain ⟨p0, h1, h2⟩ := key i p hi
    obtain ⟨q0, h3, h4⟩ := key j q hj
    exact h.1 i j p0 q0 h1 h3 (h2.trans (hpq.trans h4.symm))
  · obtain ⟨q0, h1, h2⟩ := key k q hk
    rw [← h2]
    exact h.2 k q0 h1
/-- what the tables say of a call: ordinary (LkV), static (LkS) -/
def LkV (own : String) (i : Nat) (y : MethodName) (b : ByteArray) (mL : Nat) (rt : Option FieldType) (n : Nat) : Prop := Cond.methodLink own i y ∈ TT ∧ Cond.instanceMethod y ∈ TT ∧ Cond.selects y.cls y y ∈ TT ∧ Cond.initialized y.cls ∈ TT ∧ Cond.code y b mL rt ∈ TT ∧ (y.cls ≠ "java/lang/invoke/MethodHandle" ∧ y.cls ≠ "java/lang/invoke/VarHandle" ∧ (parseMethodDescriptor y.desc).map (fun d => d.parameters.length) = some n)
def LkS (own : String) (i : Nat) (y : MethodName) (b : ByteArray) (mL : Nat) (rt : Option FieldType) (n : Nat) : Prop := Cond.methodLink own i y ∈ TT ∧ Cond.static y ∈ TT ∧ Cond.initialized y.cls ∈ TT ∧ Cond.code y b mL rt ∈ TT ∧ (y.cls ≠ "java/lang/invoke/MethodHandle" ∧ y.cls ≠ "java/lang/invoke/VarHandle" ∧ (parseMethodDescriptor y.desc).map (fun d => d.parameters.length) = some n)
theorem tt_good {y : MethodName} {b : ByteArray} {mL : Nat} {rt : Option FieldType} (h : Cond.code y b mL rt ∈ TT) : GoodIn TT (.code y b mL rt :: TT) := by
  intro w hw
  have h1 : w ∈ TT := by
    rcases List.mem_cons.mp hw with rfl | h1
    · exact h
    · exact h1
  exact ⟨h1, good_of_word (List.mem_filter.mp h1).2⟩
theorem pw_blind {K : KK} {ws : va_W} {sz : Nat} {av : List Value} : FrameBlind (va_Pc av (pw K ws sz)) := fun a U g mk q => by
  obtain ⟨q0, q1, qP, qK, qD⟩ := q
  exact ⟨q0, q1, qP, va_K.moved (u := U) (U := U.calling g mk a) (Vm.Alike.refl U.vm) qK, qD⟩
theorem gx_callVI {l : Launch} {R : Room} {K : KK} {x : Cx} {cc : ByteArray} {nL : Nat} {own : String} {ws wc wc' ws' : va_W} {pc : Nat} {lv : List (Nat × Value)} {rest : List Value} {y : MethodName} {b : ByteArray} {mL i n : Nat} {k : Nat × Nat} {rt : FieldType} {z : Int} {As : List Value} (X : OK l R K x cc nL own) (hD : va_D (cx_A x) ws) (L : LkV own i y b mL (some rt) n) {a : Nat} {ci : Nat} {fs : List Value} {r : vw_C} (hc :  vwCl[ci]? = some r) (hcn : r.1 = y.cls) (q0 : Nat) (hq : wc[q0]? = some (a, .inr (ci, fs))) (hM : CtI l y b mL rt k K (.ref a :: As) wc z wc') (J : Jn ws wc wc' ws') (hn : As.length = n) (hR : (rmK k).frames + 1 ≤ R.frames ∧ 8 + (mL + 11) + (rmK k).locals ≤ R.locals) (hr : (rest.map fun v => v.category).sum ≤ 8) (hdg : decode cc pc = .ok (.invokevirtual i, 3)) (kk : GG l R K x ws' (pc + 3) lv (.int (iI z) :: rest)) : GG l R K x ws pc lv (As.reverse ++ .ref a :: rest) := by
  intro H locs ls hP hS hl
  have hPc := jn_sub J.1 hP
  have hF := jn_free J.1 hD hS X.2.1
  refine va_calli (va_runV (C := y.cls) (As := As) (rest := rest) (g := F0 (cx_m x) pc ls (As.reverse ++ .ref a :: rest)) X.1.1 (hM H.size) ⟨callB_of n X.1.1.2.2.2.2 (tt_good L.2.2.2.2.1) rfl rfl rfl (X.1.1.2.2.2.2 _ L.2.2.2.1) (X.1.1.2.2.2.2 _ L.1) L.2.2.2.2.2 hR, X.1.1.2.2.2.2 _ L.2.1, X.1.1.2.2.2.2 _ L.2.2.1⟩ ⟨pw_blind, by rw [← hcn]; exact va_recv X.1.2 hPc hc hq, fun U hU hW => ⟨rfl, by rw [hU], by rw [hU]; exact hPc, va_K.moved hW.alike X.1.2, J.2.2 _ hD⟩⟩ rfl hn (by show ls.size = nL; rw [hl.1]; exact X.1.1.2.2.1) rfl (lv_room hr) hdg ⟨X.2.2.1, X.2.2.2.1⟩) hS (fun q _ h => hF q h) hF (fun r u t H1 locs1 ht hvm hw hB hz1 hk1 hS1 => ?_)
  subst hw
  rw [ht] at hB
  exact kk H1 locs1 ls (jn_P J hP hB hk1) hS1 hl
theorem gx_callVL {l : Launch} {R : Room} {K : KK} {x : Cx} {cc : ByteArray} {nL : Nat} {own : String} {ws wc wc' ws' : va_W} {pc : Nat} {lv : List (Nat × Value)} {rest : List Value} {y : MethodName} {b : ByteArray} {mL i n : Nat} {k : Nat × Nat} {z : Int64} {As : List Value} (X : OK l R K x cc nL own) (hD : va_D (cx_A x) ws) (L : LkV own i y b mL (some .long) n) {a : Nat} {ci : Nat} {fs : List Value} {r : vw_C} (hc :  vwCl[ci]? = some r) (hcn : r.1 = y.cls) (q0 : Nat) (hq : wc[q0]? = some (a, .inr (ci, fs))) (hM : CtL l y b mL k K (.ref a :: As) wc z wc') (J : Jn ws wc wc' ws') (hn : As.length = n) (hR : (rmK k).frames + 1 ≤ R.frames ∧ 8 + (mL + 11) + (rmK k).locals ≤ R.locals) (hr : (rest.map fun v => v.category).sum ≤ 8) (hdg : decode cc pc = .ok (.invokevirtual i, 3)) (kk : GG l R K x ws' (pc + 3) lv (.long z :: rest)) : GG l R K x ws pc lv (As.reverse ++ .ref a :: rest) := by
  intro H locs ls hP hS hl
  have hPc := jn_sub J.1 hP
  have hF := jn_free J.1 hD hS X.2.1
  refine va_calll (va_runV (C := y.cls) (As := As) (rest := rest) (g := F0 (cx_m x) pc ls (As.reverse ++ .ref a :: rest)) X.1.1 (hM H.size) ⟨callB_of n X.1.1.2.2.2.2 (tt_good L.2.2.2.2.1) rfl rfl rfl (X.1.1.2.2.2.2 _ L.2.2.2.1) (X.1.1.2.2.2.2 _ L.1) L.2.2.2.2.2 hR, X.1.1.2.2.2.2 _ L.2.1, X.1.1.2.2.2.2 _ L.2.2.1⟩ ⟨pw_blind, by rw [← hcn]; exact va_recv X.1.2 hPc hc hq, fun U hU hW => ⟨rfl, by rw [hU], by rw [hU]; exact hPc, va_K.moved hW.alike X.1.2, J.2.2 _ hD⟩⟩ rfl hn (by show ls.size = nL; rw [hl.1]; exact X.1.1.2.2.1) rfl (lv_room hr) hdg ⟨X.2.2.1, X.2.2.2.1⟩) hS (fun q _ h => hF q h) hF (fun r u t H1 locs1 ht hvm hw hB hz1 hk1 hS1 => ?_)
  subst hw
  rw [ht] at hB
  exact kk H1 locs1 ls (jn_P J hP hB hk1) hS1 hl
theorem gx_callVV {l : Launch} {R : Room} {K : KK} {x : Cx} {cc : ByteArray} {nL : Nat} {own : String} {ws wc wc' ws' : va_W} {pc : Nat} {lv : List (Nat × Value)} {rest : List Value} {y : MethodName} {b : ByteArray} {mL i n : Nat} {k : Nat × Nat}  {As : List Value} (X : OK l R K x cc nL own) (hD : va_D (cx_A x) ws) (L : LkV own i y b mL none n) {a : Nat} {ci : Nat} {fs : List Value} {r : vw_C} (hc :  vwCl[ci]? = some r) (hcn : r.1 = y.cls) (q0 : Nat) (hq : wc[q0]? = some (a, .inr (ci, fs))) (hM : CtV l y b mL k K (.ref a :: As) wc wc') (J : Jn ws wc wc' ws') (hn : As.length = n) (hR : (rmK k).frames + 1 ≤ R.frames ∧ 8 + (mL + 11) + (rmK k).locals ≤ R.locals) (hr : (rest.map fun v => v.category).sum ≤ 8) (hdg : decode cc pc = .ok (.invokevirtual i, 3)) (kk : GG l R K x ws' (pc + 3) lv (rest)) : GG l R K x ws pc lv (As.reverse ++ .ref a :: rest) := by
  intro H locs ls hP hS hl
  have hPc := jn_sub J.1 hP
  have hF := jn_free J.1 hD hS X.2.1
  refine va_callv (va_runV (C := y.cls) (As := As) (rest := rest) (g := F0 (cx_m x) pc ls (As.reverse ++ .ref a :: rest)) X.1.1 (hM H.size) ⟨callB_of n X.1.1.2.2.2.2 (tt_good L.2.2.2.2.1) rfl rfl rfl (X.1.1.2.2.2.2 _ L.2.2.2.1) (X.1.1.2.2.2.2 _ L.1) L.2.2.2.2.2 hR, X.1.1.2.2.2.2 _ L.2.1, X.1.1.2.2.2.2 _ L.2.2.1⟩ ⟨pw_blind, by rw [← hcn]; exact va_recv X.1.2 hPc hc hq, fun U hU hW => ⟨rfl, by rw [hU], by rw [hU]; exact hPc, va_K.moved hW.alike X.1.2, J.2.2 _ hD⟩⟩ rfl hn (by show ls.size = nL; rw [hl.1]; exact X.1.1.2.2.1) rfl (lv_room hr) hdg ⟨X.2.2.1, X.2.2.2.1⟩) hS (fun q _ h => hF q h) hF (fun u t H1 locs1 ht hvm hw hB hz1 hk1 hS1 => ?_)
  rw [ht] at hB
  exact kk H1 locs1 ls (jn_P J hP hB hk1) hS1 hl
theorem gx_callVA {l : Launch} {R : Room} {K : KK} {x : Cx} {cc : ByteArray} {nL : Nat} {own : String} {ws wc wc' ws' : va_W} {pc : Nat} {lv : List (Nat × Value)} {rest : List Value} {y : MethodName} {b : ByteArray} {mL i n : Nat} {k : Nat × Nat} {rt : FieldType} {z : Nat} {As : List Value} (X : OK l R K x cc nL own) (hD : va_D (cx_A x) ws) (L : LkV own i y b mL (some rt) n) {a : Nat} {ci : Nat} {fs : List Value} {r : vw_C} (hc :  vwCl[ci]? = some r) (hcn : r.1 = y.cls) (q0 : Nat) (hq : wc[q0]? = some (a, .inr (ci, fs))) (hM : CtA l y b mL rt k K (.ref a :: As) wc z wc') (J : Jn ws wc wc' ws') (hn : As.length = n) (hR : (rmK k).frames + 1 ≤ R.frames ∧ 8 + (mL + 11) + (rmK k).locals ≤ R.locals) (hr : (rest.map fun v => v.category).sum ≤ 8) (hdg : decode cc pc = .ok (.invokevirtual i, 3)) (kk : GG l R K x ws' (pc + 3) lv (.ref z :: rest)) : GG l R K x ws pc lv (As.reverse ++ .ref a :: rest) := by
  intro H locs ls hP hS hl
  have hPc := jn_sub J.1 hP
  have hF := jn_free J.1 hD hS X.2.1
  refine va_callr (va_runV (C := y.cls) (As := As) (rest := rest) (g := F0 (cx_m x) pc ls (As.reverse ++ .ref a :: rest)) X.1.1 (hM H.size) ⟨callB_of n X.1.1.2.2.2.2 (tt_good L.2.2.2.2.1) rfl rfl rfl (X.1.1.2.2.2.2 _ L.2.2.2.1) (X.1.1.2.2.2.2 _ L.1) L.2.2.2.2.2 hR, X.1.1.2.2.2.2 _ L.2.1, X.1.1.2.2.2.2 _ L.2.2.1⟩ ⟨pw_blind, by rw [← hcn]; exact va_recv X.1.2 hPc hc hq, fun U hU hW => ⟨rfl, by rw [hU], by rw [hU]; exact hPc, va_K.moved hW.alike X.1.2, J.2.2 _ hD⟩⟩ rfl hn (by show ls.size = nL; rw [hl.1]; exact X.1.1.2.2.1) rfl (lv_room hr) hdg ⟨X.2.2.1, X.2.2.2.1⟩) hS (fun q _ h => hF q h) hF (fun u ra t H1 locs1 ht hvm hw hB hz1 hk1 hS1 => ?_)
  obtain ⟨rfl, hP1⟩ := hB
  rw [ht] at hP1
  exact kk H1 locs1 ls (jn_P J hP hP1 hk1) hS1 hl
theorem gx_callSI {l : Launch} {R : Room} {K : KK} {x : Cx} {cc : ByteArray} {nL : Nat} {own : String} {ws wc wc' ws' : va_W} {pc : Nat} {lv : List (Nat × Value)} {rest : List Value} {y : MethodName} {b : ByteArray} {mL i n : Nat} {k : Nat × Nat} {rt : FieldType} {z : Int} {As : List Value} (X : OK l R K x cc nL own) (hD : va_D (cx_A x) ws) (L : LkS own i y b mL (some rt) n)  (hM : CtI l y b mL rt k K As wc z wc') (J : Jn ws wc wc' ws') (hn : As.length = n) (hR : (rmK k).frames + 1 ≤ R.frames ∧ 8 + (mL + 11) + (rmK k).locals ≤ R.locals) (hr : (rest.map fun v => v.category).sum ≤ 8) (hdg : decode cc pc = .ok (.invokestatic i, 3)) (kk : GG l R K x ws' (pc + 3) lv (.int (iI z) :: rest)) : GG l R K x ws pc lv (As.reverse ++ rest) := by
  intro H locs ls hP hS hl
  have hPc := jn_sub J.1 hP
  have hF := jn_free J.1 hD hS X.2.1
  refine va_calli (va_runS (As := As) (rest := rest) (g := F0 (cx_m x) pc ls (As.reverse ++ rest)) X.1.1 (hM H.size) ⟨callB_of n X.1.1.2.2.2.2 (tt_good L.2.2.2.1) rfl rfl rfl (X.1.1.2.2.2.2 _ L.2.2.1) (X.1.1.2.2.2.2 _ L.1) L.2.2.2.2 hR, X.1.1.2.2.2.2 _ L.2.1⟩ ⟨pw_blind, fun U hU hW => ⟨rfl, by rw [hU], by rw [hU]; exact hPc, va_K.moved hW.alike X.1.2, J.2.2 _ hD⟩⟩ rfl hn (by show ls.size = nL; rw [hl.1]; exact X.1.1.2.2.1) rfl (lv_room hr) hdg ⟨X.2.2.1, X.2.2.2.1⟩) hS (fun q _ h => hF q h) hF (fun r u t H1 locs1 ht hvm hw hB hz1 hk1 hS1 => ?_)
  subst hw
  rw [ht] at hB
  exact kk H1 locs1 ls (jn_P J hP hB hk1) hS1 hl
theorem gx_callSL {l : Launch} {R : Room} {K : KK} {x : Cx} {cc : ByteArray} {nL : Nat} {own : String} {ws wc wc' ws' : va_W} {pc : Nat} {lv : List (Nat × Value)} {rest : List Value} {y : MethodName} {b : ByteArray} {mL i n : Nat} {k : Nat × Nat} {z : Int64} {As : List Value} (X : OK l R K x cc nL own) (hD : va_D (cx_A x) ws) (L : LkS own i y b mL (some .long) n)  (hM : CtL l y b mL k K As wc z wc') (J : Jn ws wc wc' ws') (hn : As.length = n) (hR : (rmK k).frames + 1 ≤ R.frames ∧ 8 + (mL + 11) + (rmK k).locals ≤ R.locals) (hr : (rest.map fun v => v.category).sum ≤ 8) (hdg : decode cc pc = .ok (.invokestatic i, 3)) (kk : GG l R K x ws' (pc + 3) lv (.long z :: rest)) : GG l R K x ws pc lv (As.reverse ++ rest) := by
  intro H locs ls hP hS hl
  have hPc := jn_sub J.1 hP
  have hF := jn_free J.1 hD hS X.2.1
  refine va_calll (va_runS (As := As) (rest := rest) (g := F0 (cx_m x) pc ls (As.reverse ++ rest)) X.1.1 (hM H.size) ⟨callB_of n X.1.1.2.2.2.2 (tt_good L.2.2.2.1) rfl rfl rfl (X.1.1.2.2.2.2 _ L.2.2.1) (X.1.1.2.2.2.2 _ L.1) L.2.2.2.2 hR, X.1.1.2.2.2.2 _ L.2.1⟩ ⟨pw_blind, fun U hU hW => ⟨rfl, by rw [hU], by rw [hU]; exact hPc, va_K.moved hW.alike X.1.2, J.2.2 _ hD⟩⟩ rfl hn (by show ls.size = nL; rw [hl.1]; exact X.1.1.2.2.1) rfl (lv_room hr) hdg ⟨X.2.2.1, X.2.2.2.1⟩) hS (fun q _ h => hF q h) hF (fun r u t H1 locs1 ht hvm hw hB hz1 hk1 hS1 => ?_)
  subst hw
  rw [ht] at hB
  exact kk H1 locs1 ls (jn_P J hP hB hk1) hS1 hl
theorem gx_callSV {l : Launch} {R : Room} {K : KK} {x : Cx} {cc : ByteArray} {nL : Nat} {own : String} {ws wc wc' ws' : va_W} {pc : Nat} {lv : List (Nat × Value)} {rest : List Value} {y : MethodName} {b : ByteArray} {mL i n : Nat} {k : Nat × Nat}  {As : List Value} (X : OK l R K x cc nL own) (hD : va_D (cx_A x) ws) (L : LkS own i y b mL none n)  (hM : CtV l y b mL k K As wc wc') (J : Jn ws wc wc' ws') (hn : As.length = n) (hR : (rmK k).frames + 1 ≤ R.frames ∧ 8 + (mL + 11) + (rmK k).locals ≤ R.locals) (hr : (rest.map fun v => v.category).sum ≤ 8) (hdg : decode cc pc = .ok (.invokestatic i, 3)) (kk : GG l R K x ws' (pc + 3) lv (rest)) : GG l R K x ws pc lv (As.reverse ++ rest) := by
  intro H locs ls hP hS hl
  have hPc := jn_sub J.1 hP
  have hF := jn_free J.1 hD hS X.2.1
  refine va_callv (va_runS (As := As) (rest := rest) (g := F0 (cx_m x) pc ls (As.reverse ++ rest)) X.1.1 (hM H.size) ⟨callB_of n X.1.1.2.2.2.2 (tt_good L.2.2.2.1) rfl rfl rfl (X.1.1.2.2.2.2 _ L.2.2.1) (X.1.1.2.2.2.2 _ L.1) L.2.2.2.2 hR, X.1.1.2.2.2.2 _ L.2.1⟩ ⟨pw_blind, fun U hU hW => ⟨rfl, by rw [hU], by rw [hU]; exact hPc, va_K.moved hW.alike X.1.2, J.2.2 _ hD⟩⟩ rfl hn (by show ls.size = nL; rw [hl.1]; exact X.1.1.2.2.1) rfl (lv_room hr) hdg ⟨X.2.2.1, X.2.2.2.1⟩) hS (fun q _ h => hF q h) hF (fun u t H1 locs1 ht hvm hw hB hz1 hk1 hS1 => ?_)
  rw [ht] at hB
  exact kk H1 locs1 ls (jn_P J hP hB hk1) hS1 hl
theorem gx_callSA {l : Launch} {R : Room} {K : KK} {x : Cx} {cc : ByteArray} {nL : Nat} {own : String} {ws wc wc' ws' : va_W} {pc : Nat} {lv : List (Nat × Value)} {rest : List Value} {y : MethodName} {b : ByteArray} {mL i n : Nat} {k : Nat × Nat} {rt : FieldType} {z : Nat} {As : List Value} (X : OK l R K x cc nL own) (hD : va_D (cx_A x) ws) (L : LkS own i y b mL (some rt) n)  (hM : CtA l y b mL rt k K As wc z wc') (J : Jn ws wc wc' ws') (hn : As.length = n) (hR : (rmK k).frames + 1 ≤ R.frames ∧ 8 + (mL + 11) + (rmK k).locals ≤ R.locals) (hr : (rest.map fun v => v.category).sum ≤ 8) (hdg : decode cc pc = .ok (.invokestatic i, 3)) (kk : GG l R K x ws' (pc + 3) lv (.ref z :: rest)) : GG l R K x ws pc lv (As.reverse ++ rest) := by
  intro H locs ls hP hS hl
  have hPc := jn_sub J.1 hP
  have hF := jn_free J.1 hD hS X.2.1
  refine va_callr (va_runS (As := As) (rest := rest) (g := F0 (cx_m x) pc ls (As.reverse ++ rest)) X.1.1 (hM H.size) ⟨callB_of n X.1.1.2.2.2.2 (tt_good L.2.2.2.1) rfl rfl rfl (X.1.1.2.2.2.2 _ L.2.2.1) (X.1.1.2.2.2.2 _ L.1) L.2.2.2.2 hR, X.1.1.2.2.2.2 _ L.2.1⟩ ⟨pw_blind, fun U hU hW => ⟨rfl, by rw [hU], by rw [hU]; exact hPc, va_K.moved hW.alike X.1.2, J.2.2 _ hD⟩⟩ rfl hn (by show ls.size = nL; rw [hl.1]; exact X.1.1.2.2.1) rfl (lv_room hr) hdg ⟨X.2.2.1, X.2.2.2.1⟩) hS (fun q _ h => hF q h) hF (fun u ra t H1 locs1 ht hvm hw hB hz1 hk1 hS1 => ?_)
  obtain ⟨rfl, hP1⟩ := hB
  rw [ht] at hP1
  exact kk H1 locs1 ls (jn_P J hP hP1 hk1) hS1 hl
end
section
theorem i_M0 : ∀ w ∈ u_ws RX3 TX3 26, w ∈ lw_tbl := by decide +kernel
theorem i_M1 : (u_ws RX3 TX3 26).all goodWord = true := by decide +kernel
theorem i_M : ∀ w ∈ u_ws RX3 TX3 26, w ∈ TT := fun w h => List.mem_filter.mpr ⟨i_M0 w h, List.all_eq_true.mp i_M1 w h⟩
theorem t_M_7 : Cond.fieldLink RX3 7 "TurnedCardsModel" "cards" "I" ∈ TT := tt_mem 595 (by decide +kernel) (by decide +kernel)
theorem t_M_13 : Cond.fieldLink RX3 13 "TurnedCardsModel" "colour" "[I" ∈ TT := tt_mem 597 (by decide +kernel) (by decide +kernel)
theorem t_M_17 : Cond.fieldLink RX3 17 "TurnedCardsModel" "at" "[I" ∈ TT := tt_mem 598 (by decide +kernel) (by decide +kernel)
theorem t_M_20 : Cond.fieldLink RX3 20 "TurnedCardsModel" "way" "[I" ∈ TT := tt_mem 599 (by decide +kernel) (by decide +kernel)
theorem t_M_23 : Cond.fieldLink RX3 23 "TurnedCardsModel" "pack" "[I" ∈ TT := tt_mem 600 (by decide +kernel) (by decide +kernel)
theorem t_M_26 : Cond.fieldLink RX3 26 "TurnedCardsModel" "twist" "[I" ∈ TT := tt_mem 601 (by decide +kernel) (by decide +kernel)
theorem t_M_29 : Cond.fieldLink RX3 29 "TurnedCardsModel" "idle" "[I" ∈ TT := tt_mem 602 (by decide +kernel) (by decide +kernel)
theorem t_M_32 : Cond.fieldLink RX3 32 "TurnedCardsModel" "flips" "[I" ∈ TT := tt_mem 603 (by decide +kernel) (by decide +kernel)
theorem t_M_35 : Cond.fieldLink RX3 35 "TurnedCardsModel" "wasAt" "[I" ∈ TT := tt_mem 604 (by decide +kernel) (by decide +kernel)
theorem t_M_38 : Cond.fieldLink RX3 38 "TurnedCardsModel" "wasWay" "[I" ∈ TT := tt_mem 605 (by decide +kernel) (by decide +kernel)
theorem t_M_41 : Cond.fieldLink RX3 41 "TurnedCardsModel" "wasTwist" "[I" ∈ TT := tt_mem 606 (by decide +kernel) (by decide +kernel)
theorem t_M_44 : Cond.fieldLink RX3 44 "TurnedCardsModel" "wasIdle" "[I" ∈ TT := tt_mem 607 (by decide +kernel) (by decide +kernel)
theorem t_M_47 : Cond.fieldLink RX3 47 "TurnedCardsModel" "wasFlips" "[I" ∈ TT := tt_mem 608 (by decide +kernel) (by decide +kernel)
theorem t_M_50 : Cond.fieldLink RX3 50 "TurnedCardsModel" "turns" "[I" ∈ TT := tt_mem 609 (by decide +kernel) (by decide +kernel)
theorem t_M_53 : Cond.fieldLink RX3 53 "TurnedCardsModel" "front" "[I" ∈ TT := tt_mem 610 (by decide +kernel) (by decide +kernel)
theorem t_M_56 : Cond.fieldLink RX3 56 "TurnedCardsModel" "back" "[I" ∈ TT := tt_mem 611 (by decide +kernel) (by decide +kernel)
theorem t_M_59 : Cond.fieldLink RX3 59 "TurnedCardsModel" "slants" "[I" ∈ TT := tt_mem 612 (by decide +kernel) (by decide +kernel)
theorem t_M_62 : Cond.fieldLink RX3 62 "TurnedCardsModel" "picture" "[I" ∈ TT := tt_mem 613 (by decide +kernel) (by decide +kernel)
theorem t_M_65 : Cond.fieldLink RX3 65 "TurnedCardsModel" "height" "I" ∈ TT := tt_mem 614 (by decide +kernel) (by decide +kernel)
theorem t_M_68 : Cond.fieldLink RX3 68 "TurnedCardsModel" "floats" "I" ∈ TT := tt_mem 615 (by decide +kernel) (by decide +kernel)
theorem t_M_71 : Jvm.Cond.constant RX3 71 (302560) ∈ TT := tt_mem 589 (by decide +kernel) (by decide +kernel)
theorem t_M_72 : Cond.fieldLink RX3 72 "TurnedCardsModel" "best" "[I" ∈ TT := tt_mem 616 (by decide +kernel) (by decide +kernel)
theorem t_M_75 : Cond.fieldLink RX3 75 "TurnedCardsModel" "found" "[I" ∈ TT := tt_mem 617 (by decide +kernel) (by decide +kernel)
theorem t_M_78 : Cond.fieldLink RX3 78 "TurnedCardsModel" "all" "[I" ∈ TT := tt_mem 618 (by decide +kernel) (by decide +kernel)
theorem lk_M_81 : LkV RX3 81 yX3_begin cX3_begin 3 none 1 := ⟨tt_mem 590 (by decide +kernel) (by decide +kernel), tt_mem 592 (by decide +kernel) (by decide +kernel), tt_mem 28 (by decide +kernel) (by decide +kernel), tt_mem 52 (by decide +kernel) (by decide +kernel), tt_mem 593 (by decide +kernel) (by decide +kernel), (by decide +kernel), (by decide +kernel), (by decide +kernel)⟩
theorem t_M_85 : Cond.fieldLink RX3 85 "TurnedCardsModel" "thrown" "I" ∈ TT := tt_mem 594 (by decide +kernel) (by decide +kernel)
theorem lk_M_88 : LkS RX3 88 yX3_in cX3_in 6 (some .boolean) 3 := ⟨tt_mem 678 (by decide +kernel) (by decide +kernel), tt_mem 679 (by decide +kernel) (by decide +kernel), tt_mem 52 (by decide +kernel) (by decide +kernel), tt_mem 680 (by decide +kernel) (by decide +kernel), (by decide +kernel), (by decide +kernel), (by decide +kernel)⟩
theorem t_M_92 : Cond.fieldLink RX3 92 "TurnedCardsModel" "picks" "I" ∈ TT := tt_mem 596 (by decide +kernel) (by decide +kernel)
theorem t_M_95 : Jvm.Cond.constantLong RX3 95 (lI (16)) ∈ TT := tt_mem 677 (by decide +kernel) (by decide +kernel)
theorem lk_M_97 : LkV RX3 97 yX3_noCard cX3_noCard 2 (some .boolean) 1 := ⟨tt_mem 685 (by decide +kernel) (by decide +kernel), tt_mem 687 (by decide +kernel) (by decide +kernel), tt_mem 29 (by decide +kernel) (by decide +kernel), tt_mem 52 (by decide +kernel) (by decide +kernel), tt_mem 688 (by decide +kernel) (by decide +kernel), (by decide +kernel), (by decide +kernel), (by decide +kernel)⟩
theorem t_M_101 : Jvm.Cond.constantLong RX3 101 (lI (3)) ∈ TT := tt_mem 689 (by decide +kernel) (by decide +kernel)
theorem t_M_103 : Jvm.Cond.constantLong RX3 103 (lI (7)) ∈ TT := tt_mem 690 (by decide +kernel) (by decide +kernel)
theorem lk_M_105 : LkV RX3 105 yX3_keep cX3_keep 4 none 1 := ⟨tt_mem 719 (by decide +kernel) (by decide +kernel), tt_mem 721 (by decide +kernel) (by decide +kernel), tt_mem 31 (by decide +kernel) (by decide +kernel), tt_mem 52 (by decide +kernel) (by decide +kernel), tt_mem 722 (by decide +kernel) (by decide +kernel), (by decide +kernel), (by decide +kernel), (by decide +kernel)⟩
theorem lk_M_108 : LkV RX3 108 yX3_move cX3_move 6 none 2 := ⟨tt_mem 723 (by decide +kernel) (by decide +kernel), tt_mem 725 (by decide +kernel) (by decide +kernel), tt_mem 32 (by decide +kernel) (by decide +kernel), tt_mem 52 (by decide +kernel) (by decide +kernel), tt_mem 726 (by decide +kernel) (by decide +kernel), (by decide +kernel), (by decide +kernel), (by decide +kernel)⟩
theorem lk_M_112 : LkV RX3 112 yX3_make cX3_make 4 none 2 := ⟨tt_mem 715 (by decide +kernel) (by decide +kernel), tt_mem 717 (by decide +kernel) (by decide +kernel), tt_mem 30 (by decide +kernel) (by decide +kernel), tt_mem 52 (by decide +kernel) (by decide +kernel), tt_mem 718 (by decide +kernel) (by decide +kernel), (by decide +kernel), (by decide +kernel), (by decide +kernel)⟩
theorem t_M_115 : Jvm.Cond.constantLong RX3 115 (lI (2)) ∈ TT := tt_mem 731 (by decide +kernel) (by decide +kernel)
theorem lk_M_117 : LkV RX3 117 yX3_noPick cX3_noPick 2 (some .boolean) 1 := ⟨tt_mem 740 (by decide +kernel) (by decide +kernel), tt_mem 742 (by decide +kernel) (by decide +kernel), tt_mem 33 (by decide +kernel) (by decide +kernel), tt_mem 52 (by decide +kernel) (by decide +kernel), tt_mem 743 (by decide +kernel) (by decide +kernel), (by decide +kernel), (by decide +kernel), (by decide +kernel)⟩
theorem lk_M_120 : LkV RX3 120 yX3_behindOf cX3_behindOf 3 (some .int) 2 := ⟨tt_mem 748 (by decide +kernel) (by decide +kernel), tt_mem 750 (by decide +kernel) (by decide +kernel), tt_mem 34 (by decide +kernel) (by decide +kernel), tt_mem 52 (by decide +kernel) (by decide +kernel), tt_mem 751 (by decide +kernel) (by decide +kernel), (by decide +kernel), (by decide +kernel), (by decide +kernel)⟩
theorem lk_M_124 : LkV RX3 124 yX3_colourOf cX3_colourOf 3 (some .int) 2 := ⟨tt_mem 752 (by decide +kernel) (by decide +kernel), tt_mem 754 (by decide +kernel) (by decide +kernel), tt_mem 35 (by decide +kernel) (by decide +kernel), tt_mem 52 (by decide +kernel) (by decide +kernel), tt_mem 755 (by decide +kernel) (by decide +kernel), (by decide +kernel), (by decide +kernel), (by decide +kernel)⟩
theorem lk_M_127 : LkV RX3 127 yX3_isLike cX3_isLike 5 (some .boolean) 2 := ⟨tt_mem 776 (by decide +kernel) (by decide +kernel), tt_mem 778 (by decide +kernel) (by decide +kernel), tt_mem 36 (by decide +kernel) (by decide +kernel), tt_mem 52 (by decide +kernel) (by decide +kernel), tt_mem 779 (by decide +kernel) (by decide +kernel), (by decide +kernel), (by decide +kernel), (by decide +kernel)⟩
theorem lk_M_131 : LkS RX3 131 yX3_size cX3_size 1 (some .int) 1 := ⟨tt_mem 792 (by decide +kernel) (by decide +kernel), tt_mem 793 (by decide +kernel) (by decide +kernel), tt_mem 52 (by decide +kernel) (by decide +kernel), tt_mem 794 (by decide +kernel) (by decide +kernel), (by decide +kernel), (by decide +kernel), (by decide +kernel)⟩
theorem lk_M_135 : LkV RX3 135 yX3_goes cX3_goes 6 (some .boolean) 3 := ⟨tt_mem 804 (by decide +kernel) (by decide +kernel), tt_mem 806 (by decide +kernel) (by decide +kernel), tt_mem 38 (by decide +kernel) (by decide +kernel), tt_mem 52 (by decide +kernel) (by decide +kernel), tt_mem 807 (by decide +kernel) (by decide +kernel), (by decide +kernel), (by decide +kernel), (by decide +kernel)⟩
theorem t_M_139 : Jvm.Cond.constantLong RX3 139 (lI (60)) ∈ TT := tt_mem 799 (by decide +kernel) (by decide +kernel)
theorem lk_M_141 : LkV RX3 141 yX3_goingOf cX3_goingOf 4 (some .int) 2 := ⟨tt_mem 800 (by decide +kernel) (by decide +kernel), tt_mem 802 (by decide +kernel) (by decide +kernel), tt_mem 37 (by decide +kernel) (by decide +kernel), tt_mem 52 (by decide +kernel) (by decide +kernel), tt_mem 803 (by decide +kernel) (by decide +kernel), (by decide +kernel), (by decide +kernel), (by decide +kernel)⟩
theorem t_M_144 : Jvm.Cond.constantLong RX3 144 (lI (29)) ∈ TT := tt_mem 816 (by decide +kernel) (by decide +kernel)
theorem t_M_146 : Jvm.Cond.constantLong RX3 146 (lI (30)) ∈ TT := tt_mem 821 (by decide +kernel) (by decide +kernel)
theorem t_M_148 : Jvm.Cond.constantLong RX3 148 (lI (9)) ∈ TT := tt_mem 822 (by decide +kernel) (by decide +kernel)
theorem lk_M_150 : LkV RX3 150 yX3_seenRows cX3_seenRows 1 (some .int) 0 := ⟨tt_mem 827 (by decide +kernel) (by decide +kernel), tt_mem 829 (by decide +kernel) (by decide +kernel), tt_mem 39 (by decide +kernel) (by decide +kernel), tt_mem 52 (by decide +kernel) (by decide +kernel), tt_mem 830 (by decide +kernel) (by decide +kernel), (by decide +kernel), (by decide +kernel), (by decide +kernel)⟩
theorem lk_M_154 : LkV RX3 154 yX3_fits cX3_fits 4 (some .boolean) 3 := ⟨tt_mem 831 (by decide +kernel) (by decide +kernel), tt_mem 833 (by decide +kernel) (by decide +kernel), tt_mem 40 (by decide +kernel) (by decide +kernel), tt_mem 52 (by decide +kernel) (by decide +kernel), tt_mem 834 (by decide +kernel) (by decide +kernel), (by decide +kernel), (by decide +kernel), (by decide +kernel)⟩
theorem lk_M_157 : LkS RX3 157 yX3_spot cX3_spot 5 (some .int) 5 := ⟨tt_mem 843 (by decide +kernel) (by decide +kernel), tt_mem 844 (by decide +kernel) (by decide +kernel), tt_mem 52 (by decide +kernel) (by decide +kernel), tt_mem 845 (by decide +kernel) (by decide +kernel), (by decide +kernel), (by decide +kernel), (by decide +kernel)⟩
theorem t_M_161 : Jvm.Cond.constant RX3 161 (1000000) ∈ TT := tt_mem 846 (by decide +kernel) (by decide +kernel)
theorem lk_M_162 : LkV RX3 162 yX3_lies cX3_lies 4 (some .int) 3 := ⟨tt_mem 851 (by decide +kernel) (by decide +kernel), tt_mem 853 (by decide +kernel) (by decide +kernel), tt_mem 43 (by decide +kernel) (by decide +kernel), tt_mem 52 (by decide +kernel) (by decide +kernel), tt_mem 854 (by decide +kernel) (by decide +kernel), (by decide +kernel), (by decide +kernel), (by decide +kernel)⟩
theorem t_M_166 : Jvm.Cond.constantLong RX3 166 (lI (-30)) ∈ TT := tt_mem 855 (by decide +kernel) (by decide +kernel)
theorem lk_M_168 : LkV RX3 168 yX3_by cX3_by 11 (some .int) 7 := ⟨tt_mem 847 (by decide +kernel) (by decide +kernel), tt_mem 849 (by decide +kernel) (by decide +kernel), tt_mem 42 (by decide +kernel) (by decide +kernel), tt_mem 52 (by decide +kernel) (by decide +kernel), tt_mem 850 (by decide +kernel) (by decide +kernel), (by decide +kernel), (by decide +kernel), (by decide +kernel)⟩
theorem t_M_172 : Cond.fieldLink RX3 172 "TurnedCardsModel" "twisted" "I" ∈ TT := tt_mem 619 (by decide +kernel) (by decide +kernel)
theorem lk_M_175 : LkV RX3 175 yX3_look cX3_look 10 (some .int) 1 := ⟨tt_mem 839 (by decide +kernel) (by decide +kernel), tt_mem 841 (by decide +kernel) (by decide +kernel), tt_mem 41 (by decide +kernel) (by decide +kernel), tt_mem 52 (by decide +kernel) (by decide +kernel), tt_mem 842 (by decide +kernel) (by decide +kernel), (by decide +kernel), (by decide +kernel), (by decide +kernel)⟩
theorem lk_M_178 : LkV RX3 178 yX3_quarrelOf cX3_quarrelOf 5 (some .int) 1 := ⟨tt_mem 872 (by decide +kernel) (by decide +kernel), tt_mem 874 (by decide +kernel) (by decide +kernel), tt_mem 44 (by decide +kernel) (by decide +kernel), tt_mem 52 (by decide +kernel) (by decide +kernel), tt_mem 875 (by decide +kernel) (by decide +kernel), (by decide +kernel), (by decide +kernel), (by decide +kernel)⟩
theorem lk_M_181 : LkV RX3 181 yX3_would cX3_would 9 (some .boolean) 3 := ⟨tt_mem 888 (by decide +kernel) (by decide +kernel), tt_mem 890 (by decide +kernel) (by decide +kernel), tt_mem 46 (by decide +kernel) (by decide +kernel), tt_mem 52 (by decide +kernel) (by decide +kernel), tt_mem 891 (by decide +kernel) (by decide +kernel), (by decide +kernel), (by decide +kernel), (by decide +kernel)⟩
theorem lk_M_184 : LkV RX3 184 yX3_wrongOf cX3_wrongOf 7 (some .int) 3 := ⟨tt_mem 884 (by decide +kernel) (by decide +kernel), tt_mem 886 (by decide +kernel) (by decide +kernel), tt_mem 45 (by decide +kernel) (by decide +kernel), tt_mem 52 (by decide +kernel) (by decide +kernel), tt_mem 887 (by decide +kernel) (by decide +kernel), (by decide +kernel), (by decide +kernel), (by decide +kernel)⟩
end
section
abbrev Sta : Type := (Nat → Int) × (Nat → Int → Int)
def mI (S : Sta) (j : Nat) (v : Int) : Sta := (fun i => if i = j then v else S.1 i, S.2)
def mA (S : Sta) (k : Nat) (z v : Int) : Sta := (S.1, fun i => if i = k then iu (S.2 k) z v else S.2 i)
theorem mA_ne {S : Sta} {k i : Nat} (z v : Int) (_ : True) (h : i ≠ k) : (mA S k z v).2 i = S.2 i := if_neg h
theorem mA_nin {S : Sta} {k i : Nat} {z v : Int} {L : List Nat} (h : i ∉ L) (hm : k ∈ L) : (mA S k z v).2 i = S.2 i := if_neg (fun (e : i = k) => h (by rw [e]; exact hm))
theorem mI_same {S : Sta} {j : Nat} {v : Int} (h : S.1 j = v) : mI S j v = S := by
  refine Prod.ext ?_ rfl
  funext i
  show (if i = j then v else S.1 i) = S.1 i
  split
  · next e => rw [e, h]
  · rfl
def wM (K : KK) (q : Nat → Nat) (S : Sta) : va_W := [(q 0, .inr (3, [.int (iI (S.1 0)), .int (iI (S.1 1)), .int (iI (S.1 2)), .ref (q 1), .ref (q 2), .ref (q 3), .ref (q 4), .ref (q 5), .ref (q 6), .ref (q 7), .ref (q 8), .ref (q 9), .ref (q 10), .ref (q 11), .ref (q 12), .ref (q 13), .ref (q 14), .ref (q 15), .ref (q 16), .ref (q 17), .int (iI (S.1 3)), .int (iI (S.1 4)), .ref (q 18), .ref (q 19), .ref (q 20), .int (iI (S.1 5))])), (q 1, zA K 64 (S.2 0)), (q 2, zA K 64 (S.2 1)), (q 3, zA K 16 (S.2 2)), (q 4, zA K 16 (S.2 3)), (q 5, zA K 16 (S.2 4)), (q 6, zA K 16 (S.2 5)), (q 7, zA K 16 (S.2 6)), (q 8, zA K 3840 (S.2 7)), (q 9, zA K 960 (S.2 8)), (q 10, zA K 960 (S.2 9)), (q 11, zA K 960 (S.2 10)), (q 12, zA K 960 (S.2 11)), (q 13, zA K 960 (S.2 12)), (q 14, zA K 960 (S.2 13)), (q 15, zA K 960 (S.2 14)), (q 16, zA K 960 (S.2 15)), (q 17, zA K 480 (S.2 16)), (q 18, zA K 302560 (S.2 17)), (q 19, zA K 30 (S.2 18)), (q 20, zA K 480 (S.2 19))]
def rgM (N : Int) (k : Nat) (v : Int) : Prop := match k with
  | 0 => 0 ≤ v ∧ v ≤ 7
  | 1 => 0 ≤ v ∧ v ≤ 3
  | 2 => 0 ≤ v ∧ v ≤ 1
  | 3 => 0 ≤ v ∧ v ≤ 3
  | 6 => 0 ≤ v ∧ v ≤ N
  | 7 => 0 ≤ v ∧ v ≤ 3
  | 8 => 0 ≤ v ∧ v ≤ 1
  | 11 => 0 ≤ v ∧ v ≤ N
  | 12 => 0 ≤ v ∧ v ≤ 2
  | 13 => 0 ≤ v ∧ v ≤ 3
  | 14 => 0 ≤ v ∧ v ≤ 3
  | 15 => 0 ≤ v ∧ v ≤ 1
  | 16 => -99 ≤ v ∧ v ≤ 7
  | 17 => 0 ≤ v ∧ v ≤ 1000000
  | 18 => 0 ≤ v ∧ v ≤ 2
  | 19 => 0 ≤ v ∧ v ≤ 2
  | _ => True
def InvW (N : Int) (S : Sta) : Prop := ((S.1 0 = 0 ∧ (0 ≤ N ∧ N ≤ 1000)) ∧ (1 ≤ S.1 1 ∧ S.1 1 ≤ 16) ∧ (0 ≤ S.1 2 ∧ S.1 2 ≤ 60) ∧ (1 ≤ S.1 3 ∧ S.1 3 ≤ 30) ∧ (0 ≤ S.1 4 ∧ S.1 4 ≤ 9)) ∧ ∀ (k : Nat) (j : Int), rgM N k (S.2 k j)
def InvT (S : Sta) : Prop := (∀ j, -60 ≤ S.2 4 j ∧ S.2 4 j ≤ 60) ∧ (∀ j, 0 ≤ S.2 5 j ∧ S.2 5 j ≤ 60)
theorem InvW.mA {N : Int} {S : Sta} {k : Nat} {z v : Int} (h : InvW N S) (hv : rgM N k v) : InvW N (mA S k z v) := by
  refine ⟨h.1, fun i j => ?_⟩
  show rgM N i ((if i = k then iu (S.2 k) z v else S.2 i) j)
  split
  · next e =>
    subst e
    unfold iu
    split
    · exact hv
    · exact h.2 i j
  · exact h.2 i j
theorem InvM_t {N : Int} {S : Sta} (h : InvW N S) : S.1 0 = 0 := h.1.1.1
theorem InvM_s1 {N : Int} {S : Sta} (h : InvW N S) : 1 ≤ S.1 1 ∧ S.1 1 ≤ 16 := h.1.2.1
theorem InvM_s2 {N : Int} {S : Sta} (h : InvW N S) : 0 ≤ S.1 2 ∧ S.1 2 ≤ 60 := h.1.2.2.1
theorem InvM_s3 {N : Int} {S : Sta} (h : InvW N S) : 1 ≤ S.1 3 ∧ S.1 3 ≤ 30 := h.1.2.2.2.1
theorem InvM_s4 {N : Int} {S : Sta} (h : InvW N S) : 0 ≤ S.1 4 ∧ S.1 4 ≤ 9 := h.1.2.2.2.2
theorem InvM_a0 {N : Int} {S : Sta} (h : InvW N S) (j : Int) : 0 ≤ S.2 0 j ∧ S.2 0 j ≤ 7 := h.2 0 j
theorem InvM_a1 {N : Int} {S : Sta} (h : InvW N S) (j : Int) : 0 ≤ S.2 1 j ∧ S.2 1 j ≤ 3 := h.2 1 j
theorem InvM_a2 {N : Int} {S : Sta} (h : InvW N S) (j : Int) : 0 ≤ S.2 2 j ∧ S.2 2 j ≤ 1 := h.2 2 j
theorem InvM_a3 {N : Int} {S : Sta} (h : InvW N S) (j : Int) : 0 ≤ S.2 3 j ∧ S.2 3 j ≤ 3 := h.2 3 j
theorem InvM_a4 {S : Sta} (h : InvT S) (j : Int) : -60 ≤ S.2 4 j ∧ S.2 4 j ≤ 60 := h.1 j
theorem InvM_a5 {S : Sta} (h : InvT S) (j : Int) : 0 ≤ S.2 5 j ∧ S.2 5 j ≤ 60 := h.2 j
theorem InvM_a6 {N : Int} {S : Sta} (h : InvW N S) (j : Int) : 0 ≤ S.2 6 j ∧ S.2 6 j ≤ 1000 := by
  have h1 : 0 ≤ S.2 6 j ∧ S.2 6 j ≤ N := h.2 6 j
  have h2 := h.1.1.2
  omega
theorem InvM_a7 {N : Int} {S : Sta} (h : InvW N S) (j : Int) : 0 ≤ S.2 7 j ∧ S.2 7 j ≤ 3 := h.2 7 j
theorem InvM_a8 {N : Int} {S : Sta} (h : InvW N S) (j : Int) : 0 ≤ S.2 8 j ∧ S.2 8 j ≤ 1 := h.2 8 j
theorem InvM_a11 {N : Int} {S : Sta} (h : InvW N S) (j : Int) : 0 ≤ S.2 11 j ∧ S.2 11 j ≤ 1000 := by
  have h1 : 0 ≤ S.2 11 j ∧ S.2 11 j ≤ N := h.2 11 j
  have h2 := h.1.1.2
  omega
theorem InvM_a12 {N : Int} {S : Sta} (h : InvW N S) (j : Int) : 0 ≤ S.2 12 j ∧ S.2 12 j ≤ 2 := h.2 12 j
theorem InvM_a13 {N : Int} {S : Sta} (h : InvW N S) (j : Int) : 0 ≤ S.2 13 j ∧ S.2 13 j ≤ 3 := h.2 13 j
theorem InvM_a14 {N : Int} {S : Sta} (h : InvW N S) (j : Int) : 0 ≤ S.2 14 j ∧ S.2 14 j ≤ 3 := h.2 14 j
theorem InvM_a15 {N : Int} {S : Sta} (h : InvW N S) (j : Int) : 0 ≤ S.2 15 j ∧ S.2 15 j ≤ 1 := h.2 15 j
theorem InvM_a16 {N : Int} {S : Sta} (h : InvW N S) (j : Int) : -99 ≤ S.2 16 j ∧ S.2 16 j ≤ 7 := h.2 16 j
theorem InvM_a17 {N : Int} {S : Sta} (h : InvW N S) (j : Int) : 0 ≤ S.2 17 j ∧ S.2 17 j ≤ 1000000 := h.2 17 j
theorem InvM_a18 {N : Int} {S : Sta} (h : InvW N S) (j : Int) : 0 ≤ S.2 18 j ∧ S.2 18 j ≤ 2 := h.2 18 j
theorem InvM_a19 {N : Int} {S : Sta} (h : InvW N S) (j : Int) : 0 ≤ S.2 19 j ∧ S.2 19 j ≤ 2 := h.2 19 j
section WM
variable {l : Launch} {R : Room} {K : KK} {x : Cx} {cc : ByteArray} {nL : Nat} {pc : Nat} {lv : List (Nat × Value)} {st : List Value} {q : Nat → Nat} {S : Sta}
theorem gM_g0 (X : OK l R K x cc nL RX3) {v : Int} (hv : S.1 0 = v) (hdg : decode cc pc = .ok (.getfield 85, 3)) (kk : GG l R K x (wM K q S) (pc + 3) lv (.int (iI v) :: st)) : GG l R K x (wM K q S) pc lv (.ref (q 0) :: st) := by
  subst hv
  exact gx_get X (ci := 3) (T := TX3) (N := 26) (C := RX3) i_M 0 rfl rfl 0 (by decide) t_M_85 rfl rfl hdg kk
theorem gM_p0 (X : OK l R K x cc nL RX3) (hD : va_D (cx_A x) (wM K q S)) {v : Int} (hdg : decode cc pc = .ok (.putfield 85, 3)) (kk : GG l R K x (wM K q (mI S 0 v)) (pc + 3) lv st) : GG l R K x (wM K q S) pc lv (.int (iI v) :: .ref (q 0) :: st) :=
  gx_put X (ci := 3) (T := TX3) (N := 26) (C := RX3) (ty := .int) i_M tyX3 tyX3_ok nmX3 hD 0 rfl rfl 0 (by decide) t_M_85 rfl rfl (by decide) rfl rfl (Nat.le_of_ble_eq_true rfl) rfl hdg kk
theorem gM_g1 (X : OK l R K x cc nL RX3) {v : Int} (hv : S.1 1 = v) (hdg : decode cc pc = .ok (.getfield 7, 3)) (kk : GG l R K x (wM K q S) (pc + 3) lv (.int (iI v) :: st)) : GG l R K x (wM K q S) pc lv (.ref (q 0) :: st) := by
  subst hv
  exact gx_get X (ci := 3) (T := TX3) (N := 26) (C := RX3) i_M 0 rfl rfl 1 (by decide) t_M_7 rfl rfl hdg kk
theorem gM_p1 (X : OK l R K x cc nL RX3) (hD : va_D (cx_A x) (wM K q S)) {v : Int} (hdg : decode cc pc = .ok (.putfield 7, 3)) (kk : GG l R K x (wM K q (mI S 1 v)) (pc + 3) lv st) : GG l R K x (wM K q S) pc lv (.int (iI v) :: .ref (q 0) :: st) :=
  gx_put X (ci := 3) (T := TX3) (N := 26) (C := RX3) (ty := .int) i_M tyX3 tyX3_ok nmX3 hD 0 rfl rfl 1 (by decide) t_M_7 rfl rfl (by decide) rfl rfl (Nat.le_of_ble_eq_true rfl) rfl hdg kk
theorem gM_g2 (X : OK l R K x cc nL RX3) {v : Int} (hv : S.1 2 = v) (hdg : decode cc pc = .ok (.getfield 92, 3)) (kk : GG l R K x (wM K q S) (pc + 3) lv (.int (iI v) :: st)) : GG l R K x (wM K q S) pc lv (.ref (q 0) :: st) := by
  subst hv
  exact gx_get X (ci := 3) (T := TX3) (N := 26) (C := RX3) i_M 0 rfl rfl 2 (by decide) t_M_92 rfl rfl hdg kk
theorem gM_p2 (X : OK l R K x cc nL RX3) (hD : va_D (cx_A x) (wM K q S)) {v : Int} (hdg : decode cc pc = .ok (.putfield 92, 3)) (kk : GG l R K x (wM K q (mI S 2 v)) (pc + 3) lv st) : GG l R K x (wM K q S) pc lv (.int (iI v) :: .ref (q 0) :: st) :=
  gx_put X (ci := 3) (T := TX3) (N := 26) (C := RX3) (ty := .int) i_M tyX3 tyX3_ok nmX3 hD 0 rfl rfl 2 (by decide) t_M_92 rfl rfl (by decide) rfl rfl (Nat.le_of_ble_eq_true rfl) rfl hdg kk
theorem gM_r0 (X : OK l R K x cc nL RX3) (hdg : decode cc pc = .ok (.getfield 13, 3)) (kk : GG l R K x (wM K q S) (pc + 3) lv (.ref (q 1) :: st)) : GG l R K x (wM K q S) pc lv (.ref (q 0) :: st) :=
  gx_get X (ci := 3) (T := TX3) (N := 26) (C := RX3) i_M 0 rfl rfl 3 (by decide) t_M_13 rfl rfl hdg kk
theorem gM_l0 (X : OK l R K x cc nL RX3) {z v : Int} (hz : 0 ≤ z ∧ z < 64) (hv : S.2 0 z = v) (hdg : decode cc pc = .ok (.iaload, 1)) (kk : GG l R K x (wM K q S) (pc + 1) lv (.int (iI v) :: st)) : GG l R K x (wM K q S) pc lv (.int (iI z) :: .ref (q 1) :: st) :=
  gx_iald X 1 rfl ⟨hz.1, by omega, by omega⟩ hv hdg kk
theorem gM_s0 (X : OK l R K x cc nL RX3) (hD : va_D (cx_A x) (wM K q S)) {z v : Int} (hz : 0 ≤ z ∧ z < 64) (hdg : decode cc pc = .ok (.iastore, 1)) (kk : GG l R K x (wM K q (mA S 0 z v)) (pc + 1) lv st) : GG l R K x (wM K q S) pc lv (.int (iI v) :: .int (iI z) :: .ref (q 1) :: st) :=
  gx_iast X hD 1 rfl ⟨hz.1, by omega, by omega⟩ rfl hdg kk
theorem gM_r1 (X : OK l R K x cc nL RX3) (hdg : decode cc pc = .ok (.getfield 17, 3)) (kk : GG l R K x (wM K q S) (pc + 3) lv (.ref (q 2) :: st)) : GG l R K x (wM K q S) pc lv (.ref (q 0) :: st) :=
  gx_get X (ci := 3) (T := TX3) (N := 26) (C := RX3) i_M 0 rfl rfl 4 (by decide) t_M_17 rfl rfl hdg kk
theorem gM_l1 (X : OK l R K x cc nL RX3) {z v : Int} (hz : 0 ≤ z ∧ z < 64) (hv : S.2 1 z = v) (hdg : decode cc pc = .ok (.iaload, 1)) (kk : GG l R K x (wM K q S) (pc + 1) lv (.int (iI v) :: st)) : GG l R K x (wM K q S) pc lv (.int (iI z) :: .ref (q 2) :: st) :=
  gx_iald X 2 rfl ⟨hz.1, by omega, by omega⟩ hv hdg kk
theorem gM_s1 (X : OK l R K x cc nL RX3) (hD : va_D (cx_A x) (wM K q S)) {z v : Int} (hz : 0 ≤ z ∧ z < 64) (hdg : decode cc pc = .ok (.iastore, 1)) (kk : GG l R K x (wM K q (mA S 1 z v)) (pc + 1) lv st) : GG l R K x (wM K q S) pc lv (.int (iI v) :: .int (iI z) :: .ref (q 2) :: st) :=
  gx_iast X hD 2 rfl ⟨hz.1, by omega, by omega⟩ rfl hdg kk
theorem gM_r2 (X : OK l R K x cc nL RX3) (hdg : decode cc pc = .ok (.getfield 20, 3)) (kk : GG l R K x (wM K q S) (pc + 3) lv (.ref (q 3) :: st)) : GG l R K x (wM K q S) pc lv (.ref (q 0) :: st) :=
  gx_get X (ci := 3) (T := TX3) (N := 26) (C := RX3) i_M 0 rfl rfl 5 (by decide) t_M_20 rfl rfl hdg kk
theorem gM_l2 (X : OK l R K x cc nL RX3) {z v : Int} (hz : 0 ≤ z ∧ z < 16) (hv : S.2 2 z = v) (hdg : decode cc pc = .ok (.iaload, 1)) (kk : GG l R K x (wM K q S) (pc + 1) lv (.int (iI v) :: st)) : GG l R K x (wM K q S) pc lv (.int (iI z) :: .ref (q 3) :: st) :=
  gx_iald X 3 rfl ⟨hz.1, by omega, by omega⟩ hv hdg kk
theorem gM_s2 (X : OK l R K x cc nL RX3) (hD : va_D (cx_A x) (wM K q S)) {z v : Int} (hz : 0 ≤ z ∧ z < 16) (hdg : decode cc pc = .ok (.iastore, 1)) (kk : GG l R K x (wM K q (mA S 2 z v)) (pc + 1) lv st) : GG l R K x (wM K q S) pc lv (.int (iI v) :: .int (iI z) :: .ref (q 3) :: st) :=
  gx_iast X hD 3 rfl ⟨hz.1, by omega, by omega⟩ rfl hdg kk
theorem gM_r3 (X : OK l R K x cc nL RX3) (hdg : decode cc pc = .ok (.getfield 23, 3)) (kk : GG l R K x (wM K q S) (pc + 3) lv (.ref (q 4) :: st)) : GG l R K x (wM K q S) pc lv (.ref (q 0) :: st) :=
  gx_get X (ci := 3) (T := TX3) (N := 26) (C := RX3) i_M 0 rfl rfl 6 (by decide) t_M_23 rfl rfl hdg kk
theorem gM_l3 (X : OK l R K x cc nL RX3) {z v : Int} (hz : 0 ≤ z ∧ z < 16) (hv : S.2 3 z = v) (hdg : decode cc pc = .ok (.iaload, 1)) (kk : GG l R K x (wM K q S) (pc + 1) lv (.int (iI v) :: st)) : GG l R K x (wM K q S) pc lv (.int (iI z) :: .ref (q 4) :: st) :=
  gx_iald X 4 rfl ⟨hz.1, by omega, by omega⟩ hv hdg kk
theorem gM_s3 (X : OK l R K x cc nL RX3) (hD : va_D (cx_A x) (wM K q S)) {z v : Int} (hz : 0 ≤ z ∧ z < 16) (hdg : decode cc pc = .ok (.iastore, 1)) (kk : GG l R K x (wM K q (mA S 3 z v)) (pc + 1) lv st) : GG l R K x (wM K q S) pc lv (.int (iI v) :: .int (iI z) :: .ref (q 4) :: st) :=
  gx_iast X hD 4 rfl ⟨hz.1, by omega, by omega⟩ rfl hdg kk
theorem gM_r4 (X : OK l R K x cc nL RX3) (hdg : decode cc pc = .ok (.getfield 26, 3)) (kk : GG l R K x (wM K q S) (pc + 3) lv (.ref (q 5) :: st)) : GG l R K x (wM K q S) pc lv (.ref (q 0) :: st) :=
  gx_get X (ci := 3) (T := TX3) (N := 26) (C := RX3) i_M 0 rfl rfl 7 (by decide) t_M_26 rfl rfl hdg kk
theorem gM_l4 (X : OK l R K x cc nL RX3) {z v : Int} (hz : 0 ≤ z ∧ z < 16) (hv : S.2 4 z = v) (hdg : decode cc pc = .ok (.iaload, 1)) (kk : GG l R K x (wM K q S) (pc + 1) lv (.int (iI v) :: st)) : GG l R K x (wM K q S) pc lv (.int (iI z) :: .ref (q 5) :: st) :=
  gx_iald X 5 rfl ⟨hz.1, by omega, by omega⟩ hv hdg kk
theorem gM_s4 (X : OK l R K x cc nL RX3) (hD : va_D (cx_A x) (wM K q S)) {z v : Int} (hz : 0 ≤ z ∧ z < 16) (hdg : decode cc pc = .ok (.iastore, 1)) (kk : GG l R K x (wM K q (mA S 4 z v)) (pc + 1) lv st) : GG l R K x (wM K q S) pc lv (.int (iI v) :: .int (iI z) :: .ref (q 5) :: st) :=
  gx_iast X hD 5 rfl ⟨hz.1, by omega, by omega⟩ rfl hdg kk
theorem gM_r5 (X : OK l R K x cc nL RX3) (hdg : decode cc pc = .ok (.getfield 29, 3)) (kk : GG l R K x (wM K q S) (pc + 3) lv (.ref (q 6) :: st)) : GG l R K x (wM K q S) pc lv (.ref (q 0) :: st) :=
  gx_get X (ci := 3) (T := TX3) (N := 26) (C := RX3) i_M 0 rfl rfl 8 (by decide) t_M_29 rfl rfl hdg kk
theorem gM_l5 (X : OK l R K x cc nL RX3) {z v : Int} (hz : 0 ≤ z ∧ z < 16) (hv : S.2 5 z = v) (hdg : decode cc pc = .ok (.iaload, 1)) (kk : GG l R K x (wM K q S) (pc + 1) lv (.int (iI v) :: st)) : GG l R K x (wM K q S) pc lv (.int (iI z) :: .ref (q 6) :: st) :=
  gx_iald X 6 rfl ⟨hz.1, by omega, by omega⟩ hv hdg kk
theorem gM_s5 (X : OK l R K x cc nL RX3) (hD : va_D (cx_A x) (wM K q S)) {z v : Int} (hz : 0 ≤ z ∧ z < 16) (hdg : decode cc pc = .ok (.iastore, 1)) (kk : GG l R K x (wM K q (mA S 5 z v)) (pc + 1) lv st) : GG l R K x (wM K q S) pc lv (.int (iI v) :: .int (iI z) :: .ref (q 6) :: st) :=
  gx_iast X hD 6 rfl ⟨hz.1, by omega, by omega⟩ rfl hdg kk
theorem gM_r6 (X : OK l R K x cc nL RX3) (hdg : decode cc pc = .ok (.getfield 32, 3)) (kk : GG l R K x (wM K q S) (pc + 3) lv (.ref (q 7) :: st)) : GG l R K x (wM K q S) pc lv (.ref (q 0) :: st) :=
  gx_get X (ci := 3) (T := TX3) (N := 26) (C := RX3) i_M 0 rfl rfl 9 (by decide) t_M_32 rfl rfl hdg kk
theorem gM_l6 (X : OK l R K x cc nL RX3) {z v : Int} (hz : 0 ≤ z ∧ z < 16) (hv : S.2 6 z = v) (hdg : decode cc pc = .ok (.iaload, 1)) (kk : GG l R K x (wM K q S) (pc + 1) lv (.int (iI v) :: st)) : GG l R K x (wM K q S) pc lv (.int (iI z) :: .ref (q 7) :: st) :=
  gx_iald X 7 rfl ⟨hz.1, by omega, by omega⟩ hv hdg kk
theorem gM_s6 (X : OK l R K x cc nL RX3) (hD : va_D (cx_A x) (wM K q S)) {z v : Int} (hz : 0 ≤ z ∧ z < 16) (hdg : decode cc pc = .ok (.iastore, 1)) (kk : GG l R K x (wM K q (mA S 6 z v)) (pc + 1) lv st) : GG l R K x (wM K q S) pc lv (.int (iI v) :: .int (iI z) :: .ref (q 7) :: st) :=
  gx_iast X hD 7 rfl ⟨hz.1, by omega, by omega⟩ rfl hdg kk
theorem gM_r7 (X : OK l R K x cc nL RX3) (hdg : decode cc pc = .ok (.getfield 35, 3)) (kk : GG l R K x (wM K q S) (pc + 3) lv (.ref (q 8) :: st)) : GG l R K x (wM K q S) pc lv (.ref (q 0) :: st) :=
  gx_get X (ci := 3) (T := TX3) (N := 26) (C := RX3) i_M 0 rfl rfl 10 (by decide) t_M_35 rfl rfl hdg kk
theorem gM_l7 (X : OK l R K x cc nL RX3) {z v : Int} (hz : 0 ≤ z ∧ z < 3840) (hv : S.2 7 z = v) (hdg : decode cc pc = .ok (.iaload, 1)) (kk : GG l R K x (wM K q S) (pc + 1) lv (.int (iI v) :: st)) : GG l R K x (wM K q S) pc lv (.int (iI z) :: .ref (q 8) :: st) :=
  gx_iald X 8 rfl ⟨hz.1, by omega, by omega⟩ hv hdg kk
theorem gM_s7 (X : OK l R K x cc nL RX3) (hD : va_D (cx_A x) (wM K q S)) {z v : Int} (hz : 0 ≤ z ∧ z < 3840) (hdg : decode cc pc = .ok (.iastore, 1)) (kk : GG l R K x (wM K q (mA S 7 z v)) (pc + 1) lv st) : GG l R K x (wM K q S) pc lv (.int (iI v) :: .int (iI z) :: .ref (q 8) :: st) :=
  gx_iast X hD 8 rfl ⟨hz.1, by omega, by omega⟩ rfl hdg kk
theorem gM_r8 (X : OK l R K x cc nL RX3) (hdg : decode cc pc = .ok (.getfield 38, 3)) (kk : GG l R K x (wM K q S) (pc + 3) lv (.ref (q 9) :: st)) : GG l R K x (wM K q S) pc lv (.ref (q 0) :: st) :=
  gx_get X (ci := 3) (T := TX3) (N := 26) (C := RX3) i_M 0 rfl rfl 11 (by decide) t_M_38 rfl rfl hdg kk
theorem gM_l8 (X : OK l R K x cc nL RX3) {z v : Int} (hz : 0 ≤ z ∧ z < 960) (hv : S.2 8 z = v) (hdg : decode cc pc = .ok (.iaload, 1)) (kk : GG l R K x (wM K q S) (pc + 1) lv (.int (iI v) :: st)) : GG l R K x (wM K q S) pc lv (.int (iI z) :: .ref (q 9) :: st) :=
  gx_iald X 9 rfl ⟨hz.1, by omega, by omega⟩ hv hdg kk
theorem gM_s8 (X : OK l R K x cc nL RX3) (hD : va_D (cx_A x) (wM K q S)) {z v : Int} (hz : 0 ≤ z ∧ z < 960) (hdg : decode cc pc = .ok (.iastore, 1)) (kk : GG l R K x (wM K q (mA S 8 z v)) (pc + 1) lv st) : GG l R K x (wM K q S) pc lv (.int (iI v) :: .int (iI z) :: .ref (q 9) :: st) :=
  gx_iast X hD 9 rfl ⟨hz.1, by omega, by omega⟩ rfl hdg kk
theorem gM_r9 (X : OK l R K x cc nL RX3) (hdg : decode cc pc = .ok (.getfield 41, 3)) (kk : GG l R K x (wM K q S) (pc + 3) lv (.ref (q 10) :: st)) : GG l R K x (wM K q S) pc lv (.ref (q 0) :: st) :=
  gx_get X (ci := 3) (T := TX3) (N := 26) (C := RX3) i_M 0 rfl rfl 12 (by decide) t_M_41 rfl rfl hdg kk
theorem gM_l9 (X : OK l R K x cc nL RX3) {z v : Int} (hz : 0 ≤ z ∧ z < 960) (hv : S.2 9 z = v) (hdg : decode cc pc = .ok (.iaload, 1)) (kk : GG l R K x (wM K q S) (pc + 1) lv (.int (iI v) :: st)) : GG l R K x (wM K q S) pc lv (.int (iI z) :: .ref (q 10) :: st) :=
  gx_iald X 10 rfl ⟨hz.1, by omega, by omega⟩ hv hdg kk
theorem gM_s9 (X : OK l R K x cc nL RX3) (hD : va_D (cx_A x) (wM K q S)) {z v : Int} (hz : 0 ≤ z ∧ z < 960) (hdg : decode cc pc = .ok (.iastore, 1)) (kk : GG l R K x (wM K q (mA S 9 z v)) (pc + 1) lv st) : GG l R K x (wM K q S) pc lv (.int (iI v) :: .int (iI z) :: .ref (q 10) :: st) :=
  gx_iast X hD 10 rfl ⟨hz.1, by omega, by omega⟩ rfl hdg kk
theorem gM_r10 (X : OK l R K x cc nL RX3) (hdg : decode cc pc = .ok (.getfield 44, 3)) (kk : GG l R K x (wM K q S) (pc + 3) lv (.ref (q 11) :: st)) : GG l R K x (wM K q S) pc lv (.ref (q 0) :: st) :=
  gx_get X (ci := 3) (T := TX3) (N := 26) (C := RX3) i_M 0 rfl rfl 13 (by decide) t_M_44 rfl rfl hdg kk
theorem gM_l10 (X : OK l R K x cc nL RX3) {z v : Int} (hz : 0 ≤ z ∧ z < 960) (hv : S.2 10 z = v) (hdg : decode cc pc = .ok (.iaload, 1)) (kk : GG l R K x (wM K q S) (pc + 1) lv (.int (iI v) :: st)) : GG l R K x (wM K q S) pc lv (.int (iI z) :: .ref (q 11) :: st) :=
  gx_iald X 11 rfl ⟨hz.1, by omega, by omega⟩ hv hdg kk
theorem gM_s10 (X : OK l R K x cc nL RX3) (hD : va_D (cx_A x) (wM K q S)) {z v : Int} (hz : 0 ≤ z ∧ z < 960) (hdg : decode cc pc = .ok (.iastore, 1)) (kk : GG l R K x (wM K q (mA S 10 z v)) (pc + 1) lv st) : GG l R K x (wM K q S) pc lv (.int (iI v) :: .int (iI z) :: .ref (q 11) :: st) :=
  gx_iast X hD 11 rfl ⟨hz.1, by omega, by omega⟩ rfl hdg kk
theorem gM_r11 (X : OK l R K x cc nL RX3) (hdg : decode cc pc = .ok (.getfield 47, 3)) (kk : GG l R K x (wM K q S) (pc + 3) lv (.ref (q 12) :: st)) : GG l R K x (wM K q S) pc lv (.ref (q 0) :: st) :=
  gx_get X (ci := 3) (T := TX3) (N := 26) (C := RX3) i_M 0 rfl rfl 14 (by decide) t_M_47 rfl rfl hdg kk
theorem gM_l11 (X : OK l R K x cc nL RX3) {z v : Int} (hz : 0 ≤ z ∧ z < 960) (hv : S.2 11 z = v) (hdg : decode cc pc = .ok (.iaload, 1)) (kk : GG l R K x (wM K q S) (pc + 1) lv (.int (iI v) :: st)) : GG l R K x (wM K q S) pc lv (.int (iI z) :: .ref (q 12) :: st) :=
  gx_iald X 12 rfl ⟨hz.1, by omega, by omega⟩ hv hdg kk
theorem gM_s11 (X : OK l R K x cc nL RX3) (hD : va_D (cx_A x) (wM K q S)) {z v : Int} (hz : 0 ≤ z ∧ z < 960) (hdg : decode cc pc = .ok (.iastore, 1)) (kk : GG l R K x (wM K q (mA S 11 z v)) (pc + 1) lv st) : GG l R K x (wM K q S) pc lv (.int (iI v) :: .int (iI z) :: .ref (q 12) :: st) :=
  gx_iast X hD 12 rfl ⟨hz.1, by omega, by omega⟩ rfl hdg kk
theorem gM_r12 (X : OK l R K x cc nL RX3) (hdg : decode cc pc = .ok (.getfield 50, 3)) (kk : GG l R K x (wM K q S) (pc + 3) lv (.ref (q 13) :: st)) : GG l R K x (wM K q S) pc lv (.ref (q 0) :: st) :=
  gx_get X (ci := 3) (T := TX3) (N := 26) (C := RX3) i_M 0 rfl rfl 15 (by decide) t_M_50 rfl rfl hdg kk
theorem gM_l12 (X : OK l R K x cc nL RX3) {z v : Int} (hz : 0 ≤ z ∧ z < 960) (hv : S.2 12 z = v) (hdg : decode cc pc = .ok (.iaload, 1)) (kk : GG l R K x (wM K q S) (pc + 1) lv (.int (iI v) :: st)) : GG l R K x (wM K q S) pc lv (.int (iI z) :: .ref (q 13) :: st) :=
  gx_iald X 13 rfl ⟨hz.1, by omega, by omega⟩ hv hdg kk
theorem gM_s12 (X : OK l R K x cc nL RX3) (hD : va_D (cx_A x) (wM K q S)) {z v : Int} (hz : 0 ≤ z ∧ z < 960) (hdg : decode cc pc = .ok (.iastore, 1)) (kk : GG l R K x (wM K q (mA S 12 z v)) (pc + 1) lv st) : GG l R K x (wM K q S) pc lv (.int (iI v) :: .int (iI z) :: .ref (q 13) :: st) :=
  gx_iast X hD 13 rfl ⟨hz.1, by omega, by omega⟩ rfl hdg kk
theorem gM_r13 (X : OK l R K x cc nL RX3) (hdg : decode cc pc = .ok (.getfield 53, 3)) (kk : GG l R K x (wM K q S) (pc + 3) lv (.ref (q 14) :: st)) : GG l R K x (wM K q S) pc lv (.ref (q 0) :: st) :=
  gx_get X (ci := 3) (T := TX3) (N := 26) (C := RX3) i_M 0 rfl rfl 16 (by decide) t_M_53 rfl rfl hdg kk
theorem gM_l13 (X : OK l R K x cc nL RX3) {z v : Int} (hz : 0 ≤ z ∧ z < 960) (hv : S.2 13 z = v) (hdg : decode cc pc = .ok (.iaload, 1)) (kk : GG l R K x (wM K q S) (pc + 1) lv (.int (iI v) :: st)) : GG l R K x (wM K q S) pc lv (.int (iI z) :: .ref (q 14) :: st) :=
  gx_iald X 14 rfl ⟨hz.1, by omega, by omega⟩ hv hdg kk
theorem gM_s13 (X : OK l R K x cc nL RX3) (hD : va_D (cx_A x) (wM K q S)) {z v : Int} (hz : 0 ≤ z ∧ z < 960) (hdg : decode cc pc = .ok (.iastore, 1)) (kk : GG l R K x (wM K q (mA S 13 z v)) (pc + 1) lv st) : GG l R K x (wM K q S) pc lv (.int (iI v) :: .int (iI z) :: .ref (q 14) :: st) :=
  gx_iast X hD 14 rfl ⟨hz.1, by omega, by omega⟩ rfl hdg kk
theorem gM_r14 (X : OK l R K x cc nL RX3) (hdg : decode cc pc = .ok (.getfield 56, 3)) (kk : GG l R K x (wM K q S) (pc + 3) lv (.ref (q 15) :: st)) : GG l R K x (wM K q S) pc lv (.ref (q 0) :: st) :=
  gx_get X (ci := 3) (T := TX3) (N := 26) (C := RX3) i_M 0 rfl rfl 17 (by decide) t_M_56 rfl rfl hdg kk
theorem gM_l14 (X : OK l R K x cc nL RX3) {z v : Int} (hz : 0 ≤ z ∧ z < 960) (hv : S.2 14 z = v) (hdg : decode cc pc = .ok (.iaload, 1)) (kk : GG l R K x (wM K q S) (pc + 1) lv (.int (iI v) :: st)) : GG l R K x (wM K q S) pc lv (.int (iI z) :: .ref (q 15) :: st) :=
  gx_iald X 15 rfl ⟨hz.1, by omega, by omega⟩ hv hdg kk
theorem gM_s14 (X : OK l R K x cc nL RX3) (hD : va_D (cx_A x) (wM K q S)) {z v : Int} (hz : 0 ≤ z ∧ z < 960) (hdg : decode cc pc = .ok (.iastore, 1)) (kk : GG l R K x (wM K q (mA S 14 z v)) (pc + 1) lv st) : GG l R K x (wM K q S) pc lv (.int (iI v) :: .int (iI z) :: .ref (q 15) :: st) :=
  gx_iast X hD 15 rfl ⟨hz.1, by omega, by omega⟩ rfl hdg kk
theorem gM_r15 (X : OK l R K x cc nL RX3) (hdg : decode cc pc = .ok (.getfield 59, 3)) (kk : GG l R K x (wM K q S) (pc + 3) lv (.ref (q 16) :: st)) : GG l R K x (wM K q S) pc lv (.ref (q 0) :: st) :=
  gx_get X (ci := 3) (T := TX3) (N := 26) (C := RX3) i_M 0 rfl rfl 18 (by decide) t_M_59 rfl rfl hdg kk
theorem gM_l15 (X : OK l R K x cc nL RX3) {z v : Int} (hz : 0 ≤ z ∧ z < 960) (hv : S.2 15 z = v) (hdg : decode cc pc = .ok (.iaload, 1)) (kk : GG l R K x (wM K q S) (pc + 1) lv (.int (iI v) :: st)) : GG l R K x (wM K q S) pc lv (.int (iI z) :: .ref (q 16) :: st) :=
  gx_iald X 16 rfl ⟨hz.1, by omega, by omega⟩ hv hdg kk
theorem gM_s15 (X : OK l R K x cc nL RX3) (hD : va_D (cx_A x) (wM K q S)) {z v : Int} (hz : 0 ≤ z ∧ z < 960) (hdg : decode cc pc = .ok (.iastore, 1)) (kk : GG l R K x (wM K q (mA S 15 z v)) (pc + 1) lv st) : GG l R K x (wM K q S) pc lv (.int (iI v) :: .int (iI z) :: .ref (q 16) :: st) :=
  gx_iast X hD 16 rfl ⟨hz.1, by omega, by omega⟩ rfl hdg kk
theorem gM_r16 (X : OK l R K x cc nL RX3) (hdg : decode cc pc = .ok (.getfield 62, 3)) (kk : GG l R K x (wM K q S) (pc + 3) lv (.ref (q 17) :: st)) : GG l R K x (wM K q S) pc lv (.ref (q 0) :: st) :=
  gx_get X (ci := 3) (T := TX3) (N := 26) (C := RX3) i_M 0 rfl rfl 19 (by decide) t_M_62 rfl rfl hdg kk
theorem gM_l16 (X : OK l R K x cc nL RX3) {z v : Int} (hz : 0 ≤ z ∧ z < 480) (hv : S.2 16 z = v) (hdg : decode cc pc = .ok (.iaload, 1)) (kk : GG l R K x (wM K q S) (pc + 1) lv (.int (iI v) :: st)) : GG l R K x (wM K q S) pc lv (.int (iI z) :: .ref (q 17) :: st) :=
  gx_iald X 17 rfl ⟨hz.1, by omega, by omega⟩ hv hdg kk
theorem gM_s16 (X : OK l R K x cc nL RX3) (hD : va_D (cx_A x) (wM K q S)) {z v : Int} (hz : 0 ≤ z ∧ z < 480) (hdg : decode cc pc = .ok (.iastore, 1)) (kk : GG l R K x (wM K q (mA S 16 z v)) (pc + 1) lv st) : GG l R K x (wM K q S) pc lv (.int (iI v) :: .int (iI z) :: .ref (q 17) :: st) :=
  gx_iast X hD 17 rfl ⟨hz.1, by omega, by omega⟩ rfl hdg kk
theorem gM_g3 (X : OK l R K x cc nL RX3) {v : Int} (hv : S.1 3 = v) (hdg : decode cc pc = .ok (.getfield 65, 3)) (kk : GG l R K x (wM K q S) (pc + 3) lv (.int (iI v) :: st)) : GG l R K x (wM K q S) pc lv (.ref (q 0) :: st) := by
  subst hv
  exact gx_get X (ci := 3) (T := TX3) (N := 26) (C := RX3) i_M 0 rfl rfl 20 (by decide) t_M_65 rfl rfl hdg kk
theorem gM_p3 (X : OK l R K x cc nL RX3) (hD : va_D (cx_A x) (wM K q S)) {v : Int} (hdg : decode cc pc = .ok (.putfield 65, 3)) (kk : GG l R K x (wM K q (mI S 3 v)) (pc + 3) lv st) : GG l R K x (wM K q S) pc lv (.int (iI v) :: .ref (q 0) :: st) :=
  gx_put X (ci := 3) (T := TX3) (N := 26) (C := RX3) (ty := .int) i_M tyX3 tyX3_ok nmX3 hD 0 rfl rfl 20 (by decide) t_M_65 rfl rfl (by decide) rfl rfl (Nat.le_of_ble_eq_true rfl) rfl hdg kk
theorem gM_g4 (X : OK l R K x cc nL RX3) {v : Int} (hv : S.1 4 = v) (hdg : decode cc pc = .ok (.getfield 68, 3)) (kk : GG l R K x (wM K q S) (pc + 3) lv (.int (iI v) :: st)) : GG l R K x (wM K q S) pc lv (.ref (q 0) :: st) := by
  subst hv
  exact gx_get X (ci := 3) (T := TX3) (N := 26) (C := RX3) i_M 0 rfl rfl 21 (by decide) t_M_68 rfl rfl hdg kk
theorem gM_p4 (X : OK l R K x cc nL RX3) (hD : va_D (cx_A x) (wM K q S)) {v : Int} (hdg : decode cc pc = .ok (.putfield 68, 3)) (kk : GG l R K x (wM K q (mI S 4 v)) (pc + 3) lv st) : GG l R K x (wM K q S) pc lv (.int (iI v) :: .ref (q 0) :: st) :=
  gx_put X (ci := 3) (T := TX3) (N := 26) (C := RX3) (ty := .int) i_M tyX3 tyX3_ok nmX3 hD 0 rfl rfl 21 (by decide) t_M_68 rfl rfl (by decide) rfl rfl (Nat.le_of_ble_eq_true rfl) rfl hdg kk
theorem gM_r17 (X : OK l R K x cc nL RX3) (hdg : decode cc pc = .ok (.getfield 72, 3)) (kk : GG l R K x (wM K q S) (pc + 3) lv (.ref (q 18) :: st)) : GG l R K x (wM K q S) pc lv (.ref (q 0) :: st) :=
  gx_get X (ci := 3) (T := TX3) (N := 26) (C := RX3) i_M 0 rfl rfl 22 (by decide) t_M_72 rfl rfl hdg kk
theorem gM_l17 (X : OK l R K x cc nL RX3) {z v : Int} (hz : 0 ≤ z ∧ z < 302560) (hv : S.2 17 z = v) (hdg : decode cc pc = .ok (.iaload, 1)) (kk : GG l R K x (wM K q S) (pc + 1) lv (.int (iI v) :: st)) : GG l R K x (wM K q S) pc lv (.int (iI z) :: .ref (q 18) :: st) :=
  gx_iald X 18 rfl ⟨hz.1, by omega, by omega⟩ hv hdg kk
theorem gM_s17 (X : OK l R K x cc nL RX3) (hD : va_D (cx_A x) (wM K q S)) {z v : Int} (hz : 0 ≤ z ∧ z < 302560) (hdg : decode cc pc = .ok (.iastore, 1)) (kk : GG l R K x (wM K q (mA S 17 z v)) (pc + 1) lv st) : GG l R K x (wM K q S) pc lv (.int (iI v) :: .int (iI z) :: .ref (q 18) :: st) :=
  gx_iast X hD 18 rfl ⟨hz.1, by omega, by omega⟩ rfl hdg kk
theorem gM_r18 (X : OK l R K x cc nL RX3) (hdg : decode cc pc = .ok (.getfield 75, 3)) (kk : GG l R K x (wM K q S) (pc + 3) lv (.ref (q 19) :: st)) : GG l R K x (wM K q S) pc lv (.ref (q 0) :: st) :=
  gx_get X (ci := 3) (T := TX3) (N := 26) (C := RX3) i_M 0 rfl rfl 23 (by decide) t_M_75 rfl rfl hdg kk
theorem gM_l18 (X : OK l R K x cc nL RX3) {z v : Int} (hz : 0 ≤ z ∧ z < 30) (hv : S.2 18 z = v) (hdg : decode cc pc = .ok (.iaload, 1)) (kk : GG l R K x (wM K q S) (pc + 1) lv (.int (iI v) :: st)) : GG l R K x (wM K q S) pc lv (.int (iI z) :: .ref (q 19) :: st) :=
  gx_iald X 19 rfl ⟨hz.1, by omega, by omega⟩ hv hdg kk
theorem gM_s18 (X : OK l R K x cc nL RX3) (hD : va_D (cx_A x) (wM K q S)) {z v : Int} (hz : 0 ≤ z ∧ z < 30) (hdg : decode cc pc = .ok (.iastore, 1)) (kk : GG l R K x (wM K q (mA S 18 z v)) (pc + 1) lv st) : GG l R K x (wM K q S) pc lv (.int (iI v) :: .int (iI z) :: .ref (q 19) :: st) :=
  gx_iast X hD 19 rfl ⟨hz.1, by omega, by omega⟩ rfl hdg kk
theorem gM_r19 (X : OK l R K x cc nL RX3) (hdg : decode cc pc = .ok (.getfield 78, 3)) (kk : GG l R K x (wM K q S) (pc + 3) lv (.ref (q 20) :: st)) : GG l R K x (wM K q S) pc lv (.ref (q 0) :: st) :=
  gx_get X (ci := 3) (T := TX3) (N := 26) (C := RX3) i_M 0 rfl rfl 24 (by decide) t_M_78 rfl rfl hdg kk
theorem gM_l19 (X : OK l R K x cc nL RX3) {z v : Int} (hz : 0 ≤ z ∧ z < 480) (hv : S.2 19 z = v) (hdg : decode cc pc = .ok (.iaload, 1)) (kk : GG l R K x (wM K q S) (pc + 1) lv (.int (iI v) :: st)) : GG l R K x (wM K q S) pc lv (.int (iI z) :: .ref (q 20) :: st) :=
  gx_iald X 20 rfl ⟨hz.1, by omega, by omega⟩ hv hdg kk
theorem gM_s19 (X : OK l R K x cc nL RX3) (hD : va_D (cx_A x) (wM K q S)) {z v : Int} (hz : 0 ≤ z ∧ z < 480) (hdg : decode cc pc = .ok (.iastore, 1)) (kk : GG l R K x (wM K q (mA S 19 z v)) (pc + 1) lv st) : GG l R K x (wM K q S) pc lv (.int (iI v) :: .int (iI z) :: .ref (q 20) :: st) :=
  gx_iast X hD 20 rfl ⟨hz.1, by omega, by omega⟩ rfl hdg kk
theorem gM_g5 (X : OK l R K x cc nL RX3) {v : Int} (hv : S.1 5 = v) (hdg : decode cc pc = .ok (.getfield 172, 3)) (kk : GG l R K x (wM K q S) (pc + 3) lv (.int (iI v) :: st)) : GG l R K x (wM K q S) pc lv (.ref (q 0) :: st) := by
  subst hv
  exact gx_get X (ci := 3) (T := TX3) (N := 26) (C := RX3) i_M 0 rfl rfl 25 (by decide) t_M_172 rfl rfl hdg kk
theorem gM_p5 (X : OK l R K x cc nL RX3) (hD : va_D (cx_A x) (wM K q S)) {v : Int} (hdg : decode cc pc = .ok (.putfield 172, 3)) (kk : GG l R K x (wM K q (mI S 5 v)) (pc + 3) lv st) : GG l R K x (wM K q S) pc lv (.int (iI v) :: .ref (q 0) :: st) :=
  gx_put X (ci := 3) (T := TX3) (N := 26) (C := RX3) (ty := .int) i_M tyX3 tyX3_ok nmX3 hD 0 rfl rfl 25 (by decide) t_M_172 rfl rfl (by decide) rfl rfl (Nat.le_of_ble_eq_true rfl) rfl hdg kk
theorem gM_t0 (X : OK l R K x cc nL RX3) (hD : va_D (cx_A x) (wM K q S)) (h : S.1 0 = 0) (hdg : decode cc pc = .ok (.putfield 85, 3)) (kk : GG l R K x (wM K q S) (pc + 3) lv st) : GG l R K x (wM K q S) pc lv (.int (iI 0) :: .ref (q 0) :: st) :=
  gM_p0 X hD hdg (by rw [mI_same h]; exact kk)
end WM
end
section
def M_in (v : Int) (a : Int) (b : Int) : Int := if (zcmp v a) < 0 then 0 else if 0 < (zcmp v b) then 0 else 1
theorem M_in_01 (v : Int) (a : Int) (b : Int) : M_in v a b = 0 ∨ M_in v a b = 1 := by
  unfold M_in
  repeat (first | (exact Or.inl rfl) | (exact Or.inr rfl) | split)
theorem M_in_sp (v a b : Int) : (M_in v a b = 1 ∧ a ≤ v ∧ v ≤ b) ∨ (M_in v a b = 0 ∧ ¬ (a ≤ v ∧ v ≤ b)) := by
  have h1 := zcmp_lt v a
  have h2 := zcmp_gt v b
  unfold M_in
  split
  · right; exact ⟨rfl, by omega⟩
  · split
    · right; exact ⟨rfl, by omega⟩
    · left; exact ⟨rfl, by omega⟩
set_option maxRecDepth 100000 in
theorem c_M_in {l : Launch} {K : KK} (v : Int) (a : Int) (b : Int) (hp0 : ok32 v) (hp1 : ok32 a) (hp2 : ok32 b) : CtI l yX3_in cX3_in 6 .boolean (0, 0) K [.long (lI v), .long (lI a), .long (lI b)] [] (M_in v a b) [] := by
  refine ctI_of (by decide) (Nat.le_of_ble_eq_true rfl) (narrow_bool (M_in_01 v a b)) ?_
  intro x X hD hR
  refine gx_lload_n X dX3_in_0 rfl 0 rfl ?_
  refine gx_lload_n X dX3_in_1 rfl 1 rfl ?_
  refine gx_lcmpi X dX3_in_2 (by omega) ?_
  have ho2 := zcmp_ok v a
  have J18 : ∀ (m18 : Int), m18 = (if (zcmp v a) < 0 then 0 else if 0 < (zcmp v b) then 0 else 1) → GG l (rmK (0, 0)) K x [] 18 [(0, .long (lI v)), (2, .long (lI a)), (4, .long (lI b))] [.int (iI m18)] := by
    intro m18 e_m18
    exact gx_iret hR (e_m18.symm) rfl dX3_in_18
  refine gx_if_lt (tgt := 17) X dX3_in_3 (by decide) (by omega) (fun hc3 => ?_) (fun hc3 => ?_)
  · refine gx_iconst (z := 0) X dX3_in_17 rfl ?_
    refine gx_sub [0, 1, 2] rfl ?_
    exact J18 0 ((if_pos hc3).symm) 
  · refine gx_lload_n X dX3_in_6 rfl 0 rfl ?_
    refine gx_lload X dX3_in_7 2 rfl ?_
    refine gx_lcmpi X dX3_in_9 (by omega) ?_
    have ho9 := zcmp_ok v b
    refine gx_if_gt (tgt := 17) X dX3_in_10 (by decide) (by omega) (fun hc10 => ?_) (fun hc10 => ?_)
    · refine gx_iconst (z := 0) X dX3_in_17 rfl ?_
      refine gx_sub [0, 1, 2] rfl ?_
      exact J18 0 (((if_neg hc3).trans (if_pos hc10)).symm) 
    · refine gx_iconst (z := 1) X dX3_in_13 rfl ?_
      refine gx_goto (tgt := 18) X dX3_in_14 (by decide) ?_
      refine gx_sub [0, 1, 2] rfl ?_
      exact J18 1 (((if_neg hc3).trans (if_neg hc10)).symm) 
def M_size (v : Int) : Int := if 0 ≤ v then v else (-v)
theorem M_size_sp (v : Int) : (0 ≤ v ∧ M_size v = v) ∨ (v < 0 ∧ M_size v = -v) := by
  unfold M_size
  split <;> omega
set_option maxRecDepth 100000 in
theorem c_M_size {l : Launch} {K : KK} (v : Int) (hp0 : -2147483647 ≤ v ∧ v ≤ 2147483647) : CtI l yX3_size cX3_size 1 .int (0, 0) K [.int (iI v)] [] (M_size v) [] := by
  refine ctI_of (by decide) (Nat.le_of_ble_eq_true rfl) rfl ?_
  intro x X hD hR
  refine gx_iload_n X dX3_size_0 rfl 0 rfl ?_
  have J10 : ∀ (m10 : Int), m10 = (if 0 ≤ v then v else (-v)) → GG l (rmK (0, 0)) K x [] 10 [(0, .int (iI v))] [.int (iI m10)] := by
    intro m10 e_m10
    exact gx_iret hR (e_m10.symm) rfl dX3_size_10
  refine gx_if_ge (tgt := 9) X dX3_size_1 (by decide) (by omega) (fun hc1 => ?_) (fun hc1 => ?_)
  · refine gx_iload_n X dX3_size_9 rfl 0 rfl ?_
    refine gx_sub [0] rfl ?_
    exact J10 v ((if_pos hc1).symm) 
  · refine gx_iload_n X dX3_size_4 rfl 0 rfl ?_
    refine gx_ineg X dX3_size_5 ?_
    refine gx_goto (tgt := 10) X dX3_size_6 (by decide) ?_
    refine gx_sub [0] rfl ?_
    exact J10 (-v) ((if_neg hc1).symm) 
def M_noCard (S : Sta) (c : Int) : Int := if (M_in c 0 ((S.1 1) - 1)) = 0 then 1 else 0
theorem M_noCard_01 (S : Sta) (c : Int) : M_noCard S c = 0 ∨ M_noCard S c = 1 := by
  unfold M_noCard
  repeat (first | (exact Or.inl rfl) | (exact Or.inr rfl) | split)
theorem M_noCard_sp (S : Sta) (c : Int) : (M_noCard S c = 0 ∧ 0 ≤ c ∧ c < S.1 1) ∨ (M_noCard S c = 1 ∧ ¬ (0 ≤ c ∧ c < S.1 1)) := by
  have h := M_in_sp c 0 (S.1 1 - 1)
  unfold M_noCard
  split <;> omega
set_option maxRecDepth 100000 in
theorem c_M_noCard {l : Launch} {K : KK} {N : Int} (q : Nat → Nat) (S : Sta) (c : Int) (hI : InvW N S) (hp1 : ok32 c) : CtI l yX3_noCard cX3_noCard 2 .boolean (1, 25) K [.ref (q 0), .int (iI c)] (wM K q S) (M_noCard S c) (wM K q S) := by
  refine ctI_of (by decide) (Nat.le_of_ble_eq_true rfl) (narrow_bool (M_noCard_01 S c)) ?_
  intro x X hD hR
  have hD : ∀ S9 : Sta, va_D (cx_A x) (wM K q S9) := fun S9 => va_D_same hD rfl
  have hs1 := InvM_s1 hI
  have hs2 := InvM_s2 hI
  have hs3 := InvM_s3 hI
  have hs4 := InvM_s4 hI
  refine gx_iload_n X dX3_noCard_0 rfl 1 rfl ?_
  refine gx_i2l X dX3_noCard_1 (by omega) ?_
  refine gx_lconst (v := lI 0) X dX3_noCard_2 rfl ?_
  refine gx_aload_n X dX3_noCard_3 rfl 0 rfl ?_
  refine gM_g1 (v := (S.1 1)) X rfl dX3_noCard_4 ?_
  refine gx_iconst (z := 1) X dX3_noCard_7 rfl ?_
  refine gx_isub X dX3_noCard_8 ?_
  refine gx_i2l X dX3_noCard_9 (by omega) ?_
  refine gx_callSI (As := [.long (lI c), .long (lI 0), .long (lI ((S.1 1) - 1))]) (rest := []) X (hD _) lk_M_88 (c_M_in c 0 ((S.1 1) - 1) (by omega) (by omega) (by omega)) jn_nil rfl ⟨by decide, by decide⟩ (Nat.le_of_ble_eq_true rfl) dX3_noCard_10 ?_
  have hq10_0 := M_in_sp c 0 ((S.1 1) - 1)
  have J21 : ∀ (m21 : Int), m21 = (if (M_in c 0 ((S.1 1) - 1)) = 0 then 1 else 0) → GG l (rmK (1, 25)) K x (wM K q S) 21 [(0, .ref (q 0)), (1, .int (iI c))] [.int (iI m21)] := by
    intro m21 e_m21
    exact gx_iret hR (e_m21.symm) rfl dX3_noCard_21
  refine gx_if_ne (tgt := 20) X dX3_noCard_13 (by decide) (by omega) (fun hc13 => ?_) (fun hc13 => ?_)
  · refine gx_iconst (z := 0) X dX3_noCard_20 rfl ?_
    refine gx_sub [0, 1] rfl ?_
    exact J21 0 ((if_neg hc13).symm) 
  · refine gx_iconst (z := 1) X dX3_noCard_16 rfl ?_
    refine gx_goto (tgt := 21) X dX3_noCard_17 (by decide) ?_
    refine gx_sub [0, 1] rfl ?_
    exact J21 1 ((if_pos hc13).symm) 
def M_noPick (S : Sta) (c : Int) : Int := if (M_in c 0 ((S.1 2) - 1)) = 0 then 1 else 0
theorem M_noPick_01 (S : Sta) (c : Int) : M_noPick S c = 0 ∨ M_noPick S c = 1 := by
  unfold M_noPick
  repeat (first | (exact Or.inl rfl) | (exact Or.inr rfl) | split)
theorem M_noPick_sp (S : Sta) (c : Int) : (M_noPick S c = 0 ∧ 0 ≤ c ∧ c < S.1 2) ∨ (M_noPick S c = 1 ∧ ¬ (0 ≤ c ∧ c < S.1 2)) := by
  have h := M_in_sp c 0 (S.1 2 - 1)
  unfold M_noPick
  split <;> omega
set_option maxRecDepth 100000 in
theorem c_M_noPick {l : Launch} {K : KK} {N : Int} (q : Nat → Nat) (S : Sta) (c : Int) (hI : InvW N S) (hp1 : ok32 c) : CtI l yX3_noPick cX3_noPick 2 .boolean (1, 25) K [.ref (q 0), .int (iI c)] (wM K q S) (M_noPick S c) (wM K q S) := by
  refine ctI_of (by decide) (Nat.le_of_ble_eq_true rfl) (narrow_bool (M_noPick_01 S c)) ?_
  intro x X hD hR
  have hD : ∀ S9 : Sta, va_D (cx_A x) (wM K q S9) := fun S9 => va_D_same hD rfl
  have hs1 := InvM_s1 hI
  have hs2 := InvM_s2 hI
  have hs3 := InvM_s3 hI
  have hs4 := InvM_s4 hI
  refine gx_iload_n X dX3_noPick_0 rfl 1 rfl ?_
  refine gx_i2l X dX3_noPick_1 (by omega) ?_
  refine gx_lconst (v := lI 0) X dX3_noPick_2 rfl ?_
  refine gx_aload_n X dX3_noPick_3 rfl 0 rfl ?_
  refine gM_g2 (v := (S.1 2)) X rfl dX3_noPick_4 ?_
  refine gx_iconst (z := 1) X dX3_noPick_7 rfl ?_
  refine gx_isub X dX3_noPick_8 ?_
  refine gx_i2l X dX3_noPick_9 (by omega) ?_
  refine gx_callSI (As := [.long (lI c), .long (lI 0), .long (lI ((S.1 2) - 1))]) (rest := []) X (hD _) lk_M_88 (c_M_in c 0 ((S.1 2) - 1) (by omega) (by omega) (by omega)) jn_nil rfl ⟨by decide, by decide⟩ (Nat.le_of_ble_eq_true rfl) dX3_noPick_10 ?_
  have hq10_0 := M_in_sp c 0 ((S.1 2) - 1)
  have J21 : ∀ (m21 : Int), m21 = (if (M_in c 0 ((S.1 2) - 1)) = 0 then 1 else 0) → GG l (rmK (1, 25)) K x (wM K q S) 21 [(0, .ref (q 0)), (1, .int (iI c))] [.int (iI m21)] := by
    intro m21 e_m21
    exact gx_iret hR (e_m21.symm) rfl dX3_noPick_21
  refine gx_if_ne (tgt := 20) X dX3_noPick_13 (by decide) (by omega) (fun hc13 => ?_) (fun hc13 => ?_)
  · refine gx_iconst (z := 0) X dX3_noPick_20 rfl ?_
    refine gx_sub [0, 1] rfl ?_
    exact J21 0 ((if_neg hc13).symm) 
  · refine gx_iconst (z := 1) X dX3_noPick_16 rfl ?_
    refine gx_goto (tgt := 21) X dX3_noPick_17 (by decide) ?_
    refine gx_sub [0, 1] rfl ?_
    exact J21 1 ((if_pos hc13).symm) 
def M_begin_l22  : Nat → Int → Sta → Sta
  | 0, v2, S22 => S22
  | fu + 1, v2, S22 => if 64 ≤ v2 then S22 else M_begin_l22  fu (v2 + 1) (mA (mA S22 0 v2 (v2 % 4)) 1 v2 (v2 % 4))
theorem M_begin_l22_s  (fu : Nat) (v2 : Int) (S22 : Sta) : M_begin_l22  (fu + 1) v2 S22 = (if 64 ≤ v2 then S22 else M_begin_l22  fu (v2 + 1) (mA (mA S22 0 v2 (v2 % 4)) 1 v2 (v2 % 4))) := rfl
def M_begin_l54  : Nat → Int → Sta → Sta
  | 0, v2, S54 => S54
  | fu + 1, v2, S54 => if 16 ≤ v2 then S54 else M_begin_l54  fu (v2 + 1) (mA (mA (mA (mA (mA S54 2 v2 0) 3 v2 0) 4 v2 0) 5 v2 0) 6 v2 0)
theorem M_begin_l54_s  (fu : Nat) (v2 : Int) (S54 : Sta) : M_begin_l54  (fu + 1) v2 S54 = (if 16 ≤ v2 then S54 else M_begin_l54  fu (v2 + 1) (mA (mA (mA (mA (mA S54 2 v2 0) 3 v2 0) 4 v2 0) 5 v2 0) 6 v2 0)) := rfl
def M_begin_l103  : Nat → Int → Sta → Sta
  | 0, v2, S103 => S103
  | fu + 1, v2, S103 => if 480 ≤ v2 then S103 else M_begin_l103  fu (v2 + 1) (mA S103 16 v2 (-99))
theorem M_begin_l103_s  (fu : Nat) (v2 : Int) (S103 : Sta) : M_begin_l103  (fu + 1) v2 S103 = (if 480 ≤ v2 then S103 else M_begin_l103  fu (v2 + 1) (mA S103 16 v2 (-99))) := rfl
def M_begin_r54 (z54 : Sta) : Sta := (M_begin_l103  (481) 0 z54)
def M_begin_r22 (z22 : Sta) : Sta := (fun z54 => M_begin_r54 z54) (M_begin_l54  (17) 0 z22)
def M_begin (S : Sta) (n : Int) : Sta := (fun z22 => M_begin_r22 z22) (M_begin_l22  (65) 0 (mI (mI (mI (mI S 1 n) 2 0) 3 1) 4 3))
set_option maxRecDepth 100000 in
theorem c_M_begin {l : Launch} {K : KK} (q : Nat → Nat) (S : Sta) (n : Int) (hp0 : ok32 n) : CtV l yX3_begin cX3_begin 3 (0, 0) K [.ref (q 0), .int (iI n)] (wM K q S) (wM K q (M_begin S n)) := by
  refine ctV_of (by decide) (Nat.le_of_ble_eq_true rfl) ?_
  intro x X hD hR
  have hD : ∀ S9 : Sta, va_D (cx_A x) (wM K q S9) := fun S9 => va_D_same hD rfl
  refine gx_aload_n X dX3_begin_0 rfl 0 rfl ?_
  refine gx_iload_n X dX3_begin_1 rfl 1 rfl ?_
  refine gM_p1 X (hD _) dX3_begin_2 ?_
  refine gx_aload_n X dX3_begin_5 rfl 0 rfl ?_
  refine gx_iconst (z := 0) X dX3_begin_6 rfl ?_
  refine gM_p2 X (hD _) dX3_begin_7 ?_
  refine gx_aload_n X dX3_begin_10 rfl 0 rfl ?_
  refine gx_iconst (z := 1) X dX3_begin_11 rfl ?_
  refine gM_p3 X (hD _) dX3_begin_12 ?_
  refine gx_aload_n X dX3_begin_15 rfl 0 rfl ?_
  refine gx_iconst (z := 3) X dX3_begin_16 rfl ?_
  refine gM_p4 X (hD _) dX3_begin_17 ?_
  refine gx_iconst (z := 0) X dX3_begin_20 rfl ?_
  refine gx_istore_n X dX3_begin_21 rfl (by decide) rfl ?_
  have L22 : ∀ (fu : Nat) (v2 : Int) (S22 : Sta), (0 ≤ v2) → (v2 ≤ 64) → (64 - v2) < (fu : Int) → (∀ z22 : Sta, M_begin_l22  fu v2 S22 = z22 → True → GG l (rmK (0, 0)) K x (wM K q z22) 52 [(0, .ref (q 0)), (1, .int (iI n))] []) → GG l (rmK (0, 0)) K x (wM K q S22) 22 [(0, .ref (q 0)), (1, .int (iI n)), (2, .int (iI v2))] [] := by
    intro fu
    induction fu with
    | zero => intro v2 S22 hi22_0 hi22_1 hm22 K22; exact absurd hm22 (by omega)
    | succ fu ih =>
      intro v2 S22 hi22_0 hi22_1 hm22 K22
      refine gx_iload_n X dX3_begin_22 rfl 2 rfl ?_
      refine gx_bipush (z := 64) X dX3_begin_23 (by decide) ?_
      refine gx_icmp_ge (tgt := 52) X dX3_begin_25 (by decide) (by omega) (fun hc25 => ?_) (fun hc25 => ?_)
      · refine gx_sub [0, 1] rfl ?_
        exact K22 S22 ((M_begin_l22_s  fu v2 S22).trans (if_pos hc25)) trivial
      · refine gx_aload_n X dX3_begin_28 rfl 0 rfl ?_
        refine gM_r0 X dX3_begin_29 ?_
        refine gx_iload_n X dX3_begin_32 rfl 2 rfl ?_
        refine gx_iload_n X dX3_begin_33 rfl 2 rfl ?_
        refine gx_iconst (z := 4) X dX3_begin_34 rfl ?_
        refine gx_irem X dX3_begin_35 (by omega) ?_
        refine gM_s0 X (hD _) (by omega) dX3_begin_36 ?_
        refine gx_aload_n X dX3_begin_37 rfl 0 rfl ?_
        refine gM_r1 X dX3_begin_38 ?_
        refine gx_iload_n X dX3_begin_41 rfl 2 rfl ?_
        refine gx_iload_n X dX3_begin_42 rfl 2 rfl ?_
        refine gx_iconst (z := 4) X dX3_begin_43 rfl ?_
        refine gx_irem X dX3_begin_44 (by omega) ?_
        refine gM_s1 X (hD _) (by omega) dX3_begin_45 ?_
        refine gx_iinc X dX3_begin_46 2 rfl (by decide) rfl ?_
        refine gx_goto (tgt := 22) X dX3_begin_49 (by decide) ?_
        refine gx_sub [1, 2, 0] rfl ?_
        exact ih (v2 + 1) (mA (mA S22 0 v2 (v2 % 4)) 1 v2 (v2 % 4)) (by omega) (by omega) (by omega) (fun z e hx => K22 z ((M_begin_l22_s  fu v2 S22).trans ((if_neg hc25).trans e)) hx)
  refine gx_sub [1, 2, 0] rfl ?_
  refine L22 (65) 0 (mI (mI (mI (mI S 1 n) 2 0) 3 1) 4 3) (by omega) (by omega) (by omega) (fun z22 e22 hx22 => ?_)
  refine gx_iconst (z := 0) X dX3_begin_52 rfl ?_
  refine gx_istore_n X dX3_begin_53 rfl (by decide) rfl ?_
  have L54 : ∀ (fu : Nat) (v2 : Int) (S54 : Sta), (0 ≤ v2) → (v2 ≤ 16) → (16 - v2) < (fu : Int) → (∀ z54 : Sta, M_begin_l54  fu v2 S54 = z54 → True → GG l (rmK (0, 0)) K x (wM K q z54) 101 [(0, .ref (q 0)), (1, .int (iI n))] []) → GG l (rmK (0, 0)) K x (wM K q S54) 54 [(0, .ref (q 0)), (1, .int (iI n)), (2, .int (iI v2))] [] := by
    intro fu
    induction fu with
    | zero => intro v2 S54 hi54_0 hi54_1 hm54 K54; exact absurd hm54 (by omega)
    | succ fu ih =>
      intro v2 S54 hi54_0 hi54_1 hm54 K54
      refine gx_iload_n X dX3_begin_54 rfl 2 rfl ?_
      refine gx_bipush (z := 16) X dX3_begin_55 (by decide) ?_
      refine gx_icmp_ge (tgt := 101) X dX3_begin_57 (by decide) (by omega) (fun hc57 => ?_) (fun hc57 => ?_)
      · refine gx_sub [0, 1] rfl ?_
        exact K54 S54 ((M_begin_l54_s  fu v2 S54).trans (if_pos hc57)) trivial
      · refine gx_aload_n X dX3_begin_60 rfl 0 rfl ?_
        refine gM_r2 X dX3_begin_61 ?_
        refine gx_iload_n X dX3_begin_64 rfl 2 rfl ?_
        refine gx_iconst (z := 0) X dX3_begin_65 rfl ?_
        refine gM_s2 X (hD _) (by omega) dX3_begin_66 ?_
        refine gx_aload_n X dX3_begin_67 rfl 0 rfl ?_
        refine gM_r3 X dX3_begin_68 ?_
        refine gx_iload_n X dX3_begin_71 rfl 2 rfl ?_
        refine gx_iconst (z := 0) X dX3_begin_72 rfl ?_
        refine gM_s3 X (hD _) (by omega) dX3_begin_73 ?_
        refine gx_aload_n X dX3_begin_74 rfl 0 rfl ?_
        refine gM_r4 X dX3_begin_75 ?_
        refine gx_iload_n X dX3_begin_78 rfl 2 rfl ?_
        refine gx_iconst (z := 0) X dX3_begin_79 rfl ?_
        refine gM_s4 X (hD _) (by omega) dX3_begin_80 ?_
        refine gx_aload_n X dX3_begin_81 rfl 0 rfl ?_
        refine gM_r5 X dX3_begin_82 ?_
        refine gx_iload_n X dX3_begin_85 rfl 2 rfl ?_
        refine gx_iconst (z := 0) X dX3_begin_86 rfl ?_
        refine gM_s5 X (hD _) (by omega) dX3_begin_87 ?_
        refine gx_aload_n X dX3_begin_88 rfl 0 rfl ?_
        refine gM_r6 X dX3_begin_89 ?_
        refine gx_iload_n X dX3_begin_92 rfl 2 rfl ?_
        refine gx_iconst (z := 0) X dX3_begin_93 rfl ?_
        refine gM_s6 X (hD _) (by omega) dX3_begin_94 ?_
        refine gx_iinc X dX3_begin_95 2 rfl (by decide) rfl ?_
        refine gx_goto (tgt := 54) X dX3_begin_98 (by decide) ?_
        refine gx_sub [1, 2, 0] rfl ?_
        exact ih (v2 + 1) (mA (mA (mA (mA (mA S54 2 v2 0) 3 v2 0) 4 v2 0) 5 v2 0) 6 v2 0) (by omega) (by omega) (by omega) (fun z e hx => K54 z ((M_begin_l54_s  fu v2 S54).trans ((if_neg hc57).trans e)) hx)
  refine gx_sub [1, 2, 0] rfl ?_
  refine L54 (17) 0 z22 (by omega) (by omega) (by omega) (fun z54 e54 hx54 => ?_)
  refine gx_iconst (z := 0) X dX3_begin_101 rfl ?_
  refine gx_istore_n X dX3_begin_102 rfl (by decide) rfl ?_
  have L103 : ∀ (fu : Nat) (v2 : Int) (S103 : Sta), (0 ≤ v2) → (v2 ≤ 480) → (480 - v2) < (fu : Int) → (∀ z103 : Sta, M_begin_l103  fu v2 S103 = z103 → True → GG l (rmK (0, 0)) K x (wM K q z103) 124 [(0, .ref (q 0)), (1, .int (iI n))] []) → GG l (rmK (0, 0)) K x (wM K q S103) 103 [(0, .ref (q 0)), (1, .int (iI n)), (2, .int (iI v2))] [] := by
    intro fu
    induction fu with
    | zero => intro v2 S103 hi103_0 hi103_1 hm103 K103; exact absurd hm103 (by omega)
    | succ fu ih =>
      intro v2 S103 hi103_0 hi103_1 hm103 K103
      refine gx_iload_n X dX3_begin_103 rfl 2 rfl ?_
      refine gx_sipush (z := 480) X dX3_begin_104 (by decide) ?_
      refine gx_icmp_ge (tgt := 124) X dX3_begin_107 (by decide) (by omega) (fun hc107 => ?_) (fun hc107 => ?_)
      · refine gx_sub [0, 1] rfl ?_
        exact K103 S103 ((M_begin_l103_s  fu v2 S103).trans (if_pos hc107)) trivial
      · refine gx_aload_n X dX3_begin_110 rfl 0 rfl ?_
        refine gM_r16 X dX3_begin_111 ?_
        refine gx_iload_n X dX3_begin_114 rfl 2 rfl ?_
        refine gx_bipush (z := (-99)) X dX3_begin_115 (by decide) ?_
        refine gM_s16 X (hD _) (by omega) dX3_begin_117 ?_
        refine gx_iinc X dX3_begin_118 2 rfl (by decide) rfl ?_
        refine gx_goto (tgt := 103) X dX3_begin_121 (by decide) ?_
        refine gx_sub [1, 2, 0] rfl ?_
        exact ih (v2 + 1) (mA S103 16 v2 (-99)) (by omega) (by omega) (by omega) (fun z e hx => K103 z ((M_begin_l103_s  fu v2 S103).trans ((if_neg hc107).trans e)) hx)
  refine gx_sub [1, 2, 0] rfl ?_
  refine L103 (481) 0 z54 (by omega) (by omega) (by omega) (fun z103 e103 hx103 => ?_)
  exact gx_vret hR (congrArg (fun z : Sta => (wM K q z)) ((show M_begin S n = z103 from (congrArg (fun z22 => M_begin_r22 z22) e22).trans ((congrArg (fun z54 => M_begin_r54 z54) e54).trans (e103))))) dX3_begin_124
def M_cards (S : Sta) (n : Int) : Int × Sta := if (M_in n 1 16) = 0 then ((-2), S) else ((S.1 1), (M_begin S n))
set_option maxRecDepth 100000 in
theorem c_M_cards {l : Launch} {K : KK} {N : Int} (q : Nat → Nat) (S : Sta) (n : Int) (hI : InvW N S) (hp1 : ok32 n) : CtI l yX3_cards cX3_cards 3 .int (1, 25) K [.ref (q 0), .int (iI n)] (wM K q S) (M_cards S n).1 (wM K q ((M_cards S n).2)) := by
  refine ctI_of (by decide) (Nat.le_of_ble_eq_true rfl) rfl ?_
  intro x X hD hR
  have hD : ∀ S9 : Sta, va_D (cx_A x) (wM K q S9) := fun S9 => va_D_same hD rfl
  have hs1 := InvM_s1 hI
  have hs2 := InvM_s2 hI
  have hs3 := InvM_s3 hI
  have hs4 := InvM_s4 hI
  refine gx_aload_n X dX3_cards_0 rfl 0 rfl ?_
  refine gx_iconst (z := 0) X dX3_cards_1 rfl ?_
  refine gM_t0 X (hD _) (InvM_t hI) dX3_cards_2 ?_
  refine gx_iload_n X dX3_cards_5 rfl 1 rfl ?_
  refine gx_i2l X dX3_cards_6 (by omega) ?_
  refine gx_lconst (v := lI 1) X dX3_cards_7 rfl ?_
  refine gx_ldc2 (v := lI 16) X t_M_95 dX3_cards_8 ?_
  refine gx_callSI (As := [.long (lI n), .long (lI 1), .long (lI 16)]) (rest := []) X (hD _) lk_M_88 (c_M_in n 1 16 (by omega) (by omega) (by omega)) jn_nil rfl ⟨by decide, by decide⟩ (Nat.le_of_ble_eq_true rfl) dX3_cards_11 ?_
  have hq11_0 := M_in_sp n 1 16
  refine gx_if_ne (tgt := 20) X dX3_cards_14 (by decide) (by omega) (fun hc14 => ?_) (fun hc14 => ?_)
  · refine gx_aload_n X dX3_cards_20 rfl 0 rfl ?_
    refine gM_g1 (v := (S.1 1)) X rfl dX3_cards_21 ?_
    refine gx_istore_n X dX3_cards_24 rfl (by decide) rfl ?_
    refine gx_aload_n X dX3_cards_25 rfl 1 rfl ?_
    refine gx_iload_n X dX3_cards_26 rfl 2 rfl ?_
    refine gx_callVV (As := [.int (iI n)]) (rest := []) X (hD _) lk_M_81 (ci := 3) rfl rfl 0 rfl (c_M_begin q S n (by omega)) jn_all rfl ⟨by decide, by decide⟩ (Nat.le_of_ble_eq_true rfl) dX3_cards_27 ?_
    refine gx_iload_n X dX3_cards_30 rfl 0 rfl ?_
    exact gx_iret hR (congrArg Prod.fst ((show M_cards S n = ((S.1 1), (M_begin S n)) from if_neg hc14))) (ret2 (fun z => (wM K q z)) ((show M_cards S n = ((S.1 1), (M_begin S n)) from if_neg hc14))) dX3_cards_31
  · refine gx_bipush (z := (-2)) X dX3_cards_17 (by decide) ?_
    exact gx_iret hR (congrArg Prod.fst ((show M_cards S n = ((-2), S) from if_pos hc14))) (ret2 (fun z => (wM K q z)) ((show M_cards S n = ((-2), S) from if_pos hc14))) dX3_cards_19
def M_thread (S : Sta) (c : Int) (t : Int) (v : Int) : Int × Sta := if (M_noCard S c) = 0 then if (M_in t 0 3) = 0 then ((-1), S) else if (M_in v 0 7) = 0 then ((-2), S) else if (S.1 2) ≤ 0 then ((S.2 0 ((4 * c) + t)), (mA S 0 ((4 * c) + t) v)) else ((-3), S) else ((-1), S)
set_option maxRecDepth 100000 in
theorem c_M_thread {l : Launch} {K : KK} {N : Int} (q : Nat → Nat) (S : Sta) (c : Int) (t : Int) (v : Int) (hI : InvW N S) (hp1 : ok32 c) (hp2 : ok32 t) (hp3 : ok32 v) : CtI l yX3_thread cX3_thread 5 .int (2, 46) K [.ref (q 0), .int (iI c), .int (iI t), .int (iI v)] (wM K q S) (M_thread S c t v).1 (wM K q ((M_thread S c t v).2)) := by
  refine ctI_of (by decide) (Nat.le_of_ble_eq_true rfl) rfl ?_
  intro x X hD hR
  have hD : ∀ S9 : Sta, va_D (cx_A x) (wM K q S9) := fun S9 => va_D_same hD rfl
  have hs1 := InvM_s1 hI
  have hs2 := InvM_s2 hI
  have hs3 := InvM_s3 hI
  have hs4 := InvM_s4 hI
  refine gx_aload_n X dX3_thread_0 rfl 0 rfl ?_
  refine gx_iconst (z := 0) X dX3_thread_1 rfl ?_
  refine gM_t0 X (hD _) (InvM_t hI) dX3_thread_2 ?_
  refine gx_aload_n X dX3_thread_5 rfl 0 rfl ?_
  refine gx_iload_n X dX3_thread_6 rfl 1 rfl ?_
  refine gx_callVI (As := [.int (iI c)]) (rest := []) X (hD _) lk_M_97 (ci := 3) rfl rfl 0 rfl (c_M_noCard q S c hI (by omega)) jn_all rfl ⟨by decide, by decide⟩ (Nat.le_of_ble_eq_true rfl) dX3_thread_7 ?_
  have hq7_0 := M_noCard_sp S c
  refine gx_if_ne (tgt := 25) X dX3_thread_10 (by decide) (by omega) (fun hc10 => ?_) (fun hc10 => ?_)
  · refine gx_iconst (z := (-1)) X dX3_thread_25 rfl ?_
    exact gx_iret hR (congrArg Prod.fst ((show M_thread S c t v = ((-1), S) from if_neg hc10))) (ret2 (fun z => (wM K q z)) ((show M_thread S c t v = ((-1), S) from if_neg hc10))) dX3_thread_26
  · refine gx_iload_n X dX3_thread_13 rfl 2 rfl ?_
    refine gx_i2l X dX3_thread_14 (by omega) ?_
    refine gx_lconst (v := lI 0) X dX3_thread_15 rfl ?_
    refine gx_ldc2 (v := lI 3) X t_M_101 dX3_thread_16 ?_
    refine gx_callSI (As := [.long (lI t), .long (lI 0), .long (lI 3)]) (rest := []) X (hD _) lk_M_88 (c_M_in t 0 3 (by omega) (by omega) (by omega)) jn_nil rfl ⟨by decide, by decide⟩ (Nat.le_of_ble_eq_true rfl) dX3_thread_19 ?_
    have hq19_0 := M_in_sp t 0 3
    refine gx_if_ne (tgt := 27) X dX3_thread_22 (by decide) (by omega) (fun hc22 => ?_) (fun hc22 => ?_)
    · refine gx_iload_n X dX3_thread_27 rfl 3 rfl ?_
      refine gx_i2l X dX3_thread_28 (by omega) ?_
      refine gx_lconst (v := lI 0) X dX3_thread_29 rfl ?_
      refine gx_ldc2 (v := lI 7) X t_M_103 dX3_thread_30 ?_
      refine gx_callSI (As := [.long (lI v), .long (lI 0), .long (lI 7)]) (rest := []) X (hD _) lk_M_88 (c_M_in v 0 7 (by omega) (by omega) (by omega)) jn_nil rfl ⟨by decide, by decide⟩ (Nat.le_of_ble_eq_true rfl) dX3_thread_33 ?_
      have hq33_0 := M_in_sp v 0 7
      refine gx_if_ne (tgt := 42) X dX3_thread_36 (by decide) (by omega) (fun hc36 => ?_) (fun hc36 => ?_)
      · refine gx_aload_n X dX3_thread_42 rfl 0 rfl ?_
        refine gM_g2 (v := (S.1 2)) X rfl dX3_thread_43 ?_
        refine gx_if_le (tgt := 52) X dX3_thread_46 (by decide) (by omega) (fun hc46 => ?_) (fun hc46 => ?_)
        · refine gx_aload_n X dX3_thread_52 rfl 0 rfl ?_
          refine gM_r0 X dX3_thread_53 ?_
          refine gx_iconst (z := 4) X dX3_thread_56 rfl ?_
          refine gx_iload_n X dX3_thread_57 rfl 1 rfl ?_
          refine gx_imul X dX3_thread_58 ?_
          refine gx_iload_n X dX3_thread_59 rfl 2 rfl ?_
          refine gx_iadd X dX3_thread_60 ?_
          refine gM_l0 (v := (S.2 0 ((4 * c) + t))) X (by omega) rfl dX3_thread_61 ?_
          have hr61 := InvM_a0 hI ((4 * c) + t)
          refine gx_istore X dX3_thread_62 (by decide) rfl ?_
          refine gx_aload_n X dX3_thread_64 rfl 1 rfl ?_
          refine gM_r0 X dX3_thread_65 ?_
          refine gx_iconst (z := 4) X dX3_thread_68 rfl ?_
          refine gx_iload_n X dX3_thread_69 rfl 2 rfl ?_
          refine gx_imul X dX3_thread_70 ?_
          refine gx_iload_n X dX3_thread_71 rfl 3 rfl ?_
          refine gx_iadd X dX3_thread_72 ?_
          refine gx_iload_n X dX3_thread_73 rfl 4 rfl ?_
          refine gM_s0 X (hD _) (by omega) dX3_thread_74 ?_
          refine gx_iload X dX3_thread_75 0 rfl ?_
          exact gx_iret hR (congrArg Prod.fst ((show M_thread S c t v = ((S.2 0 ((4 * c) + t)), (mA S 0 ((4 * c) + t) v)) from (if_pos hc10).trans ((if_neg hc22).trans ((if_neg hc36).trans (if_pos hc46)))))) (ret2 (fun z => (wM K q z)) ((show M_thread S c t v = ((S.2 0 ((4 * c) + t)), (mA S 0 ((4 * c) + t) v)) from (if_pos hc10).trans ((if_neg hc22).trans ((if_neg hc36).trans (if_pos hc46)))))) dX3_thread_77
        · refine gx_bipush (z := (-3)) X dX3_thread_49 (by decide) ?_
          exact gx_iret hR (congrArg Prod.fst ((show M_thread S c t v = ((-3), S) from (if_pos hc10).trans ((if_neg hc22).trans ((if_neg hc36).trans (if_neg hc46)))))) (ret2 (fun z => (wM K q z)) ((show M_thread S c t v = ((-3), S) from (if_pos hc10).trans ((if_neg hc22).trans ((if_neg hc36).trans (if_neg hc46)))))) dX3_thread_51
      · refine gx_bipush (z := (-2)) X dX3_thread_39 (by decide) ?_
        exact gx_iret hR (congrArg Prod.fst ((show M_thread S c t v = ((-2), S) from (if_pos hc10).trans ((if_neg hc22).trans (if_pos hc36))))) (ret2 (fun z => (wM K q z)) ((show M_thread S c t v = ((-2), S) from (if_pos hc10).trans ((if_neg hc22).trans (if_pos hc36))))) dX3_thread_41
    · refine gx_iconst (z := (-1)) X dX3_thread_25 rfl ?_
      exact gx_iret hR (congrArg Prod.fst ((show M_thread S c t v = ((-1), S) from (if_pos hc10).trans (if_pos hc22)))) (ret2 (fun z => (wM K q z)) ((show M_thread S c t v = ((-1), S) from (if_pos hc10).trans (if_pos hc22)))) dX3_thread_26
def M_way (S : Sta) (c : Int) (v : Int) : Int × Sta := if (M_noCard S c) = 0 then if (M_in v 0 1) = 0 then ((-2), S) else if (S.1 2) ≤ 0 then ((S.2 2 c), (mA S 2 c v)) else ((-3), S) else ((-1), S)
set_option maxRecDepth 100000 in
theorem c_M_way {l : Launch} {K : KK} {N : Int} (q : Nat → Nat) (S : Sta) (c : Int) (v : Int) (hI : InvW N S) (hp1 : ok32 c) (hp2 : ok32 v) : CtI l yX3_way cX3_way 4 .int (2, 46) K [.ref (q 0), .int (iI c), .int (iI v)] (wM K q S) (M_way S c v).1 (wM K q ((M_way S c v).2)) := by
  refine ctI_of (by decide) (Nat.le_of_ble_eq_true rfl) rfl ?_
  intro x X hD hR
  have hD : ∀ S9 : Sta, va_D (cx_A x) (wM K q S9) := fun S9 => va_D_same hD rfl
  have hs1 := InvM_s1 hI
  have hs2 := InvM_s2 hI
  have hs3 := InvM_s3 hI
  have hs4 := InvM_s4 hI
  refine gx_aload_n X dX3_way_0 rfl 0 rfl ?_
  refine gx_iconst (z := 0) X dX3_way_1 rfl ?_
  refine gM_t0 X (hD _) (InvM_t hI) dX3_way_2 ?_
  refine gx_aload_n X dX3_way_5 rfl 0 rfl ?_
  refine gx_iload_n X dX3_way_6 rfl 1 rfl ?_
  refine gx_callVI (As := [.int (iI c)]) (rest := []) X (hD _) lk_M_97 (ci := 3) rfl rfl 0 rfl (c_M_noCard q S c hI (by omega)) jn_all rfl ⟨by decide, by decide⟩ (Nat.le_of_ble_eq_true rfl) dX3_way_7 ?_
  have hq7_0 := M_noCard_sp S c
  refine gx_if_eq (tgt := 15) X dX3_way_10 (by decide) (by omega) (fun hc10 => ?_) (fun hc10 => ?_)
  · refine gx_iload_n X dX3_way_15 rfl 2 rfl ?_
    refine gx_i2l X dX3_way_16 (by omega) ?_
    refine gx_lconst (v := lI 0) X dX3_way_17 rfl ?_
    refine gx_lconst (v := lI 1) X dX3_way_18 rfl ?_
    refine gx_callSI (As := [.long (lI v), .long (lI 0), .long (lI 1)]) (rest := []) X (hD _) lk_M_88 (c_M_in v 0 1 (by omega) (by omega) (by omega)) jn_nil rfl ⟨by decide, by decide⟩ (Nat.le_of_ble_eq_true rfl) dX3_way_19 ?_
    have hq19_0 := M_in_sp v 0 1
    refine gx_if_ne (tgt := 28) X dX3_way_22 (by decide) (by omega) (fun hc22 => ?_) (fun hc22 => ?_)
    · refine gx_aload_n X dX3_way_28 rfl 0 rfl ?_
      refine gM_g2 (v := (S.1 2)) X rfl dX3_way_29 ?_
      refine gx_if_le (tgt := 38) X dX3_way_32 (by decide) (by omega) (fun hc32 => ?_) (fun hc32 => ?_)
      · refine gx_aload_n X dX3_way_38 rfl 0 rfl ?_
        refine gM_r2 X dX3_way_39 ?_
        refine gx_iload_n X dX3_way_42 rfl 1 rfl ?_
        refine gM_l2 (v := (S.2 2 c)) X (by omega) rfl dX3_way_43 ?_
        have hr43 := InvM_a2 hI c
        refine gx_istore_n X dX3_way_44 rfl (by decide) rfl ?_
        refine gx_aload_n X dX3_way_45 rfl 1 rfl ?_
        refine gM_r2 X dX3_way_46 ?_
        refine gx_iload_n X dX3_way_49 rfl 2 rfl ?_
        refine gx_iload_n X dX3_way_50 rfl 3 rfl ?_
        refine gM_s2 X (hD _) (by omega) dX3_way_51 ?_
        refine gx_iload_n X dX3_way_52 rfl 0 rfl ?_
        exact gx_iret hR (congrArg Prod.fst ((show M_way S c v = ((S.2 2 c), (mA S 2 c v)) from (if_pos hc10).trans ((if_neg hc22).trans (if_pos hc32))))) (ret2 (fun z => (wM K q z)) ((show M_way S c v = ((S.2 2 c), (mA S 2 c v)) from (if_pos hc10).trans ((if_neg hc22).trans (if_pos hc32))))) dX3_way_53
      · refine gx_bipush (z := (-3)) X dX3_way_35 (by decide) ?_
        exact gx_iret hR (congrArg Prod.fst ((show M_way S c v = ((-3), S) from (if_pos hc10).trans ((if_neg hc22).trans (if_neg hc32))))) (ret2 (fun z => (wM K q z)) ((show M_way S c v = ((-3), S) from (if_pos hc10).trans ((if_neg hc22).trans (if_neg hc32))))) dX3_way_37
    · refine gx_bipush (z := (-2)) X dX3_way_25 (by decide) ?_
      exact gx_iret hR (congrArg Prod.fst ((show M_way S c v = ((-2), S) from (if_pos hc10).trans (if_pos hc22)))) (ret2 (fun z => (wM K q z)) ((show M_way S c v = ((-2), S) from (if_pos hc10).trans (if_pos hc22)))) dX3_way_27
  · refine gx_iconst (z := (-1)) X dX3_way_13 rfl ?_
    exact gx_iret hR (congrArg Prod.fst ((show M_way S c v = ((-1), S) from if_neg hc10))) (ret2 (fun z => (wM K q z)) ((show M_way S c v = ((-1), S) from if_neg hc10))) dX3_way_14
def M_flip (S : Sta) (c : Int) : Int × Sta := if (M_noCard S c) = 0 then ((1 - (S.2 2 c)), (mA (mA (mA (mA (mA (mA S 1 (4 * c) (S.2 1 ((4 * c) + 1))) 1 ((4 * c) + 1) (S.2 1 (4 * c))) 1 ((4 * c) + 2) ((mA (mA S 1 (4 * c) (S.2 1 ((4 * c) + 1))) 1 ((4 * c) + 1) (S.2 1 (4 * c))).2 1 ((4 * c) + 3))) 1 ((4 * c) + 3) ((mA (mA S 1 (4 * c) (S.2 1 ((4 * c) + 1))) 1 ((4 * c) + 1) (S.2 1 (4 * c))).2 1 ((4 * c) + 2))) 2 c (1 - (S.2 2 c))) 6 c ((S.2 6 c) + 1))) else ((-1), S)
set_option maxRecDepth 100000 in
theorem c_M_flip {l : Launch} {K : KK} {N : Int} (q : Nat → Nat) (S : Sta) (c : Int) (hI : InvW N S) (hp1 : ok32 c) : CtI l yX3_flip cX3_flip 4 .int (2, 46) K [.ref (q 0), .int (iI c)] (wM K q S) (M_flip S c).1 (wM K q ((M_flip S c).2)) := by
  refine ctI_of (by decide) (Nat.le_of_ble_eq_true rfl) rfl ?_
  intro x X hD hR
  have hD : ∀ S9 : Sta, va_D (cx_A x) (wM K q S9) := fun S9 => va_D_same hD rfl
  have hs1 := InvM_s1 hI
  have hs2 := InvM_s2 hI
  have hs3 := InvM_s3 hI
  have hs4 := InvM_s4 hI
  refine gx_aload_n X dX3_flip_0 rfl 0 rfl ?_
  refine gx_iconst (z := 0) X dX3_flip_1 rfl ?_
  refine gM_t0 X (hD _) (InvM_t hI) dX3_flip_2 ?_
  refine gx_aload_n X dX3_flip_5 rfl 0 rfl ?_
  refine gx_iload_n X dX3_flip_6 rfl 1 rfl ?_
  refine gx_callVI (As := [.int (iI c)]) (rest := []) X (hD _) lk_M_97 (ci := 3) rfl rfl 0 rfl (c_M_noCard q S c hI (by omega)) jn_all rfl ⟨by decide, by decide⟩ (Nat.le_of_ble_eq_true rfl) dX3_flip_7 ?_
  have hq7_0 := M_noCard_sp S c
  refine gx_if_eq (tgt := 15) X dX3_flip_10 (by decide) (by omega) (fun hc10 => ?_) (fun hc10 => ?_)
  · refine gx_iconst (z := 4) X dX3_flip_15 rfl ?_
    refine gx_iload_n X dX3_flip_16 rfl 1 rfl ?_
    refine gx_imul X dX3_flip_17 ?_
    refine gx_istore_n X dX3_flip_18 rfl (by decide) rfl ?_
    refine gx_aload_n X dX3_flip_19 rfl 1 rfl ?_
    refine gM_r1 X dX3_flip_20 ?_
    refine gx_iload_n X dX3_flip_23 rfl 0 rfl ?_
    refine gM_l1 (v := (S.2 1 (4 * c))) X (by omega) rfl dX3_flip_24 ?_
    have hr24 := InvM_a1 hI (4 * c)
    refine gx_istore_n X dX3_flip_25 rfl (by decide) rfl ?_
    refine gx_aload_n X dX3_flip_26 rfl 2 rfl ?_
    refine gM_r1 X dX3_flip_27 ?_
    refine gx_iload_n X dX3_flip_30 rfl 1 rfl ?_
    refine gx_aload_n X dX3_flip_31 rfl 2 rfl ?_
    refine gM_r1 X dX3_flip_32 ?_
    refine gx_iload_n X dX3_flip_35 rfl 1 rfl ?_
    refine gx_iconst (z := 1) X dX3_flip_36 rfl ?_
    refine gx_iadd X dX3_flip_37 ?_
    refine gM_l1 (v := (S.2 1 ((4 * c) + 1))) X (by omega) rfl dX3_flip_38 ?_
    have hr38 := InvM_a1 hI ((4 * c) + 1)
    refine gM_s1 X (hD _) (by omega) dX3_flip_39 ?_
    refine gx_aload_n X dX3_flip_40 rfl 2 rfl ?_
    refine gM_r1 X dX3_flip_41 ?_
    refine gx_iload_n X dX3_flip_44 rfl 1 rfl ?_
    refine gx_iconst (z := 1) X dX3_flip_45 rfl ?_
    refine gx_iadd X dX3_flip_46 ?_
    refine gx_iload_n X dX3_flip_47 rfl 0 rfl ?_
    refine gM_s1 X (hD _) (by omega) dX3_flip_48 ?_
    refine gx_aload_n X dX3_flip_49 rfl 2 rfl ?_
    refine gM_r1 X dX3_flip_50 ?_
    refine gx_iload_n X dX3_flip_53 rfl 1 rfl ?_
    refine gx_iconst (z := 2) X dX3_flip_54 rfl ?_
    refine gx_iadd X dX3_flip_55 ?_
    refine gM_l1 (v := ((mA (mA S 1 (4 * c) (S.2 1 ((4 * c) + 1))) 1 ((4 * c) + 1) (S.2 1 (4 * c))).2 1 ((4 * c) + 2))) X (by omega) rfl dX3_flip_56 ?_
    refine gx_istore_n X dX3_flip_57 rfl (by decide) rfl ?_
    refine gx_aload_n X dX3_flip_58 rfl 2 rfl ?_
    refine gM_r1 X dX3_flip_59 ?_
    refine gx_iload_n X dX3_flip_62 rfl 1 rfl ?_
    refine gx_iconst (z := 2) X dX3_flip_63 rfl ?_
    refine gx_iadd X dX3_flip_64 ?_
    refine gx_aload_n X dX3_flip_65 rfl 2 rfl ?_
    refine gM_r1 X dX3_flip_66 ?_
    refine gx_iload_n X dX3_flip_69 rfl 1 rfl ?_
    refine gx_iconst (z := 3) X dX3_flip_70 rfl ?_
    refine gx_iadd X dX3_flip_71 ?_
    refine gM_l1 (v := ((mA (mA S 1 (4 * c) (S.2 1 ((4 * c) + 1))) 1 ((4 * c) + 1) (S.2 1 (4 * c))).2 1 ((4 * c) + 3))) X (by omega) rfl dX3_flip_72 ?_
    refine gM_s1 X (hD _) (by omega) dX3_flip_73 ?_
    refine gx_aload_n X dX3_flip_74 rfl 2 rfl ?_
    refine gM_r1 X dX3_flip_75 ?_
    refine gx_iload_n X dX3_flip_78 rfl 1 rfl ?_
    refine gx_iconst (z := 3) X dX3_flip_79 rfl ?_
    refine gx_iadd X dX3_flip_80 ?_
    refine gx_iload_n X dX3_flip_81 rfl 0 rfl ?_
    refine gM_s1 X (hD _) (by omega) dX3_flip_82 ?_
    refine gx_aload_n X dX3_flip_83 rfl 2 rfl ?_
    refine gM_r2 X dX3_flip_84 ?_
    refine gx_iload_n X dX3_flip_87 rfl 3 rfl ?_
    refine gx_iconst (z := 1) X dX3_flip_88 rfl ?_
    refine gx_aload_n X dX3_flip_89 rfl 2 rfl ?_
    refine gM_r2 X dX3_flip_90 ?_
    refine gx_iload_n X dX3_flip_93 rfl 3 rfl ?_
    refine gM_l2 (v := (S.2 2 c)) X (by omega) rfl dX3_flip_94 ?_
    have hr94 := InvM_a2 hI c
    refine gx_isub X dX3_flip_95 ?_
    refine gM_s2 X (hD _) (by omega) dX3_flip_96 ?_
    refine gx_aload_n X dX3_flip_97 rfl 2 rfl ?_
    refine gM_r6 X dX3_flip_98 ?_
    refine gx_iload_n X dX3_flip_101 rfl 3 rfl ?_
    refine gx_dup2 X dX3_flip_102 rfl rfl ?_
    refine gM_l6 (v := (S.2 6 c)) X (by omega) rfl dX3_flip_103 ?_
    have hr103 := InvM_a6 hI c
    refine gx_iconst (z := 1) X dX3_flip_104 rfl ?_
    refine gx_iadd X dX3_flip_105 ?_
    refine gM_s6 X (hD _) (by omega) dX3_flip_106 ?_
    refine gx_aload_n X dX3_flip_107 rfl 2 rfl ?_
    refine gM_r2 X dX3_flip_108 ?_
    refine gx_iload_n X dX3_flip_111 rfl 3 rfl ?_
    refine gM_l2 (v := (1 - (S.2 2 c))) X (by omega) (iu_same _ _ _) dX3_flip_112 ?_
    exact gx_iret hR (congrArg Prod.fst ((show M_flip S c = ((1 - (S.2 2 c)), (mA (mA (mA (mA (mA (mA S 1 (4 * c) (S.2 1 ((4 * c) + 1))) 1 ((4 * c) + 1) (S.2 1 (4 * c))) 1 ((4 * c) + 2) ((mA (mA S 1 (4 * c) (S.2 1 ((4 * c) + 1))) 1 ((4 * c) + 1) (S.2 1 (4 * c))).2 1 ((4 * c) + 3))) 1 ((4 * c) + 3) ((mA (mA S 1 (4 * c) (S.2 1 ((4 * c) + 1))) 1 ((4 * c) + 1) (S.2 1 (4 * c))).2 1 ((4 * c) + 2))) 2 c (1 - (S.2 2 c))) 6 c ((S.2 6 c) + 1))) from if_pos hc10))) (ret2 (fun z => (wM K q z)) ((show M_flip S c = ((1 - (S.2 2 c)), (mA (mA (mA (mA (mA (mA S 1 (4 * c) (S.2 1 ((4 * c) + 1))) 1 ((4 * c) + 1) (S.2 1 (4 * c))) 1 ((4 * c) + 2) ((mA (mA S 1 (4 * c) (S.2 1 ((4 * c) + 1))) 1 ((4 * c) + 1) (S.2 1 (4 * c))).2 1 ((4 * c) + 3))) 1 ((4 * c) + 3) ((mA (mA S 1 (4 * c) (S.2 1 ((4 * c) + 1))) 1 ((4 * c) + 1) (S.2 1 (4 * c))).2 1 ((4 * c) + 2))) 2 c (1 - (S.2 2 c))) 6 c ((S.2 6 c) + 1))) from if_pos hc10))) dX3_flip_113
  · refine gx_iconst (z := (-1)) X dX3_flip_13 rfl ?_
    exact gx_iret hR (congrArg Prod.fst ((show M_flip S c = ((-1), S) from if_neg hc10))) (ret2 (fun z => (wM K q z)) ((show M_flip S c = ((-1), S) from if_neg hc10))) dX3_flip_14
def M_pack (S : Sta) (c : Int) (p : Int) : Int × Sta := if (M_noCard S c) = 0 then if (M_in p 0 3) = 0 then ((-1), S) else ((S.2 3 c), (mA S 3 c p)) else ((-1), S)
set_option maxRecDepth 100000 in
theorem c_M_pack {l : Launch} {K : KK} {N : Int} (q : Nat → Nat) (S : Sta) (c : Int) (p : Int) (hI : InvW N S) (hp1 : ok32 c) (hp2 : ok32 p) : CtI l yX3_pack cX3_pack 4 .int (2, 46) K [.ref (q 0), .int (iI c), .int (iI p)] (wM K q S) (M_pack S c p).1 (wM K q ((M_pack S c p).2)) := by
  refine ctI_of (by decide) (Nat.le_of_ble_eq_true rfl) rfl ?_
  intro x X hD hR
  have hD : ∀ S9 : Sta, va_D (cx_A x) (wM K q S9) := fun S9 => va_D_same hD rfl
  have hs1 := InvM_s1 hI
  have hs2 := InvM_s2 hI
  have hs3 := InvM_s3 hI
  have hs4 := InvM_s4 hI
  refine gx_aload_n X dX3_pack_0 rfl 0 rfl ?_
  refine gx_iconst (z := 0) X dX3_pack_1 rfl ?_
  refine gM_t0 X (hD _) (InvM_t hI) dX3_pack_2 ?_
  refine gx_aload_n X dX3_pack_5 rfl 0 rfl ?_
  refine gx_iload_n X dX3_pack_6 rfl 1 rfl ?_
  refine gx_callVI (As := [.int (iI c)]) (rest := []) X (hD _) lk_M_97 (ci := 3) rfl rfl 0 rfl (c_M_noCard q S c hI (by omega)) jn_all rfl ⟨by decide, by decide⟩ (Nat.le_of_ble_eq_true rfl) dX3_pack_7 ?_
  have hq7_0 := M_noCard_sp S c
  refine gx_if_ne (tgt := 25) X dX3_pack_10 (by decide) (by omega) (fun hc10 => ?_) (fun hc10 => ?_)
  · refine gx_iconst (z := (-1)) X dX3_pack_25 rfl ?_
    exact gx_iret hR (congrArg Prod.fst ((show M_pack S c p = ((-1), S) from if_neg hc10))) (ret2 (fun z => (wM K q z)) ((show M_pack S c p = ((-1), S) from if_neg hc10))) dX3_pack_26
  · refine gx_iload_n X dX3_pack_13 rfl 2 rfl ?_
    refine gx_i2l X dX3_pack_14 (by omega) ?_
    refine gx_lconst (v := lI 0) X dX3_pack_15 rfl ?_
    refine gx_ldc2 (v := lI 3) X t_M_101 dX3_pack_16 ?_
    refine gx_callSI (As := [.long (lI p), .long (lI 0), .long (lI 3)]) (rest := []) X (hD _) lk_M_88 (c_M_in p 0 3 (by omega) (by omega) (by omega)) jn_nil rfl ⟨by decide, by decide⟩ (Nat.le_of_ble_eq_true rfl) dX3_pack_19 ?_
    have hq19_0 := M_in_sp p 0 3
    refine gx_if_ne (tgt := 27) X dX3_pack_22 (by decide) (by omega) (fun hc22 => ?_) (fun hc22 => ?_)
    · refine gx_aload_n X dX3_pack_27 rfl 0 rfl ?_
      refine gM_r3 X dX3_pack_28 ?_
      refine gx_iload_n X dX3_pack_31 rfl 1 rfl ?_
      refine gM_l3 (v := (S.2 3 c)) X (by omega) rfl dX3_pack_32 ?_
      have hr32 := InvM_a3 hI c
      refine gx_istore_n X dX3_pack_33 rfl (by decide) rfl ?_
      refine gx_aload_n X dX3_pack_34 rfl 1 rfl ?_
      refine gM_r3 X dX3_pack_35 ?_
      refine gx_iload_n X dX3_pack_38 rfl 2 rfl ?_
      refine gx_iload_n X dX3_pack_39 rfl 3 rfl ?_
      refine gM_s3 X (hD _) (by omega) dX3_pack_40 ?_
      refine gx_iload_n X dX3_pack_41 rfl 0 rfl ?_
      exact gx_iret hR (congrArg Prod.fst ((show M_pack S c p = ((S.2 3 c), (mA S 3 c p)) from (if_pos hc10).trans (if_neg hc22)))) (ret2 (fun z => (wM K q z)) ((show M_pack S c p = ((S.2 3 c), (mA S 3 c p)) from (if_pos hc10).trans (if_neg hc22)))) dX3_pack_42
    · refine gx_iconst (z := (-1)) X dX3_pack_25 rfl ?_
      exact gx_iret hR (congrArg Prod.fst ((show M_pack S c p = ((-1), S) from (if_pos hc10).trans (if_pos hc22)))) (ret2 (fun z => (wM K q z)) ((show M_pack S c p = ((-1), S) from (if_pos hc10).trans (if_pos hc22)))) dX3_pack_26
def M_about (S : Sta) (c : Int) (w : Int) : Int := if (M_noCard S c) = 0 then if w = 0 then (S.2 2 c) else if w = 1 then (S.2 3 c) else if w = 2 then ((S.2 4 c) + 100) else if w = 3 then (S.2 5 c) else if w = 4 then (S.2 6 c) else (-2) else (-1)
set_option maxRecDepth 100000 in
theorem c_M_about {l : Launch} {K : KK} {N : Int} (q : Nat → Nat) (S : Sta) (c : Int) (w : Int) (hI : InvW N S) (hp1 : ok32 c) (hp2 : ok32 w) : CtI l yX3_about cX3_about 3 .int (2, 46) K [.ref (q 0), .int (iI c), .int (iI w)] (wM K q S) (M_about S c w) (wM K q S) := by
  refine ctI_of (by decide) (Nat.le_of_ble_eq_true rfl) rfl ?_
  intro x X hD hR
  have hD : ∀ S9 : Sta, va_D (cx_A x) (wM K q S9) := fun S9 => va_D_same hD rfl
  have hs1 := InvM_s1 hI
  have hs2 := InvM_s2 hI
  have hs3 := InvM_s3 hI
  have hs4 := InvM_s4 hI
  refine gx_aload_n X dX3_about_0 rfl 0 rfl ?_
  refine gx_iconst (z := 0) X dX3_about_1 rfl ?_
  refine gM_t0 X (hD _) (InvM_t hI) dX3_about_2 ?_
  refine gx_aload_n X dX3_about_5 rfl 0 rfl ?_
  refine gx_iload_n X dX3_about_6 rfl 1 rfl ?_
  refine gx_callVI (As := [.int (iI c)]) (rest := []) X (hD _) lk_M_97 (ci := 3) rfl rfl 0 rfl (c_M_noCard q S c hI (by omega)) jn_all rfl ⟨by decide, by decide⟩ (Nat.le_of_ble_eq_true rfl) dX3_about_7 ?_
  have hq7_0 := M_noCard_sp S c
  refine gx_if_eq (tgt := 15) X dX3_about_10 (by decide) (by omega) (fun hc10 => ?_) (fun hc10 => ?_)
  · refine gx_iload_n X dX3_about_15 rfl 2 rfl ?_
    have hsw16 : ok32 w := by omega
    by_cases hc16_0 : w = 0
    · refine gx_switchIn (tgt := 52) X dX3_about_16 (k := 0) hc16_0 (by decide) (by decide) rfl (by decide) ?_
      refine gx_aload_n X dX3_about_52 rfl 0 rfl ?_
      refine gM_r2 X dX3_about_53 ?_
      refine gx_iload_n X dX3_about_56 rfl 1 rfl ?_
      refine gM_l2 (v := (S.2 2 c)) X (by omega) rfl dX3_about_57 ?_
      have hr57 := InvM_a2 hI c
      exact gx_iret hR ((if_pos hc10).trans (if_pos hc16_0)) rfl dX3_about_58
    by_cases hc16_1 : w = 1
    · refine gx_switchIn (tgt := 59) X dX3_about_16 (k := 1) hc16_1 (by decide) (by decide) rfl (by decide) ?_
      refine gx_aload_n X dX3_about_59 rfl 0 rfl ?_
      refine gM_r3 X dX3_about_60 ?_
      refine gx_iload_n X dX3_about_63 rfl 1 rfl ?_
      refine gM_l3 (v := (S.2 3 c)) X (by omega) rfl dX3_about_64 ?_
      have hr64 := InvM_a3 hI c
      exact gx_iret hR ((if_pos hc10).trans ((if_neg hc16_0).trans (if_pos hc16_1))) rfl dX3_about_65
    by_cases hc16_2 : w = 2
    · refine gx_switchIn (tgt := 66) X dX3_about_16 (k := 2) hc16_2 (by decide) (by decide) rfl (by decide) ?_
      refine gx_aload_n X dX3_about_66 rfl 0 rfl ?_
      refine gM_r4 X dX3_about_67 ?_
      refine gx_iload_n X dX3_about_70 rfl 1 rfl ?_
      refine gM_l4 (v := (S.2 4 c)) X (by omega) rfl dX3_about_71 ?_
      refine gx_bipush (z := 100) X dX3_about_72 (by decide) ?_
      refine gx_iadd X dX3_about_74 ?_
      exact gx_iret hR ((if_pos hc10).trans ((if_neg hc16_0).trans ((if_neg hc16_1).trans (if_pos hc16_2)))) rfl dX3_about_75
    by_cases hc16_3 : w = 3
    · refine gx_switchIn (tgt := 76) X dX3_about_16 (k := 3) hc16_3 (by decide) (by decide) rfl (by decide) ?_
      refine gx_aload_n X dX3_about_76 rfl 0 rfl ?_
      refine gM_r5 X dX3_about_77 ?_
      refine gx_iload_n X dX3_about_80 rfl 1 rfl ?_
      refine gM_l5 (v := (S.2 5 c)) X (by omega) rfl dX3_about_81 ?_
      exact gx_iret hR ((if_pos hc10).trans ((if_neg hc16_0).trans ((if_neg hc16_1).trans ((if_neg hc16_2).trans (if_pos hc16_3))))) rfl dX3_about_82
    by_cases hc16_4 : w = 4
    · refine gx_switchIn (tgt := 83) X dX3_about_16 (k := 4) hc16_4 (by decide) (by decide) rfl (by decide) ?_
      refine gx_aload_n X dX3_about_83 rfl 0 rfl ?_
      refine gM_r6 X dX3_about_84 ?_
      refine gx_iload_n X dX3_about_87 rfl 1 rfl ?_
      refine gM_l6 (v := (S.2 6 c)) X (by omega) rfl dX3_about_88 ?_
      have hr88 := InvM_a6 hI c
      exact gx_iret hR ((if_pos hc10).trans ((if_neg hc16_0).trans ((if_neg hc16_1).trans ((if_neg hc16_2).trans ((if_neg hc16_3).trans (if_pos hc16_4)))))) rfl dX3_about_89
    refine gx_switchOut (tgt := 90) X dX3_about_16 hsw16 (by omega) (by decide) ?_
    refine gx_bipush (z := (-2)) X dX3_about_90 (by decide) ?_
    exact gx_iret hR ((if_pos hc10).trans ((if_neg hc16_0).trans ((if_neg hc16_1).trans ((if_neg hc16_2).trans ((if_neg hc16_3).trans (if_neg hc16_4)))))) rfl dX3_about_92
  · refine gx_iconst (z := (-1)) X dX3_about_13 rfl ?_
    exact gx_iret hR (if_neg hc10) rfl dX3_about_14
def M_at (S : Sta) (c : Int) (p : Int) : Int := if (M_noCard S c) = 0 then if (M_in p 0 3) = 0 then (-2) else (S.2 1 ((4 * c) + p)) else (-1)
set_option maxRecDepth 100000 in
theorem c_M_at {l : Launch} {K : KK} {N : Int} (q : Nat → Nat) (S : Sta) (c : Int) (p : Int) (hI : InvW N S) (hp1 : ok32 c) (hp2 : ok32 p) : CtI l yX3_at cX3_at 3 .int (2, 46) K [.ref (q 0), .int (iI c), .int (iI p)] (wM K q S) (M_at S c p) (wM K q S) := by
  refine ctI_of (by decide) (Nat.le_of_ble_eq_true rfl) rfl ?_
  intro x X hD hR
  have hD : ∀ S9 : Sta, va_D (cx_A x) (wM K q S9) := fun S9 => va_D_same hD rfl
  have hs1 := InvM_s1 hI
  have hs2 := InvM_s2 hI
  have hs3 := InvM_s3 hI
  have hs4 := InvM_s4 hI
  refine gx_aload_n X dX3_at_0 rfl 0 rfl ?_
  refine gx_iconst (z := 0) X dX3_at_1 rfl ?_
  refine gM_t0 X (hD _) (InvM_t hI) dX3_at_2 ?_
  refine gx_aload_n X dX3_at_5 rfl 0 rfl ?_
  refine gx_iload_n X dX3_at_6 rfl 1 rfl ?_
  refine gx_callVI (As := [.int (iI c)]) (rest := []) X (hD _) lk_M_97 (ci := 3) rfl rfl 0 rfl (c_M_noCard q S c hI (by omega)) jn_all rfl ⟨by decide, by decide⟩ (Nat.le_of_ble_eq_true rfl) dX3_at_7 ?_
  have hq7_0 := M_noCard_sp S c
  refine gx_if_eq (tgt := 15) X dX3_at_10 (by decide) (by omega) (fun hc10 => ?_) (fun hc10 => ?_)
  · refine gx_iload_n X dX3_at_15 rfl 2 rfl ?_
    refine gx_i2l X dX3_at_16 (by omega) ?_
    refine gx_lconst (v := lI 0) X dX3_at_17 rfl ?_
    refine gx_ldc2 (v := lI 3) X t_M_101 dX3_at_18 ?_
    refine gx_callSI (As := [.long (lI p), .long (lI 0), .long (lI 3)]) (rest := []) X (hD _) lk_M_88 (c_M_in p 0 3 (by omega) (by omega) (by omega)) jn_nil rfl ⟨by decide, by decide⟩ (Nat.le_of_ble_eq_true rfl) dX3_at_21 ?_
    have hq21_0 := M_in_sp p 0 3
    have J42 : ∀ (m42 : Int), m42 = (if (M_in p 0 3) = 0 then (-2) else (S.2 1 ((4 * c) + p))) → GG l (rmK (2, 46)) K x (wM K q S) 42 [(0, .ref (q 0)), (1, .int (iI c)), (2, .int (iI p))] [.int (iI m42)] := by
      intro m42 e_m42
      exact gx_iret hR ((if_pos hc10).trans (e_m42.symm)) rfl dX3_at_42
    refine gx_if_eq (tgt := 40) X dX3_at_24 (by decide) (by omega) (fun hc24 => ?_) (fun hc24 => ?_)
    · refine gx_bipush (z := (-2)) X dX3_at_40 (by decide) ?_
      refine gx_sub [0, 1, 2] rfl ?_
      exact J42 (-2) ((if_pos hc24).symm) 
    · refine gx_aload_n X dX3_at_27 rfl 0 rfl ?_
      refine gM_r1 X dX3_at_28 ?_
      refine gx_iconst (z := 4) X dX3_at_31 rfl ?_
      refine gx_iload_n X dX3_at_32 rfl 1 rfl ?_
      refine gx_imul X dX3_at_33 ?_
      refine gx_iload_n X dX3_at_34 rfl 2 rfl ?_
      refine gx_iadd X dX3_at_35 ?_
      refine gM_l1 (v := (S.2 1 ((4 * c) + p))) X (by omega) rfl dX3_at_36 ?_
      have hr36 := InvM_a1 hI ((4 * c) + p)
      refine gx_goto (tgt := 42) X dX3_at_37 (by decide) ?_
      refine gx_sub [0, 1, 2] rfl ?_
      exact J42 (S.2 1 ((4 * c) + p)) ((if_neg hc24).symm) 
  · refine gx_iconst (z := (-1)) X dX3_at_13 rfl ?_
    exact gx_iret hR (if_neg hc10) rfl dX3_at_14
end
section
def M_keep_l12 (S : Sta) (c : Int) : Nat → Int → Sta → Sta
  | 0, v3, S12 => S12
  | fu + 1, v3, S12 => if 4 ≤ v3 then S12 else M_keep_l12 S c fu (v3 + 1) (mA S12 7 ((4 * ((16 * (S.1 2)) + c)) + v3) (S12.2 1 ((4 * c) + v3)))
theorem M_keep_l12_s (S : Sta) (c : Int) (fu : Nat) (v3 : Int) (S12 : Sta) : M_keep_l12 S c (fu + 1) v3 S12 = (if 4 ≤ v3 then S12 else M_keep_l12 S c fu (v3 + 1) (mA S12 7 ((4 * ((16 * (S.1 2)) + c)) + v3) (S12.2 1 ((4 * c) + v3)))) := rfl
def M_keep_r12 (S : Sta) (c : Int) (z12 : Sta) : Sta := (mA (mA (mA (mA z12 8 ((16 * (S.1 2)) + c) (z12.2 2 c)) 9 ((16 * (S.1 2)) + c) (z12.2 4 c)) 10 ((16 * (S.1 2)) + c) (z12.2 5 c)) 11 ((16 * (S.1 2)) + c) (z12.2 6 c))
def M_keep (S : Sta) (c : Int) : Sta := (fun z12 => M_keep_r12 S c z12) (M_keep_l12 S c (5) 0 S)
theorem M_keep_l12_fr (S0 : Sta) (c : Int) : ∀ (n : Nat) (i : Int) (S : Sta), (M_keep_l12 S0 c n i S).1 = S.1 ∧ ∀ k : Nat, k ≠ 7 → (M_keep_l12 S0 c n i S).2 k = S.2 k := by
  intro n
  induction n with
  | zero => intro i S; exact ⟨rfl, fun _ _ => rfl⟩
  | succ n ih =>
    intro i S
    rw [M_keep_l12_s]
    split
    · exact ⟨rfl, fun _ _ => rfl⟩
    · exact ⟨(ih _ _).1, fun k hk => ((ih _ _).2 k hk).trans (if_neg hk)⟩
theorem M_keep_sc (S : Sta) (c : Int) : (M_keep S c).1 = S.1 := (M_keep_l12_fr S c 5 0 S).1
theorem M_keep_ar (S : Sta) (c : Int) (k : Nat) (hk : k < 7 ∨ 11 < k) : (M_keep S c).2 k = S.2 k := by
  refine Eq.trans ?_ ((M_keep_l12_fr S c 5 0 S).2 k (by omega))
  unfold M_keep M_keep_r12
  rw [mA_ne _ _ trivial (by omega), mA_ne _ _ trivial (by omega), mA_ne _ _ trivial (by omega), mA_ne _ _ trivial (by omega)]
theorem M_keep_l12_inv {N : Int} (S0 : Sta) (c : Int) : ∀ (n : Nat) (i : Int) (S : Sta), InvW N S → InvW N (M_keep_l12 S0 c n i S) := by
  intro n
  induction n with
  | zero => intro i S h; exact h
  | succ n ih =>
    intro i S h
    rw [M_keep_l12_s]
    split
    · exact h
    · exact ih _ _ (h.mA (h.2 1 _))
theorem M_keep_inv {N : Int} (S : Sta) (c : Int) (h : InvW N S) : InvW N (M_keep S c) := by
  have h1 := M_keep_l12_inv S c 5 0 S h
  have h2 := InvW.mA (k := 8) (z := 16 * S.1 2 + c) h1 (show rgM N 8 ((M_keep_l12 S c 5 0 S).2 2 c) from h1.2 2 c)
  have h3 := InvW.mA (k := 9) (z := 16 * S.1 2 + c) h2 (show rgM N 9 ((M_keep_l12 S c 5 0 S).2 4 c) from trivial)
  have h4 := InvW.mA (k := 10) (z := 16 * S.1 2 + c) h3 (show rgM N 10 ((M_keep_l12 S c 5 0 S).2 5 c) from trivial)
  exact InvW.mA (k := 11) (z := 16 * S.1 2 + c) h4 (show rgM N 11 ((M_keep_l12 S c 5 0 S).2 6 c) from h1.2 6 c)
set_option maxRecDepth 100000 in
theorem c_M_keep {l : Launch} {K : KK} {N : Int} (q : Nat → Nat) (S : Sta) (c : Int) (hI : InvW N S) (hp1 : 0 ≤ c ∧ c < 16) (hp2 : S.1 2 < 60) : CtV l yX3_keep cX3_keep 4 (0, 0) K [.ref (q 0), .int (iI c)] (wM K q S) (wM K q (M_keep S c)) := by
  refine ctV_of (by decide) (Nat.le_of_ble_eq_true rfl) ?_
  intro x X hD hR
  have hD : ∀ S9 : Sta, va_D (cx_A x) (wM K q S9) := fun S9 => va_D_same hD rfl
  have hs1 := InvM_s1 hI
  have hs2 := InvM_s2 hI
  have hs3 := InvM_s3 hI
  have hs4 := InvM_s4 hI
  refine gx_bipush (z := 16) X dX3_keep_0 (by decide) ?_
  refine gx_aload_n X dX3_keep_2 rfl 0 rfl ?_
  refine gM_g2 (v := (S.1 2)) X rfl dX3_keep_3 ?_
  refine gx_imul X dX3_keep_6 ?_
  refine gx_iload_n X dX3_keep_7 rfl 1 rfl ?_
  refine gx_iadd X dX3_keep_8 ?_
  refine gx_istore_n X dX3_keep_9 rfl (by decide) rfl ?_
  refine gx_iconst (z := 0) X dX3_keep_10 rfl ?_
  refine gx_istore_n X dX3_keep_11 rfl (by decide) rfl ?_
  have L12 : ∀ (fu : Nat) (v3 : Int) (S12 : Sta), (0 ≤ v3) → (v3 ≤ 4) → (S12.1 = S.1) → (4 - v3) < (fu : Int) → (∀ z12 : Sta, M_keep_l12 S c fu v3 S12 = z12 → (z12.1 = S.1) → GG l (rmK (0, 0)) K x (wM K q z12) 43 [(0, .ref (q 0)), (1, .int (iI c)), (2, .int (iI ((16 * (S.1 2)) + c)))] []) → GG l (rmK (0, 0)) K x (wM K q S12) 12 [(0, .ref (q 0)), (1, .int (iI c)), (2, .int (iI ((16 * (S.1 2)) + c))), (3, .int (iI v3))] [] := by
    intro fu
    induction fu with
    | zero => intro v3 S12 hi12_0 hi12_1 hi12_2 hm12 K12; exact absurd hm12 (by omega)
    | succ fu ih =>
      intro v3 S12 hi12_0 hi12_1 hi12_2 hm12 K12
      refine gx_iload_n X dX3_keep_12 rfl 3 rfl ?_
      refine gx_iconst (z := 4) X dX3_keep_13 rfl ?_
      refine gx_icmp_ge (tgt := 43) X dX3_keep_14 (by decide) (by omega) (fun hc14 => ?_) (fun hc14 => ?_)
      · refine gx_sub [0, 1, 2] rfl ?_
        exact K12 S12 ((M_keep_l12_s S c fu v3 S12).trans (if_pos hc14)) ((hi12_2 ))
      · refine gx_aload_n X dX3_keep_17 rfl 0 rfl ?_
        refine gM_r7 X dX3_keep_18 ?_
        refine gx_iconst (z := 4) X dX3_keep_21 rfl ?_
        refine gx_iload_n X dX3_keep_22 rfl 2 rfl ?_
        refine gx_imul X dX3_keep_23 ?_
        refine gx_iload_n X dX3_keep_24 rfl 3 rfl ?_
        refine gx_iadd X dX3_keep_25 ?_
        refine gx_aload_n X dX3_keep_26 rfl 0 rfl ?_
        refine gM_r1 X dX3_keep_27 ?_
        refine gx_iconst (z := 4) X dX3_keep_30 rfl ?_
        refine gx_iload_n X dX3_keep_31 rfl 1 rfl ?_
        refine gx_imul X dX3_keep_32 ?_
        refine gx_iload_n X dX3_keep_33 rfl 3 rfl ?_
        refine gx_iadd X dX3_keep_34 ?_
        refine gM_l1 (v := (S12.2 1 ((4 * c) + v3))) X (by omega) rfl dX3_keep_35 ?_
        refine gM_s7 X (hD _) (by omega) dX3_keep_36 ?_
        refine gx_iinc X dX3_keep_37 3 rfl (by decide) rfl ?_
        refine gx_goto (tgt := 12) X dX3_keep_40 (by decide) ?_
        refine gx_sub [1, 2, 3, 0] rfl ?_
        exact ih (v3 + 1) (mA S12 7 ((4 * ((16 * (S.1 2)) + c)) + v3) (S12.2 1 ((4 * c) + v3))) (by omega) (by omega) (hi12_2 ) (by omega) (fun z e hx => K12 z ((M_keep_l12_s S c fu v3 S12).trans ((if_neg hc14).trans e)) hx)
  refine gx_sub [2, 3, 1, 0] rfl ?_
  refine L12 (5) 0 S (by omega) (by omega) rfl (by omega) (fun z12 e12 hx12 => ?_)
  refine gx_aload_n X dX3_keep_43 rfl 0 rfl ?_
  refine gM_r8 X dX3_keep_44 ?_
  refine gx_iload_n X dX3_keep_47 rfl 2 rfl ?_
  refine gx_aload_n X dX3_keep_48 rfl 0 rfl ?_
  refine gM_r2 X dX3_keep_49 ?_
  refine gx_iload_n X dX3_keep_52 rfl 1 rfl ?_
  refine gM_l2 (v := (z12.2 2 c)) X (by omega) rfl dX3_keep_53 ?_
  refine gM_s8 X (hD _) (by omega) dX3_keep_54 ?_
  refine gx_aload_n X dX3_keep_55 rfl 0 rfl ?_
  refine gM_r9 X dX3_keep_56 ?_
  refine gx_iload_n X dX3_keep_59 rfl 2 rfl ?_
  refine gx_aload_n X dX3_keep_60 rfl 0 rfl ?_
  refine gM_r4 X dX3_keep_61 ?_
  refine gx_iload_n X dX3_keep_64 rfl 1 rfl ?_
  refine gM_l4 (v := (z12.2 4 c)) X (by omega) rfl dX3_keep_65 ?_
  refine gM_s9 X (hD _) (by omega) dX3_keep_66 ?_
  refine gx_aload_n X dX3_keep_67 rfl 0 rfl ?_
  refine gM_r10 X dX3_keep_68 ?_
  refine gx_iload_n X dX3_keep_71 rfl 2 rfl ?_
  refine gx_aload_n X dX3_keep_72 rfl 0 rfl ?_
  refine gM_r5 X dX3_keep_73 ?_
  refine gx_iload_n X dX3_keep_76 rfl 1 rfl ?_
  refine gM_l5 (v := (z12.2 5 c)) X (by omega) rfl dX3_keep_77 ?_
  refine gM_s10 X (hD _) (by omega) dX3_keep_78 ?_
  refine gx_aload_n X dX3_keep_79 rfl 0 rfl ?_
  refine gM_r11 X dX3_keep_80 ?_
  refine gx_iload_n X dX3_keep_83 rfl 2 rfl ?_
  refine gx_aload_n X dX3_keep_84 rfl 0 rfl ?_
  refine gM_r6 X dX3_keep_85 ?_
  refine gx_iload_n X dX3_keep_88 rfl 1 rfl ?_
  refine gM_l6 (v := (z12.2 6 c)) X (by omega) rfl dX3_keep_89 ?_
  refine gM_s11 X (hD _) (by omega) dX3_keep_90 ?_
  exact gx_vret hR (congrArg (fun z : Sta => (wM K q z)) ((show M_keep S c = (mA (mA (mA (mA z12 8 ((16 * (S.1 2)) + c) (z12.2 2 c)) 9 ((16 * (S.1 2)) + c) (z12.2 4 c)) 10 ((16 * (S.1 2)) + c) (z12.2 5 c)) 11 ((16 * (S.1 2)) + c) (z12.2 6 c)) from congrArg (fun z12 => M_keep_r12 S c z12) e12))) dX3_keep_91
def M_move_l2 (c : Int) (b : Int) : Nat → Int → Sta → Sta
  | 0, v3, S2 => S2
  | fu + 1, v3, S2 => if b ≤ v3 then S2 else M_move_l2 c b fu (v3 + 1) (mA (mA (mA (mA S2 1 ((4 * c) + 3) (S2.2 1 ((4 * c) + 2))) 1 ((4 * c) + 2) ((mA S2 1 ((4 * c) + 3) (S2.2 1 ((4 * c) + 2))).2 1 ((4 * c) + 1))) 1 ((4 * c) + 1) ((mA (mA S2 1 ((4 * c) + 3) (S2.2 1 ((4 * c) + 2))) 1 ((4 * c) + 2) ((mA S2 1 ((4 * c) + 3) (S2.2 1 ((4 * c) + 2))).2 1 ((4 * c) + 1))).2 1 (4 * c))) 1 (4 * c) (S2.2 1 ((4 * c) + 3)))
theorem M_move_l2_s (c : Int) (b : Int) (fu : Nat) (v3 : Int) (S2 : Sta) : M_move_l2 c b (fu + 1) v3 S2 = (if b ≤ v3 then S2 else M_move_l2 c b fu (v3 + 1) (mA (mA (mA (mA S2 1 ((4 * c) + 3) (S2.2 1 ((4 * c) + 2))) 1 ((4 * c) + 2) ((mA S2 1 ((4 * c) + 3) (S2.2 1 ((4 * c) + 2))).2 1 ((4 * c) + 1))) 1 ((4 * c) + 1) ((mA (mA S2 1 ((4 * c) + 3) (S2.2 1 ((4 * c) + 2))) 1 ((4 * c) + 2) ((mA S2 1 ((4 * c) + 3) (S2.2 1 ((4 * c) + 2))).2 1 ((4 * c) + 1))).2 1 (4 * c))) 1 (4 * c) (S2.2 1 ((4 * c) + 3)))) := rfl
def M_move (S : Sta) (c : Int) (b : Int) : Sta := (M_move_l2 c b (4) 0 S)
theorem M_move_l2_fr (c b : Int) : ∀ (n : Nat) (i : Int) (S : Sta), (M_move_l2 c b n i S).1 = S.1 ∧ ∀ k : Nat, k ≠ 1 → (M_move_l2 c b n i S).2 k = S.2 k := by
  intro n
  induction n with
  | zero => intro i S; exact ⟨rfl, fun _ _ => rfl⟩
  | succ n ih =>
    intro i S
    rw [M_move_l2_s]
    split
    · exact ⟨rfl, fun _ _ => rfl⟩
    · refine ⟨(ih _ _).1, fun k hk => ((ih _ _).2 k hk).trans ?_⟩
      rw [mA_ne _ _ trivial hk, mA_ne _ _ trivial hk, mA_ne _ _ trivial hk, mA_ne _ _ trivial hk]
theorem M_move_sc (S : Sta) (c b : Int) : (M_move S c b).1 = S.1 := (M_move_l2_fr c b 4 0 S).1
theorem M_move_ar (S : Sta) (c b : Int) (k : Nat) (hk : k ≠ 1) : (M_move S c b).2 k = S.2 k := (M_move_l2_fr c b 4 0 S).2 k hk
theorem M_move_l2_inv {N : Int} (c b : Int) : ∀ (n : Nat) (i : Int) (S : Sta), InvW N S → InvW N (M_move_l2 c b n i S) := by
  intro n
  induction n with
  | zero => intro i S h; exact h
  | succ n ih =>
    intro i S h
    rw [M_move_l2_s]
    split
    · exact h
    · have h1 := h.mA (k := 1) (z := 4 * c + 3) (h.2 1 (4 * c + 2))
      have h2 := h1.mA (k := 1) (z := 4 * c + 2) (h1.2 1 (4 * c + 1))
      have h3 := h2.mA (k := 1) (z := 4 * c + 1) (h2.2 1 (4 * c))
      exact ih _ _ (h3.mA (h.2 1 _))
theorem M_move_inv {N : Int} (S : Sta) (c b : Int) (h : InvW N S) : InvW N (M_move S c b) := M_move_l2_inv c b 4 0 S h
set_option maxRecDepth 100000 in
theorem c_M_move {l : Launch} {K : KK} (q : Nat → Nat) (S : Sta) (c : Int) (b : Int) (hp0 : 0 ≤ c ∧ c < 16) (hp1 : 0 ≤ b ∧ b ≤ 3) : CtV l yX3_move cX3_move 6 (0, 0) K [.ref (q 0), .int (iI c), .int (iI b)] (wM K q S) (wM K q (M_move S c b)) := by
  refine ctV_of (by decide) (Nat.le_of_ble_eq_true rfl) ?_
  intro x X hD hR
  have hD : ∀ S9 : Sta, va_D (cx_A x) (wM K q S9) := fun S9 => va_D_same hD rfl
  refine gx_iconst (z := 0) X dX3_move_0 rfl ?_
  refine gx_istore_n X dX3_move_1 rfl (by decide) rfl ?_
  have L2 : ∀ (fu : Nat) (v3 : Int) (S2 : Sta), (0 ≤ v3) → (v3 ≤ b) → (b - v3) < (fu : Int) → (∀ z2 : Sta, M_move_l2 c b fu v3 S2 = z2 → True → GG l (rmK (0, 0)) K x (wM K q z2) 90 [(0, .ref (q 0)), (1, .int (iI c)), (2, .int (iI b))] []) → GG l (rmK (0, 0)) K x (wM K q S2) 2 [(0, .ref (q 0)), (1, .int (iI c)), (2, .int (iI b)), (3, .int (iI v3))] [] := by
    intro fu
    induction fu with
    | zero => intro v3 S2 hi2_0 hi2_1 hm2 K2; exact absurd hm2 (by omega)
    | succ fu ih =>
      intro v3 S2 hi2_0 hi2_1 hm2 K2
      refine gx_iload_n X dX3_move_2 rfl 3 rfl ?_
      refine gx_iload_n X dX3_move_3 rfl 2 rfl ?_
      refine gx_icmp_ge (tgt := 90) X dX3_move_4 (by decide) (by omega) (fun hc4 => ?_) (fun hc4 => ?_)
      · refine gx_sub [0, 1, 2] rfl ?_
        exact K2 S2 ((M_move_l2_s c b fu v3 S2).trans (if_pos hc4)) trivial
      · refine gx_iconst (z := 4) X dX3_move_7 rfl ?_
        refine gx_iload_n X dX3_move_8 rfl 1 rfl ?_
        refine gx_imul X dX3_move_9 ?_
        refine gx_istore X dX3_move_10 (by decide) rfl ?_
        refine gx_aload_n X dX3_move_12 rfl 1 rfl ?_
        refine gM_r1 X dX3_move_13 ?_
        refine gx_iload X dX3_move_16 0 rfl ?_
        refine gx_iconst (z := 3) X dX3_move_18 rfl ?_
        refine gx_iadd X dX3_move_19 ?_
        refine gM_l1 (v := (S2.2 1 ((4 * c) + 3))) X (by omega) rfl dX3_move_20 ?_
        refine gx_istore X dX3_move_21 (by decide) rfl ?_
        refine gx_aload_n X dX3_move_23 rfl 2 rfl ?_
        refine gM_r1 X dX3_move_24 ?_
        refine gx_iload X dX3_move_27 1 rfl ?_
        refine gx_iconst (z := 3) X dX3_move_29 rfl ?_
        refine gx_iadd X dX3_move_30 ?_
        refine gx_aload_n X dX3_move_31 rfl 2 rfl ?_
        refine gM_r1 X dX3_move_32 ?_
        refine gx_iload X dX3_move_35 1 rfl ?_
        refine gx_iconst (z := 2) X dX3_move_37 rfl ?_
        refine gx_iadd X dX3_move_38 ?_
        refine gM_l1 (v := (S2.2 1 ((4 * c) + 2))) X (by omega) rfl dX3_move_39 ?_
        refine gM_s1 X (hD _) (by omega) dX3_move_40 ?_
        refine gx_aload_n X dX3_move_41 rfl 2 rfl ?_
        refine gM_r1 X dX3_move_42 ?_
        refine gx_iload X dX3_move_45 1 rfl ?_
        refine gx_iconst (z := 2) X dX3_move_47 rfl ?_
        refine gx_iadd X dX3_move_48 ?_
        refine gx_aload_n X dX3_move_49 rfl 2 rfl ?_
        refine gM_r1 X dX3_move_50 ?_
        refine gx_iload X dX3_move_53 1 rfl ?_
        refine gx_iconst (z := 1) X dX3_move_55 rfl ?_
        refine gx_iadd X dX3_move_56 ?_
        refine gM_l1 (v := ((mA S2 1 ((4 * c) + 3) (S2.2 1 ((4 * c) + 2))).2 1 ((4 * c) + 1))) X (by omega) rfl dX3_move_57 ?_
        refine gM_s1 X (hD _) (by omega) dX3_move_58 ?_
        refine gx_aload_n X dX3_move_59 rfl 2 rfl ?_
        refine gM_r1 X dX3_move_60 ?_
        refine gx_iload X dX3_move_63 1 rfl ?_
        refine gx_iconst (z := 1) X dX3_move_65 rfl ?_
        refine gx_iadd X dX3_move_66 ?_
        refine gx_aload_n X dX3_move_67 rfl 2 rfl ?_
        refine gM_r1 X dX3_move_68 ?_
        refine gx_iload X dX3_move_71 1 rfl ?_
        refine gM_l1 (v := ((mA (mA S2 1 ((4 * c) + 3) (S2.2 1 ((4 * c) + 2))) 1 ((4 * c) + 2) ((mA S2 1 ((4 * c) + 3) (S2.2 1 ((4 * c) + 2))).2 1 ((4 * c) + 1))).2 1 (4 * c))) X (by omega) rfl dX3_move_73 ?_
        refine gM_s1 X (hD _) (by omega) dX3_move_74 ?_
        refine gx_aload_n X dX3_move_75 rfl 2 rfl ?_
        refine gM_r1 X dX3_move_76 ?_
        refine gx_iload X dX3_move_79 1 rfl ?_
        refine gx_iload X dX3_move_81 0 rfl ?_
        refine gM_s1 X (hD _) (by omega) dX3_move_83 ?_
        refine gx_iinc X dX3_move_84 5 rfl (by decide) rfl ?_
        refine gx_goto (tgt := 2) X dX3_move_87 (by decide) ?_
        refine gx_sub [3, 4, 5, 0] rfl ?_
        exact ih (v3 + 1) (mA (mA (mA (mA S2 1 ((4 * c) + 3) (S2.2 1 ((4 * c) + 2))) 1 ((4 * c) + 2) ((mA S2 1 ((4 * c) + 3) (S2.2 1 ((4 * c) + 2))).2 1 ((4 * c) + 1))) 1 ((4 * c) + 1) ((mA (mA S2 1 ((4 * c) + 3) (S2.2 1 ((4 * c) + 2))) 1 ((4 * c) + 2) ((mA S2 1 ((4 * c) + 3) (S2.2 1 ((4 * c) + 2))).2 1 ((4 * c) + 1))).2 1 (4 * c))) 1 (4 * c) (S2.2 1 ((4 * c) + 3))) (by omega) (by omega) (by omega) (fun z e hx => K2 z ((M_move_l2_s c b fu v3 S2).trans ((if_neg hc4).trans e)) hx)
  refine gx_sub [1, 2, 3, 0] rfl ?_
  refine L2 (4) 0 S (by omega) (by omega) (by omega) (fun z2 e2 hx2 => ?_)
  exact gx_vret hR (congrArg (fun z : Sta => (wM K q z)) ((show M_move S c b = z2 from e2))) dX3_move_90
def M_make (S : Sta) (c : Int) (t : Int) : Sta := if t = 2 then (mA (mA (mA (mA (mA (M_keep S c) 12 ((16 * (S.1 2)) + c) t) 5 c ((S.2 5 c) + 1)) 13 ((16 * (S.1 2)) + c) ((if (S.1 2) = 0 then (S.2 1 (4 * c)) else (S.2 13 (((16 * (S.1 2)) + c) - 16))) : Int)) 14 ((16 * (S.1 2)) + c) ((if (S.1 2) = 0 then (S.2 1 ((4 * c) + 2)) else (S.2 14 (((16 * (S.1 2)) + c) - 16))) : Int)) 15 ((16 * (S.1 2)) + c) ((if (S.1 2) = 0 then 0 else (S.2 15 (((16 * (S.1 2)) + c) - 16))) : Int)) else (mA (mA (mA (mA (mA (M_move (mA (M_keep S c) 12 ((16 * (S.1 2)) + c) t) c ((if t = 0 then 1 else 3) : Int)) 5 c 0) 15 ((16 * (S.1 2)) + c) ((if t = (S.2 2 c) then 0 else 1) : Int)) 4 c ((S.2 4 c) + ((if ((if t = (S.2 2 c) then 0 else 1) : Int) = 0 then 1 else (-1)) : Int))) 13 ((16 * (S.1 2)) + c) ((M_move (mA (M_keep S c) 12 ((16 * (S.1 2)) + c) t) c ((if t = 0 then 1 else 3) : Int)).2 1 ((4 * c) + t))) 14 ((16 * (S.1 2)) + c) ((M_move (mA (M_keep S c) 12 ((16 * (S.1 2)) + c) t) c ((if t = 0 then 1 else 3) : Int)).2 1 (((4 * c) + t) + 2)))
theorem M_make_sc (S : Sta) (c t : Int) : (M_make S c t).1 = S.1 := by
  unfold M_make
  split
  · exact M_keep_sc S c
  · exact (M_move_sc _ _ _).trans (M_keep_sc S c)
theorem M_make_ar (S : Sta) (c t : Int) (k : Nat) (hk : k ∉ [1, 4, 5, 7, 8, 9, 10, 11, 12, 13, 14, 15]) : (M_make S c t).2 k = S.2 k := by
  have e1 := M_keep_ar S c k (by simp only [List.mem_cons, List.not_mem_nil, or_false, not_or] at hk; omega)
  unfold M_make
  split
  · exact (mA_nin hk (by decide)).trans ((mA_nin hk (by decide)).trans ((mA_nin hk (by decide)).trans ((mA_nin hk (by decide)).trans ((mA_nin hk (by decide)).trans e1))))
  · exact (mA_nin hk (by decide)).trans ((mA_nin hk (by decide)).trans ((mA_nin hk (by decide)).trans ((mA_nin hk (by decide)).trans ((mA_nin hk (by decide)).trans ((M_move_ar _ _ _ k (by simp only [List.mem_cons, List.not_mem_nil, or_false, not_or] at hk; omega)).trans ((mA_nin hk (by decide)).trans e1))))))
theorem M_make_inv {N : Int} (S : Sta) (c t : Int) (h : InvW N S) (_ : 0 ≤ c ∧ c < 16) (_ : S.1 2 < 60) (ht : 0 ≤ t ∧ t ≤ 2) : InvW N (M_make S c t) := by
  have h1 := InvW.mA (k := 12) (z := 16 * S.1 2 + c) (M_keep_inv S c h) (show rgM N 12 t from ht)
  unfold M_make
  split
  · have h2 := InvW.mA (k := 5) (z := c) (v := S.2 5 c + 1) h1 trivial
    have h3 := InvW.mA (k := 13) (z := 16 * S.1 2 + c) (v := if S.1 2 = 0 then S.2 1 (4 * c) else S.2 13 (16 * S.1 2 + c - 16)) h2 (by split; exact h.2 1 _; exact h.2 13 _)
    have h4 := InvW.mA (k := 14) (z := 16 * S.1 2 + c) (v := if S.1 2 = 0 then S.2 1 (4 * c + 2) else S.2 14 (16 * S.1 2 + c - 16)) h3 (by split; exact h.2 1 _; exact h.2 14 _)
    exact InvW.mA (k := 15) (z := 16 * S.1 2 + c) (v := if S.1 2 = 0 then 0 else S.2 15 (16 * S.1 2 + c - 16)) h4 (by split; exact (by decide : (0 : Int) ≤ 0 ∧ (0 : Int) ≤ 1); exact h.2 15 _)
  · have hm := M_move_inv _ c (if t = 0 then 1 else 3) h1
    have h2 := InvW.mA (k := 5) (z := c) (v := 0) hm trivial
    have h3 := InvW.mA (k := 15) (z := 16 * S.1 2 + c) (v := if t = S.2 2 c then 0 else 1) h2 (by split; exact (by decide : (0 : Int) ≤ 0 ∧ (0 : Int) ≤ 1); exact (by decide : (0 : Int) ≤ 1 ∧ (1 : Int) ≤ 1))
    have h4 := InvW.mA (k := 4) (z := c) (v := S.2 4 c + (if (if t = S.2 2 c then (0 : Int) else 1) = 0 then 1 else (-1))) h3 trivial
    have h5 := InvW.mA (k := 13) (z := 16 * S.1 2 + c) h4 (show rgM N 13 _ from hm.2 1 (4 * c + t))
    exact InvW.mA (k := 14) (z := 16 * S.1 2 + c) h5 (show rgM N 14 _ from hm.2 1 (4 * c + t + 2))
set_option maxRecDepth 100000 in
theorem c_M_make {l : Launch} {K : KK} {N : Int} (q : Nat → Nat) (S : Sta) (c : Int) (t : Int) (hI : InvW N S) (hp1 : 0 ≤ c ∧ c < 16) (hp2 : S.1 2 < 60) (hp3 : 0 ≤ t ∧ t ≤ 2) : CtV l yX3_make cX3_make 4 (1, 25) K [.ref (q 0), .int (iI c), .int (iI t)] (wM K q S) (wM K q (M_make S c t)) := by
  refine ctV_of (by decide) (Nat.le_of_ble_eq_true rfl) ?_
  intro x X hD hR
  have hD : ∀ S9 : Sta, va_D (cx_A x) (wM K q S9) := fun S9 => va_D_same hD rfl
  have hs1 := InvM_s1 hI
  have hs2 := InvM_s2 hI
  have hs3 := InvM_s3 hI
  have hs4 := InvM_s4 hI
  refine gx_aload_n X dX3_make_0 rfl 0 rfl ?_
  refine gx_iload_n X dX3_make_1 rfl 1 rfl ?_
  refine gx_callVV (As := [.int (iI c)]) (rest := []) X (hD _) lk_M_105 (ci := 3) rfl rfl 0 rfl (c_M_keep q S c hI (by omega) (by omega)) jn_all rfl ⟨by decide, by decide⟩ (Nat.le_of_ble_eq_true rfl) dX3_make_2 ?_
  refine gx_bipush (z := 16) X dX3_make_5 (by decide) ?_
  refine gx_aload_n X dX3_make_7 rfl 0 rfl ?_
  refine gM_g2 (v := (S.1 2)) X (congrFun (M_keep_sc S c) 2) dX3_make_8 ?_
  refine gx_imul X dX3_make_11 ?_
  refine gx_iload_n X dX3_make_12 rfl 1 rfl ?_
  refine gx_iadd X dX3_make_13 ?_
  refine gx_istore_n X dX3_make_14 rfl (by decide) rfl ?_
  refine gx_aload_n X dX3_make_15 rfl 1 rfl ?_
  refine gM_r12 X dX3_make_16 ?_
  refine gx_iload_n X dX3_make_19 rfl 0 rfl ?_
  refine gx_iload_n X dX3_make_20 rfl 3 rfl ?_
  refine gM_s12 X (hD _) (by omega) dX3_make_21 ?_
  refine gx_iload_n X dX3_make_22 rfl 3 rfl ?_
  refine gx_iconst (z := 2) X dX3_make_23 rfl ?_
  have J233 : ∀ (S233 : Sta), S233 = (if t = 2 then (mA (mA (mA (mA (mA (M_keep S c) 12 ((16 * (S.1 2)) + c) t) 5 c ((S.2 5 c) + 1)) 13 ((16 * (S.1 2)) + c) ((if (S.1 2) = 0 then (S.2 1 (4 * c)) else (S.2 13 (((16 * (S.1 2)) + c) - 16))) : Int)) 14 ((16 * (S.1 2)) + c) ((if (S.1 2) = 0 then (S.2 1 ((4 * c) + 2)) else (S.2 14 (((16 * (S.1 2)) + c) - 16))) : Int)) 15 ((16 * (S.1 2)) + c) ((if (S.1 2) = 0 then 0 else (S.2 15 (((16 * (S.1 2)) + c) - 16))) : Int)) else (mA (mA (mA (mA (mA (M_move (mA (M_keep S c) 12 ((16 * (S.1 2)) + c) t) c ((if t = 0 then 1 else 3) : Int)) 5 c 0) 15 ((16 * (S.1 2)) + c) ((if t = (S.2 2 c) then 0 else 1) : Int)) 4 c ((S.2 4 c) + ((if ((if t = (S.2 2 c) then 0 else 1) : Int) = 0 then 1 else (-1)) : Int))) 13 ((16 * (S.1 2)) + c) ((M_move (mA (M_keep S c) 12 ((16 * (S.1 2)) + c) t) c ((if t = 0 then 1 else 3) : Int)).2 1 ((4 * c) + t))) 14 ((16 * (S.1 2)) + c) ((M_move (mA (M_keep S c) 12 ((16 * (S.1 2)) + c) t) c ((if t = 0 then 1 else 3) : Int)).2 1 (((4 * c) + t) + 2)))) → GG l (rmK (1, 25)) K x (wM K q S233) 233 [(0, .ref (q 0)), (1, .int (iI c)), (2, .int (iI t)), (3, .int (iI ((16 * (S.1 2)) + c)))] [] := by
    intro S233 e_S233
    exact gx_vret hR (congrArg (fun z : Sta => (wM K q z)) ((show M_make S c t = S233 from e_S233.symm))) dX3_make_233
  refine gx_icmp_ne (tgt := 134) X dX3_make_24 (by decide) (by omega) (fun hc24 => ?_) (fun hc24 => ?_)
  · refine gx_aload_n X dX3_make_134 rfl 1 rfl ?_
    refine gx_iload_n X dX3_make_135 rfl 2 rfl ?_
    refine gx_iload_n X dX3_make_136 rfl 3 rfl ?_
    have J145 : ∀ (m145 : Int), m145 = (if t = 0 then 1 else 3) → GG l (rmK (1, 25)) K x (wM K q (mA (M_keep S c) 12 ((16 * (S.1 2)) + c) t)) 145 [(0, .ref (q 0)), (1, .int (iI c)), (2, .int (iI t)), (3, .int (iI ((16 * (S.1 2)) + c)))] [.int (iI m145), .int (iI c), .ref (q 0)] := by
      intro m145 e_m145
      refine gx_callVV (As := [.int (iI c), .int (iI m145)]) (rest := []) X (hD _) lk_M_108 (ci := 3) rfl rfl 0 rfl (c_M_move q (mA (M_keep S c) 12 ((16 * (S.1 2)) + c) t) c m145 (by omega) (by omega)) jn_all rfl ⟨by decide, by decide⟩ (Nat.le_of_ble_eq_true rfl) dX3_make_145 ?_
      refine gx_aload_n X dX3_make_148 rfl 0 rfl ?_
      refine gM_r5 X dX3_make_149 ?_
      refine gx_iload_n X dX3_make_152 rfl 1 rfl ?_
      refine gx_iconst (z := 0) X dX3_make_153 rfl ?_
      refine gM_s5 X (hD _) (by omega) dX3_make_154 ?_
      refine gx_aload_n X dX3_make_155 rfl 0 rfl ?_
      refine gM_r15 X dX3_make_156 ?_
      refine gx_iload_n X dX3_make_159 rfl 3 rfl ?_
      refine gx_iload_n X dX3_make_160 rfl 2 rfl ?_
      refine gx_aload_n X dX3_make_161 rfl 0 rfl ?_
      refine gM_r2 X dX3_make_162 ?_
      refine gx_iload_n X dX3_make_165 rfl 1 rfl ?_
      refine gM_l2 (v := (S.2 2 c)) X (by omega) ((congrFun (M_move_ar (mA (M_keep S c) 12 ((16 * (S.1 2)) + c) t) c m145 2 (by decide)) c).trans (congrFun (M_keep_ar S c 2 (by decide)) c)) dX3_make_166 ?_
      have hr166 := InvM_a2 hI c
      have J175 : ∀ (m175 : Int), m175 = (if t = (S.2 2 c) then 0 else 1) → GG l (rmK (1, 25)) K x (wM K q (mA (M_move (mA (M_keep S c) 12 ((16 * (S.1 2)) + c) t) c m145) 5 c 0)) 175 [(0, .ref (q 0)), (1, .int (iI c)), (2, .int (iI t)), (3, .int (iI ((16 * (S.1 2)) + c)))] [.int (iI m175), .int (iI ((16 * (S.1 2)) + c)), .ref (q 16)] := by
        intro m175 e_m175
        refine gM_s15 X (hD _) (by omega) dX3_make_175 ?_
        refine gx_aload_n X dX3_make_176 rfl 0 rfl ?_
        refine gM_r4 X dX3_make_177 ?_
        refine gx_iload_n X dX3_make_180 rfl 1 rfl ?_
        refine gx_dup2 X dX3_make_181 rfl rfl ?_
        refine gM_l4 (v := (S.2 4 c)) X (by omega) ((congrFun (M_move_ar (mA (M_keep S c) 12 ((16 * (S.1 2)) + c) t) c m145 4 (by decide)) c).trans (congrFun (M_keep_ar S c 4 (by decide)) c)) dX3_make_182 ?_
        refine gx_aload_n X dX3_make_183 rfl 0 rfl ?_
        refine gM_r15 X dX3_make_184 ?_
        refine gx_iload_n X dX3_make_187 rfl 3 rfl ?_
        refine gM_l15 (v := m175) X (by omega) (iu_same _ _ _) dX3_make_188 ?_
        have J197 : ∀ (m197 : Int), m197 = (if m175 = 0 then 1 else (-1)) → GG l (rmK (1, 25)) K x (wM K q (mA (mA (M_move (mA (M_keep S c) 12 ((16 * (S.1 2)) + c) t) c m145) 5 c 0) 15 ((16 * (S.1 2)) + c) m175)) 197 [(0, .ref (q 0)), (1, .int (iI c)), (2, .int (iI t)), (3, .int (iI ((16 * (S.1 2)) + c)))] [.int (iI m197), .int (iI (S.2 4 c)), .int (iI c), .ref (q 5)] := by
          intro m197 e_m197
          refine gx_iadd X dX3_make_197 ?_
          refine gM_s4 X (hD _) (by omega) dX3_make_198 ?_
          refine gx_aload_n X dX3_make_199 rfl 0 rfl ?_
          refine gM_r13 X dX3_make_200 ?_
          refine gx_iload_n X dX3_make_203 rfl 3 rfl ?_
          refine gx_aload_n X dX3_make_204 rfl 0 rfl ?_
          refine gM_r1 X dX3_make_205 ?_
          refine gx_iconst (z := 4) X dX3_make_208 rfl ?_
          refine gx_iload_n X dX3_make_209 rfl 1 rfl ?_
          refine gx_imul X dX3_make_210 ?_
          refine gx_iload_n X dX3_make_211 rfl 2 rfl ?_
          refine gx_iadd X dX3_make_212 ?_
          refine gM_l1 (v := ((M_move (mA (M_keep S c) 12 ((16 * (S.1 2)) + c) t) c m145).2 1 ((4 * c) + t))) X (by omega) rfl dX3_make_213 ?_
          refine gM_s13 X (hD _) (by omega) dX3_make_214 ?_
          refine gx_aload_n X dX3_make_215 rfl 0 rfl ?_
          refine gM_r14 X dX3_make_216 ?_
          refine gx_iload_n X dX3_make_219 rfl 3 rfl ?_
          refine gx_aload_n X dX3_make_220 rfl 0 rfl ?_
          refine gM_r1 X dX3_make_221 ?_
          refine gx_iconst (z := 4) X dX3_make_224 rfl ?_
          refine gx_iload_n X dX3_make_225 rfl 1 rfl ?_
          refine gx_imul X dX3_make_226 ?_
          refine gx_iload_n X dX3_make_227 rfl 2 rfl ?_
          refine gx_iadd X dX3_make_228 ?_
          refine gx_iconst (z := 2) X dX3_make_229 rfl ?_
          refine gx_iadd X dX3_make_230 ?_
          refine gM_l1 (v := ((M_move (mA (M_keep S c) 12 ((16 * (S.1 2)) + c) t) c m145).2 1 (((4 * c) + t) + 2))) X (by omega) rfl dX3_make_231 ?_
          refine gM_s14 X (hD _) (by omega) dX3_make_232 ?_
          refine gx_sub [0, 1, 2, 3] rfl ?_
          subst e_m145
          subst e_m175
          subst e_m197
          exact J233 _ ((if_neg hc24).symm) 
        refine gx_if_ne (tgt := 196) X dX3_make_189 (by decide) (by omega) (fun hc189 => ?_) (fun hc189 => ?_)
        · refine gx_iconst (z := (-1)) X dX3_make_196 rfl ?_
          refine gx_sub [0, 1, 2, 3] rfl ?_
          exact J197 (-1) ((if_neg hc189).symm) 
        · refine gx_iconst (z := 1) X dX3_make_192 rfl ?_
          refine gx_goto (tgt := 197) X dX3_make_193 (by decide) ?_
          refine gx_sub [0, 1, 2, 3] rfl ?_
          exact J197 1 ((if_pos hc189).symm) 
      refine gx_icmp_ne (tgt := 174) X dX3_make_167 (by decide) (by omega) (fun hc167 => ?_) (fun hc167 => ?_)
      · refine gx_iconst (z := 1) X dX3_make_174 rfl ?_
        refine gx_sub [0, 1, 2, 3] rfl ?_
        exact J175 1 ((if_neg hc167).symm) 
      · refine gx_iconst (z := 0) X dX3_make_170 rfl ?_
        refine gx_goto (tgt := 175) X dX3_make_171 (by decide) ?_
        refine gx_sub [0, 1, 2, 3] rfl ?_
        exact J175 0 ((if_pos hc167).symm) 
    refine gx_if_ne (tgt := 144) X dX3_make_137 (by decide) (by omega) (fun hc137 => ?_) (fun hc137 => ?_)
    · refine gx_iconst (z := 3) X dX3_make_144 rfl ?_
      refine gx_sub [1, 2, 3, 0] rfl ?_
      exact J145 3 ((if_neg hc137).symm) 
    · refine gx_iconst (z := 1) X dX3_make_140 rfl ?_
      refine gx_goto (tgt := 145) X dX3_make_141 (by decide) ?_
      refine gx_sub [1, 2, 3, 0] rfl ?_
      exact J145 1 ((if_pos hc137).symm) 
  · refine gx_aload_n X dX3_make_27 rfl 1 rfl ?_
    refine gM_r5 X dX3_make_28 ?_
    refine gx_iload_n X dX3_make_31 rfl 2 rfl ?_
    refine gx_dup2 X dX3_make_32 rfl rfl ?_
    refine gM_l5 (v := (S.2 5 c)) X (by omega) (congrFun (M_keep_ar S c 5 (by decide)) c) dX3_make_33 ?_
    refine gx_iconst (z := 1) X dX3_make_34 rfl ?_
    refine gx_iadd X dX3_make_35 ?_
    refine gM_s5 X (hD _) (by omega) dX3_make_36 ?_
    refine gx_aload_n X dX3_make_37 rfl 1 rfl ?_
    refine gM_r13 X dX3_make_38 ?_
    refine gx_iload_n X dX3_make_41 rfl 0 rfl ?_
    refine gx_aload_n X dX3_make_42 rfl 1 rfl ?_
    refine gM_g2 (v := (S.1 2)) X (congrFun (M_keep_sc S c) 2) dX3_make_43 ?_
    have J69 : ∀ (m69 : Int), m69 = (if (S.1 2) = 0 then (S.2 1 (4 * c)) else (S.2 13 (((16 * (S.1 2)) + c) - 16))) → GG l (rmK (1, 25)) K x (wM K q (mA (mA (M_keep S c) 12 ((16 * (S.1 2)) + c) t) 5 c ((S.2 5 c) + 1))) 69 [(0, .ref (q 0)), (1, .int (iI c)), (2, .int (iI t)), (3, .int (iI ((16 * (S.1 2)) + c)))] [.int (iI m69), .int (iI ((16 * (S.1 2)) + c)), .ref (q 14)] := by
      intro m69 e_m69
      refine gM_s13 X (hD _) (by omega) dX3_make_69 ?_
      refine gx_aload_n X dX3_make_70 rfl 0 rfl ?_
      refine gM_r14 X dX3_make_71 ?_
      refine gx_iload_n X dX3_make_74 rfl 3 rfl ?_
      refine gx_aload_n X dX3_make_75 rfl 0 rfl ?_
      refine gM_g2 (v := (S.1 2)) X (congrFun (M_keep_sc S c) 2) dX3_make_76 ?_
      have J104 : ∀ (m104 : Int), m104 = (if (S.1 2) = 0 then (S.2 1 ((4 * c) + 2)) else (S.2 14 (((16 * (S.1 2)) + c) - 16))) → GG l (rmK (1, 25)) K x (wM K q (mA (mA (mA (M_keep S c) 12 ((16 * (S.1 2)) + c) t) 5 c ((S.2 5 c) + 1)) 13 ((16 * (S.1 2)) + c) m69)) 104 [(0, .ref (q 0)), (1, .int (iI c)), (2, .int (iI t)), (3, .int (iI ((16 * (S.1 2)) + c)))] [.int (iI m104), .int (iI ((16 * (S.1 2)) + c)), .ref (q 15)] := by
        intro m104 e_m104
        refine gM_s14 X (hD _) (by omega) dX3_make_104 ?_
        refine gx_aload_n X dX3_make_105 rfl 0 rfl ?_
        refine gM_r15 X dX3_make_106 ?_
        refine gx_iload_n X dX3_make_109 rfl 3 rfl ?_
        refine gx_aload_n X dX3_make_110 rfl 0 rfl ?_
        refine gM_g2 (v := (S.1 2)) X (congrFun (M_keep_sc S c) 2) dX3_make_111 ?_
        have J130 : ∀ (m130 : Int), m130 = (if (S.1 2) = 0 then 0 else (S.2 15 (((16 * (S.1 2)) + c) - 16))) → GG l (rmK (1, 25)) K x (wM K q (mA (mA (mA (mA (M_keep S c) 12 ((16 * (S.1 2)) + c) t) 5 c ((S.2 5 c) + 1)) 13 ((16 * (S.1 2)) + c) m69) 14 ((16 * (S.1 2)) + c) m104)) 130 [(0, .ref (q 0)), (1, .int (iI c)), (2, .int (iI t)), (3, .int (iI ((16 * (S.1 2)) + c)))] [.int (iI m130), .int (iI ((16 * (S.1 2)) + c)), .ref (q 16)] := by
          intro m130 e_m130
          refine gM_s15 X (hD _) (by omega) dX3_make_130 ?_
          refine gx_goto (tgt := 233) X dX3_make_131 (by decide) ?_
          refine gx_sub [0, 1, 2, 3] rfl ?_
          subst e_m69
          subst e_m104
          subst e_m130
          exact J233 _ ((if_pos hc24).symm) 
        refine gx_if_ne (tgt := 121) X dX3_make_114 (by decide) (by omega) (fun hc114 => ?_) (fun hc114 => ?_)
        · refine gx_aload_n X dX3_make_121 rfl 0 rfl ?_
          refine gM_r15 X dX3_make_122 ?_
          refine gx_iload_n X dX3_make_125 rfl 3 rfl ?_
          refine gx_bipush (z := 16) X dX3_make_126 (by decide) ?_
          refine gx_isub X dX3_make_128 ?_
          refine gM_l15 (v := (S.2 15 (((16 * (S.1 2)) + c) - 16))) X (by omega) (congrFun (M_keep_ar S c 15 (by decide)) (((16 * (S.1 2)) + c) - 16)) dX3_make_129 ?_
          have hr129 := InvM_a15 hI (((16 * (S.1 2)) + c) - 16)
          refine gx_sub [0, 1, 2, 3] rfl ?_
          exact J130 (S.2 15 (((16 * (S.1 2)) + c) - 16)) ((if_neg hc114).symm) 
        · refine gx_iconst (z := 0) X dX3_make_117 rfl ?_
          refine gx_goto (tgt := 130) X dX3_make_118 (by decide) ?_
          refine gx_sub [0, 1, 2, 3] rfl ?_
          exact J130 0 ((if_pos hc114).symm) 
      refine gx_if_ne (tgt := 95) X dX3_make_79 (by decide) (by omega) (fun hc79 => ?_) (fun hc79 => ?_)
      · refine gx_aload_n X dX3_make_95 rfl 0 rfl ?_
        refine gM_r14 X dX3_make_96 ?_
        refine gx_iload_n X dX3_make_99 rfl 3 rfl ?_
        refine gx_bipush (z := 16) X dX3_make_100 (by decide) ?_
        refine gx_isub X dX3_make_102 ?_
        refine gM_l14 (v := (S.2 14 (((16 * (S.1 2)) + c) - 16))) X (by omega) (congrFun (M_keep_ar S c 14 (by decide)) (((16 * (S.1 2)) + c) - 16)) dX3_make_103 ?_
        have hr103 := InvM_a14 hI (((16 * (S.1 2)) + c) - 16)
        refine gx_sub [0, 1, 2, 3] rfl ?_
        exact J104 (S.2 14 (((16 * (S.1 2)) + c) - 16)) ((if_neg hc79).symm) 
      · refine gx_aload_n X dX3_make_82 rfl 0 rfl ?_
        refine gM_r1 X dX3_make_83 ?_
        refine gx_iconst (z := 4) X dX3_make_86 rfl ?_
        refine gx_iload_n X dX3_make_87 rfl 1 rfl ?_
        refine gx_imul X dX3_make_88 ?_
        refine gx_iconst (z := 2) X dX3_make_89 rfl ?_
        refine gx_iadd X dX3_make_90 ?_
        refine gM_l1 (v := (S.2 1 ((4 * c) + 2))) X (by omega) (congrFun (M_keep_ar S c 1 (by decide)) ((4 * c) + 2)) dX3_make_91 ?_
        have hr91 := InvM_a1 hI ((4 * c) + 2)
        refine gx_goto (tgt := 104) X dX3_make_92 (by decide) ?_
        refine gx_sub [0, 1, 2, 3] rfl ?_
        exact J104 (S.2 1 ((4 * c) + 2)) ((if_pos hc79).symm) 
    refine gx_if_ne (tgt := 60) X dX3_make_46 (by decide) (by omega) (fun hc46 => ?_) (fun hc46 => ?_)
    · refine gx_aload_n X dX3_make_60 rfl 1 rfl ?_
      refine gM_r13 X dX3_make_61 ?_
      refine gx_iload_n X dX3_make_64 rfl 0 rfl ?_
      refine gx_bipush (z := 16) X dX3_make_65 (by decide) ?_
      refine gx_isub X dX3_make_67 ?_
      refine gM_l13 (v := (S.2 13 (((16 * (S.1 2)) + c) - 16))) X (by omega) (congrFun (M_keep_ar S c 13 (by decide)) (((16 * (S.1 2)) + c) - 16)) dX3_make_68 ?_
      have hr68 := InvM_a13 hI (((16 * (S.1 2)) + c) - 16)
      refine gx_sub [1, 2, 3, 0] rfl ?_
      exact J69 (S.2 13 (((16 * (S.1 2)) + c) - 16)) ((if_neg hc46).symm) 
    · refine gx_aload_n X dX3_make_49 rfl 1 rfl ?_
      refine gM_r1 X dX3_make_50 ?_
      refine gx_iconst (z := 4) X dX3_make_53 rfl ?_
      refine gx_iload_n X dX3_make_54 rfl 2 rfl ?_
      refine gx_imul X dX3_make_55 ?_
      refine gM_l1 (v := (S.2 1 (4 * c))) X (by omega) (congrFun (M_keep_ar S c 1 (by decide)) (4 * c)) dX3_make_56 ?_
      have hr56 := InvM_a1 hI (4 * c)
      refine gx_goto (tgt := 69) X dX3_make_57 (by decide) ?_
      refine gx_sub [1, 2, 3, 0] rfl ?_
      exact J69 (S.2 1 (4 * c)) ((if_pos hc46).symm) 
def M_pick_l64 (S : Sta) (f : Int) (b : Int) : Nat → Int → Sta → Sta
  | 0, v3, S64 => S64
  | fu + 1, v3, S64 => if (S.1 1) ≤ v3 then S64 else (fun (m101 : Int) => M_pick_l64 S f b fu (v3 + 1) (M_make S64 v3 m101)) (if (zi_and (zi_shr f v3) 1) = 1 then 0 else if (zi_and (zi_shr b v3) 1) = 1 then 1 else 2)
theorem M_pick_l64_s (S : Sta) (f : Int) (b : Int) (fu : Nat) (v3 : Int) (S64 : Sta) : M_pick_l64 S f b (fu + 1) v3 S64 = (if (S.1 1) ≤ v3 then S64 else (fun (m101 : Int) => M_pick_l64 S f b fu (v3 + 1) (M_make S64 v3 m101)) (if (zi_and (zi_shr f v3) 1) = 1 then 0 else if (zi_and (zi_shr b v3) 1) = 1 then 1 else 2)) := rfl
def M_pick_r64 (S : Sta) (z64 : Sta) : Int × Sta := (((S.1 2) + 1), (mI z64 2 ((S.1 2) + 1)))
def M_pick (S : Sta) (f : Int) (b : Int) : Int × Sta := if (M_in f 0 ((zi_shl 1 (S.1 1)) - 1)) = 0 then ((-2), S) else if (M_in b 0 ((zi_shl 1 (S.1 1)) - 1)) = 0 then ((-2), S) else if (zi_and f b) = 0 then if (S.1 2) = 60 then ((-4), S) else (fun z64 => M_pick_r64 S z64) (M_pick_l64 S f b (17) 0 S) else ((-2), S)
set_option maxRecDepth 100000 in
theorem c_M_pick {l : Launch} {K : KK} {N : Int} (q : Nat → Nat) (S : Sta) (f : Int) (b : Int) (hI : InvW N S) (hp1 : ok32 f) (hp2 : ok32 b) : CtI l yX3_pick cX3_pick 4 .int (2, 48) K [.ref (q 0), .int (iI f), .int (iI b)] (wM K q S) (M_pick S f b).1 (wM K q ((M_pick S f b).2)) := by
  refine ctI_of (by decide) (Nat.le_of_ble_eq_true rfl) rfl ?_
  intro x X hD hR
  have hD : ∀ S9 : Sta, va_D (cx_A x) (wM K q S9) := fun S9 => va_D_same hD rfl
  have hs1 := InvM_s1 hI
  have hs2 := InvM_s2 hI
  have hs3 := InvM_s3 hI
  have hs4 := InvM_s4 hI
  have hsh := shl1_rg (S.1 1) (by omega)
  refine gx_aload_n X dX3_pick_0 rfl 0 rfl ?_
  refine gx_iconst (z := 0) X dX3_pick_1 rfl ?_
  refine gM_t0 X (hD _) (InvM_t hI) dX3_pick_2 ?_
  refine gx_iload_n X dX3_pick_5 rfl 1 rfl ?_
  refine gx_i2l X dX3_pick_6 (by omega) ?_
  refine gx_lconst (v := lI 0) X dX3_pick_7 rfl ?_
  refine gx_iconst (z := 1) X dX3_pick_8 rfl ?_
  refine gx_aload_n X dX3_pick_9 rfl 0 rfl ?_
  refine gM_g1 (v := (S.1 1)) X rfl dX3_pick_10 ?_
  refine gx_ishl X dX3_pick_13 ?_
  have ho13 := ok_shl 1 (S.1 1)
  refine gx_iconst (z := 1) X dX3_pick_14 rfl ?_
  refine gx_isub X dX3_pick_15 ?_
  refine gx_i2l X dX3_pick_16 (by omega) ?_
  refine gx_callSI (As := [.long (lI f), .long (lI 0), .long (lI ((zi_shl 1 (S.1 1)) - 1))]) (rest := []) X (hD _) lk_M_88 (c_M_in f 0 ((zi_shl 1 (S.1 1)) - 1) (by omega) (by omega) (by omega)) jn_nil rfl ⟨by decide, by decide⟩ (Nat.le_of_ble_eq_true rfl) dX3_pick_17 ?_
  have hq17_0 := M_in_sp f 0 ((zi_shl 1 (S.1 1)) - 1)
  refine gx_if_eq (tgt := 47) X dX3_pick_20 (by decide) (by omega) (fun hc20 => ?_) (fun hc20 => ?_)
  · refine gx_bipush (z := (-2)) X dX3_pick_47 (by decide) ?_
    exact gx_iret hR (congrArg Prod.fst ((show M_pick S f b = ((-2), S) from if_pos hc20))) (ret2 (fun z => (wM K q z)) ((show M_pick S f b = ((-2), S) from if_pos hc20))) dX3_pick_49
  · refine gx_iload_n X dX3_pick_23 rfl 2 rfl ?_
    refine gx_i2l X dX3_pick_24 (by omega) ?_
    refine gx_lconst (v := lI 0) X dX3_pick_25 rfl ?_
    refine gx_iconst (z := 1) X dX3_pick_26 rfl ?_
    refine gx_aload_n X dX3_pick_27 rfl 0 rfl ?_
    refine gM_g1 (v := (S.1 1)) X rfl dX3_pick_28 ?_
    refine gx_ishl X dX3_pick_31 ?_
    have ho31 := ok_shl 1 (S.1 1)
    refine gx_iconst (z := 1) X dX3_pick_32 rfl ?_
    refine gx_isub X dX3_pick_33 ?_
    refine gx_i2l X dX3_pick_34 (by omega) ?_
    refine gx_callSI (As := [.long (lI b), .long (lI 0), .long (lI ((zi_shl 1 (S.1 1)) - 1))]) (rest := []) X (hD _) lk_M_88 (c_M_in b 0 ((zi_shl 1 (S.1 1)) - 1) (by omega) (by omega) (by omega)) jn_nil rfl ⟨by decide, by decide⟩ (Nat.le_of_ble_eq_true rfl) dX3_pick_35 ?_
    have hq35_0 := M_in_sp b 0 ((zi_shl 1 (S.1 1)) - 1)
    refine gx_if_eq (tgt := 47) X dX3_pick_38 (by decide) (by omega) (fun hc38 => ?_) (fun hc38 => ?_)
    · refine gx_bipush (z := (-2)) X dX3_pick_47 (by decide) ?_
      exact gx_iret hR (congrArg Prod.fst ((show M_pick S f b = ((-2), S) from (if_neg hc20).trans (if_pos hc38)))) (ret2 (fun z => (wM K q z)) ((show M_pick S f b = ((-2), S) from (if_neg hc20).trans (if_pos hc38)))) dX3_pick_49
    · refine gx_iload_n X dX3_pick_41 rfl 1 rfl ?_
      refine gx_iload_n X dX3_pick_42 rfl 2 rfl ?_
      refine gx_iand X dX3_pick_43 ?_
      have ho43 := ok_and f b
      refine gx_if_eq (tgt := 50) X dX3_pick_44 (by decide) (by omega) (fun hc44 => ?_) (fun hc44 => ?_)
      · refine gx_aload_n X dX3_pick_50 rfl 0 rfl ?_
        refine gM_g2 (v := (S.1 2)) X rfl dX3_pick_51 ?_
        refine gx_bipush (z := 60) X dX3_pick_54 (by decide) ?_
        refine gx_icmp_ne (tgt := 62) X dX3_pick_56 (by decide) (by omega) (fun hc56 => ?_) (fun hc56 => ?_)
        · refine gx_iconst (z := 0) X dX3_pick_62 rfl ?_
          refine gx_istore_n X dX3_pick_63 rfl (by decide) rfl ?_
          have L64 : ∀ (fu : Nat) (v3 : Int) (S64 : Sta), (0 ≤ v3) → (v3 ≤ (S.1 1)) → (InvW N S64) → (S64.1 = S.1) → ((S.1 1) - v3) < (fu : Int) → (∀ z64 : Sta, M_pick_l64 S f b fu v3 S64 = z64 → (z64.1 = S.1) → GG l (rmK (2, 48)) K x (wM K q z64) 110 [(0, .ref (q 0)), (1, .int (iI f)), (2, .int (iI b))] []) → GG l (rmK (2, 48)) K x (wM K q S64) 64 [(0, .ref (q 0)), (1, .int (iI f)), (2, .int (iI b)), (3, .int (iI v3))] [] := by
            intro fu
            induction fu with
            | zero => intro v3 S64 hi64_0 hi64_1 hi64_2 hi64_3 hm64 K64; exact absurd hm64 (by omega)
            | succ fu ih =>
              intro v3 S64 hi64_0 hi64_1 hi64_2 hi64_3 hm64 K64
              refine gx_iload_n X dX3_pick_64 rfl 3 rfl ?_
              refine gx_aload_n X dX3_pick_65 rfl 0 rfl ?_
              refine gM_g1 (v := (S.1 1)) X (congrFun (hi64_3 ) 1) dX3_pick_66 ?_
              refine gx_icmp_ge (tgt := 110) X dX3_pick_69 (by decide) (by omega) (fun hc69 => ?_) (fun hc69 => ?_)
              · refine gx_sub [0, 1, 2] rfl ?_
                exact K64 S64 ((M_pick_l64_s S f b fu v3 S64).trans (if_pos hc69)) ((hi64_3 ))
              · have hkp := congrFun hi64_3 2
                refine gx_aload_n X dX3_pick_72 rfl 0 rfl ?_
                refine gx_iload_n X dX3_pick_73 rfl 3 rfl ?_
                refine gx_iload_n X dX3_pick_74 rfl 1 rfl ?_
                refine gx_iload_n X dX3_pick_75 rfl 3 rfl ?_
                refine gx_ishr X dX3_pick_76 ?_
                have ho76 := ok_shr f v3
                refine gx_iconst (z := 1) X dX3_pick_77 rfl ?_
                refine gx_iand X dX3_pick_78 ?_
                have ho78 := ok_and (zi_shr f v3) 1
                refine gx_iconst (z := 1) X dX3_pick_79 rfl ?_
                have J101 : ∀ (m101 : Int), m101 = (if (zi_and (zi_shr f v3) 1) = 1 then 0 else if (zi_and (zi_shr b v3) 1) = 1 then 1 else 2) → GG l (rmK (2, 48)) K x (wM K q S64) 101 [(0, .ref (q 0)), (1, .int (iI f)), (2, .int (iI b)), (3, .int (iI v3))] [.int (iI m101), .int (iI v3), .ref (q 0)] := by
                  intro m101 e_m101
                  refine gx_callVV (As := [.int (iI v3), .int (iI m101)]) (rest := []) X (hD _) lk_M_112 (ci := 3) rfl rfl 0 rfl (c_M_make q S64 v3 m101 hi64_2 (by omega) (by omega) (by omega)) jn_all rfl ⟨by decide, by decide⟩ (Nat.le_of_ble_eq_true rfl) dX3_pick_101 ?_
                  refine gx_iinc X dX3_pick_104 3 rfl (by decide) rfl ?_
                  refine gx_goto (tgt := 64) X dX3_pick_107 (by decide) ?_
                  refine gx_sub [1, 2, 3, 0] rfl ?_
                  subst e_m101
                  exact ih _ _ (by omega) (by omega) (M_make_inv _ _ _ hi64_2 (by omega) (by omega) (by omega)) (((M_make_sc _ _ _)).trans (hi64_3 )) (by omega) (fun z e hx => K64 z ((M_pick_l64_s S f b fu v3 S64).trans ((if_neg hc69).trans e)) hx)
                refine gx_icmp_ne (tgt := 87) X dX3_pick_80 (by decide) (by omega) (fun hc80 => ?_) (fun hc80 => ?_)
                · refine gx_iload_n X dX3_pick_87 rfl 2 rfl ?_
                  refine gx_iload_n X dX3_pick_88 rfl 3 rfl ?_
                  refine gx_ishr X dX3_pick_89 ?_
                  have ho89 := ok_shr b v3
                  refine gx_iconst (z := 1) X dX3_pick_90 rfl ?_
                  refine gx_iand X dX3_pick_91 ?_
                  have ho91 := ok_and (zi_shr b v3) 1
                  refine gx_iconst (z := 1) X dX3_pick_92 rfl ?_
                  refine gx_icmp_ne (tgt := 100) X dX3_pick_93 (by decide) (by omega) (fun hc93 => ?_) (fun hc93 => ?_)
                  · refine gx_iconst (z := 2) X dX3_pick_100 rfl ?_
                    refine gx_sub [0, 1, 2, 3] rfl ?_
                    exact J101 2 (((if_neg hc80).trans (if_neg hc93)).symm) 
                  · refine gx_iconst (z := 1) X dX3_pick_96 rfl ?_
                    refine gx_goto (tgt := 101) X dX3_pick_97 (by decide) ?_
                    refine gx_sub [0, 1, 2, 3] rfl ?_
                    exact J101 1 (((if_neg hc80).trans (if_pos hc93)).symm) 
                · refine gx_iconst (z := 0) X dX3_pick_83 rfl ?_
                  refine gx_goto (tgt := 101) X dX3_pick_84 (by decide) ?_
                  refine gx_sub [0, 1, 2, 3] rfl ?_
                  exact J101 0 ((if_pos hc80).symm) 
          refine gx_sub [1, 2, 3, 0] rfl ?_
          refine L64 (17) 0 S (by omega) (by omega) hI rfl (by omega) (fun z64 e64 hx64 => ?_)
          refine gx_aload_n X dX3_pick_110 rfl 0 rfl ?_
          refine gx_dup X dX3_pick_111 rfl ?_
          refine gM_g2 (v := (S.1 2)) X (congrFun (hx64 ) 2) dX3_pick_112 ?_
          refine gx_iconst (z := 1) X dX3_pick_115 rfl ?_
          refine gx_iadd X dX3_pick_116 ?_
          refine gM_p2 X (hD _) dX3_pick_117 ?_
          refine gx_aload_n X dX3_pick_120 rfl 0 rfl ?_
          refine gM_g2 (v := ((S.1 2) + 1)) X rfl dX3_pick_121 ?_
          exact gx_iret hR (congrArg Prod.fst ((show M_pick S f b = (((S.1 2) + 1), (mI z64 2 ((S.1 2) + 1))) from (if_neg hc20).trans ((if_neg hc38).trans ((if_pos hc44).trans ((if_neg hc56).trans (congrArg (fun z64 => M_pick_r64 S z64) e64))))))) (ret2 (fun z => (wM K q z)) ((show M_pick S f b = (((S.1 2) + 1), (mI z64 2 ((S.1 2) + 1))) from (if_neg hc20).trans ((if_neg hc38).trans ((if_pos hc44).trans ((if_neg hc56).trans (congrArg (fun z64 => M_pick_r64 S z64) e64))))))) dX3_pick_124
        · refine gx_bipush (z := (-4)) X dX3_pick_59 (by decide) ?_
          exact gx_iret hR (congrArg Prod.fst ((show M_pick S f b = ((-4), S) from (if_neg hc20).trans ((if_neg hc38).trans ((if_pos hc44).trans (if_pos hc56)))))) (ret2 (fun z => (wM K q z)) ((show M_pick S f b = ((-4), S) from (if_neg hc20).trans ((if_neg hc38).trans ((if_pos hc44).trans (if_pos hc56)))))) dX3_pick_61
      · refine gx_bipush (z := (-2)) X dX3_pick_47 (by decide) ?_
        exact gx_iret hR (congrArg Prod.fst ((show M_pick S f b = ((-2), S) from (if_neg hc20).trans ((if_neg hc38).trans (if_neg hc44))))) (ret2 (fun z => (wM K q z)) ((show M_pick S f b = ((-2), S) from (if_neg hc20).trans ((if_neg hc38).trans (if_neg hc44))))) dX3_pick_49
def M_packs_l72 (S : Sta) (a : Int) (b : Int) (c : Int) (d : Int) : Nat → Int → Sta → Sta
  | 0, v5, S72 => S72
  | fu + 1, v5, S72 => if (S.1 1) ≤ v5 then S72 else (fun (m130 : Int) => M_packs_l72 S a b c d fu (v5 + 1) (M_make S72 v5 m130)) (if (S72.2 3 v5) = 0 then a else if (S72.2 3 v5) = 1 then b else if (S72.2 3 v5) = 2 then c else d)
theorem M_packs_l72_s (S : Sta) (a : Int) (b : Int) (c : Int) (d : Int) (fu : Nat) (v5 : Int) (S72 : Sta) : M_packs_l72 S a b c d (fu + 1) v5 S72 = (if (S.1 1) ≤ v5 then S72 else (fun (m130 : Int) => M_packs_l72 S a b c d fu (v5 + 1) (M_make S72 v5 m130)) (if (S72.2 3 v5) = 0 then a else if (S72.2 3 v5) = 1 then b else if (S72.2 3 v5) = 2 then c else d)) := rfl
def M_packs_r72 (S : Sta) (z72 : Sta) : Int × Sta := (((S.1 2) + 1), (mI z72 2 ((S.1 2) + 1)))
def M_packs (S : Sta) (a : Int) (b : Int) (c : Int) (d : Int) : Int × Sta := if (M_in a 0 2) = 0 then ((-2), S) else if (M_in b 0 2) = 0 then ((-2), S) else if (M_in c 0 2) = 0 then ((-2), S) else if (M_in d 0 2) = 0 then ((-2), S) else if (S.1 2) = 60 then ((-4), S) else (fun z72 => M_packs_r72 S z72) (M_packs_l72 S a b c d (17) 0 S)
set_option maxRecDepth 100000 in
theorem c_M_packs {l : Launch} {K : KK} {N : Int} (q : Nat → Nat) (S : Sta) (a : Int) (b : Int) (c : Int) (d : Int) (hI : InvW N S) (hp1 : ok32 a) (hp2 : ok32 b) (hp3 : ok32 c) (hp4 : ok32 d) : CtI l yX3_packs cX3_packs 6 .int (2, 48) K [.ref (q 0), .int (iI a), .int (iI b), .int (iI c), .int (iI d)] (wM K q S) (M_packs S a b c d).1 (wM K q ((M_packs S a b c d).2)) := by
  refine ctI_of (by decide) (Nat.le_of_ble_eq_true rfl) rfl ?_
  intro x X hD hR
  have hD : ∀ S9 : Sta, va_D (cx_A x) (wM K q S9) := fun S9 => va_D_same hD rfl
  have hs1 := InvM_s1 hI
  have hs2 := InvM_s2 hI
  have hs3 := InvM_s3 hI
  have hs4 := InvM_s4 hI
  refine gx_aload_n X dX3_packs_0 rfl 0 rfl ?_
  refine gx_iconst (z := 0) X dX3_packs_1 rfl ?_
  refine gM_t0 X (hD _) (InvM_t hI) dX3_packs_2 ?_
  refine gx_iload_n X dX3_packs_5 rfl 1 rfl ?_
  refine gx_i2l X dX3_packs_6 (by omega) ?_
  refine gx_lconst (v := lI 0) X dX3_packs_7 rfl ?_
  refine gx_ldc2 (v := lI 2) X t_M_115 dX3_packs_8 ?_
  refine gx_callSI (As := [.long (lI a), .long (lI 0), .long (lI 2)]) (rest := []) X (hD _) lk_M_88 (c_M_in a 0 2 (by omega) (by omega) (by omega)) jn_nil rfl ⟨by decide, by decide⟩ (Nat.le_of_ble_eq_true rfl) dX3_packs_11 ?_
  have hq11_0 := M_in_sp a 0 2
  refine gx_if_eq (tgt := 54) X dX3_packs_14 (by decide) (by omega) (fun hc14 => ?_) (fun hc14 => ?_)
  · refine gx_bipush (z := (-2)) X dX3_packs_54 (by decide) ?_
    exact gx_iret hR (congrArg Prod.fst ((show M_packs S a b c d = ((-2), S) from if_pos hc14))) (ret2 (fun z => (wM K q z)) ((show M_packs S a b c d = ((-2), S) from if_pos hc14))) dX3_packs_56
  · refine gx_iload_n X dX3_packs_17 rfl 2 rfl ?_
    refine gx_i2l X dX3_packs_18 (by omega) ?_
    refine gx_lconst (v := lI 0) X dX3_packs_19 rfl ?_
    refine gx_ldc2 (v := lI 2) X t_M_115 dX3_packs_20 ?_
    refine gx_callSI (As := [.long (lI b), .long (lI 0), .long (lI 2)]) (rest := []) X (hD _) lk_M_88 (c_M_in b 0 2 (by omega) (by omega) (by omega)) jn_nil rfl ⟨by decide, by decide⟩ (Nat.le_of_ble_eq_true rfl) dX3_packs_23 ?_
    have hq23_0 := M_in_sp b 0 2
    refine gx_if_eq (tgt := 54) X dX3_packs_26 (by decide) (by omega) (fun hc26 => ?_) (fun hc26 => ?_)
    · refine gx_bipush (z := (-2)) X dX3_packs_54 (by decide) ?_
      exact gx_iret hR (congrArg Prod.fst ((show M_packs S a b c d = ((-2), S) from (if_neg hc14).trans (if_pos hc26)))) (ret2 (fun z => (wM K q z)) ((show M_packs S a b c d = ((-2), S) from (if_neg hc14).trans (if_pos hc26)))) dX3_packs_56
    · refine gx_iload_n X dX3_packs_29 rfl 3 rfl ?_
      refine gx_i2l X dX3_packs_30 (by omega) ?_
      refine gx_lconst (v := lI 0) X dX3_packs_31 rfl ?_
      refine gx_ldc2 (v := lI 2) X t_M_115 dX3_packs_32 ?_
      refine gx_callSI (As := [.long (lI c), .long (lI 0), .long (lI 2)]) (rest := []) X (hD _) lk_M_88 (c_M_in c 0 2 (by omega) (by omega) (by omega)) jn_nil rfl ⟨by decide, by decide⟩ (Nat.le_of_ble_eq_true rfl) dX3_packs_35 ?_
      have hq35_0 := M_in_sp c 0 2
      refine gx_if_eq (tgt := 54) X dX3_packs_38 (by decide) (by omega) (fun hc38 => ?_) (fun hc38 => ?_)
      · refine gx_bipush (z := (-2)) X dX3_packs_54 (by decide) ?_
        exact gx_iret hR (congrArg Prod.fst ((show M_packs S a b c d = ((-2), S) from (if_neg hc14).trans ((if_neg hc26).trans (if_pos hc38))))) (ret2 (fun z => (wM K q z)) ((show M_packs S a b c d = ((-2), S) from (if_neg hc14).trans ((if_neg hc26).trans (if_pos hc38))))) dX3_packs_56
      · refine gx_iload X dX3_packs_41 4 rfl ?_
        refine gx_i2l X dX3_packs_43 (by omega) ?_
        refine gx_lconst (v := lI 0) X dX3_packs_44 rfl ?_
        refine gx_ldc2 (v := lI 2) X t_M_115 dX3_packs_45 ?_
        refine gx_callSI (As := [.long (lI d), .long (lI 0), .long (lI 2)]) (rest := []) X (hD _) lk_M_88 (c_M_in d 0 2 (by omega) (by omega) (by omega)) jn_nil rfl ⟨by decide, by decide⟩ (Nat.le_of_ble_eq_true rfl) dX3_packs_48 ?_
        have hq48_0 := M_in_sp d 0 2
        refine gx_if_ne (tgt := 57) X dX3_packs_51 (by decide) (by omega) (fun hc51 => ?_) (fun hc51 => ?_)
        · refine gx_aload_n X dX3_packs_57 rfl 0 rfl ?_
          refine gM_g2 (v := (S.1 2)) X rfl dX3_packs_58 ?_
          refine gx_bipush (z := 60) X dX3_packs_61 (by decide) ?_
          refine gx_icmp_ne (tgt := 69) X dX3_packs_63 (by decide) (by omega) (fun hc63 => ?_) (fun hc63 => ?_)
          · refine gx_iconst (z := 0) X dX3_packs_69 rfl ?_
            refine gx_istore X dX3_packs_70 (by decide) rfl ?_
            have L72 : ∀ (fu : Nat) (v5 : Int) (S72 : Sta), (0 ≤ v5) → (v5 ≤ (S.1 1)) → (InvW N S72) → (S72.1 = S.1) → ((S.1 1) - v5) < (fu : Int) → (∀ z72 : Sta, M_packs_l72 S a b c d fu v5 S72 = z72 → (z72.1 = S.1) → GG l (rmK (2, 48)) K x (wM K q z72) 139 [(0, .ref (q 0)), (1, .int (iI a)), (2, .int (iI b)), (3, .int (iI c)), (4, .int (iI d))] []) → GG l (rmK (2, 48)) K x (wM K q S72) 72 [(0, .ref (q 0)), (1, .int (iI a)), (2, .int (iI b)), (3, .int (iI c)), (4, .int (iI d)), (5, .int (iI v5))] [] := by
              intro fu
              induction fu with
              | zero => intro v5 S72 hi72_0 hi72_1 hi72_2 hi72_3 hm72 K72; exact absurd hm72 (by omega)
              | succ fu ih =>
                intro v5 S72 hi72_0 hi72_1 hi72_2 hi72_3 hm72 K72
                refine gx_iload X dX3_packs_72 5 rfl ?_
                refine gx_aload_n X dX3_packs_74 rfl 0 rfl ?_
                refine gM_g1 (v := (S.1 1)) X (congrFun (hi72_3 ) 1) dX3_packs_75 ?_
                refine gx_icmp_ge (tgt := 139) X dX3_packs_78 (by decide) (by omega) (fun hc78 => ?_) (fun hc78 => ?_)
                · refine gx_sub [0, 1, 2, 3, 4] rfl ?_
                  exact K72 S72 ((M_packs_l72_s S a b c d fu v5 S72).trans (if_pos hc78)) ((hi72_3 ))
                · have hkp := congrFun hi72_3 2
                  refine gx_aload_n X dX3_packs_81 rfl 0 rfl ?_
                  refine gx_iload X dX3_packs_82 5 rfl ?_
                  refine gx_aload_n X dX3_packs_84 rfl 0 rfl ?_
                  refine gM_r3 X dX3_packs_85 ?_
                  refine gx_iload X dX3_packs_88 5 rfl ?_
                  refine gM_l3 (v := (S72.2 3 v5)) X (by omega) rfl dX3_packs_90 ?_
                  have hr90 := InvM_a3 hi72_2 v5
                  have J130 : ∀ (m130 : Int), m130 = (if (S72.2 3 v5) = 0 then a else if (S72.2 3 v5) = 1 then b else if (S72.2 3 v5) = 2 then c else d) → GG l (rmK (2, 48)) K x (wM K q S72) 130 [(0, .ref (q 0)), (1, .int (iI a)), (2, .int (iI b)), (3, .int (iI c)), (4, .int (iI d)), (5, .int (iI v5))] [.int (iI m130), .int (iI v5), .ref (q 0)] := by
                    intro m130 e_m130
                    refine gx_callVV (As := [.int (iI v5), .int (iI m130)]) (rest := []) X (hD _) lk_M_112 (ci := 3) rfl rfl 0 rfl (c_M_make q S72 v5 m130 hi72_2 (by omega) (by omega) (by omega)) jn_all rfl ⟨by decide, by decide⟩ (Nat.le_of_ble_eq_true rfl) dX3_packs_130 ?_
                    refine gx_iinc X dX3_packs_133 5 rfl (by decide) rfl ?_
                    refine gx_goto (tgt := 72) X dX3_packs_136 (by decide) ?_
                    refine gx_sub [1, 2, 3, 4, 5, 0] rfl ?_
                    subst e_m130
                    exact ih _ _ (by omega) (by omega) (M_make_inv _ _ _ hi72_2 (by omega) (by omega) (by omega)) (((M_make_sc _ _ _)).trans (hi72_3 )) (by omega) (fun z e hx => K72 z ((M_packs_l72_s S a b c d fu v5 S72).trans ((if_neg hc78).trans e)) hx)
                  refine gx_if_ne (tgt := 98) X dX3_packs_91 (by decide) (by omega) (fun hc91 => ?_) (fun hc91 => ?_)
                  · refine gx_aload_n X dX3_packs_98 rfl 0 rfl ?_
                    refine gM_r3 X dX3_packs_99 ?_
                    refine gx_iload X dX3_packs_102 5 rfl ?_
                    refine gM_l3 (v := (S72.2 3 v5)) X (by omega) rfl dX3_packs_104 ?_
                    refine gx_iconst (z := 1) X dX3_packs_105 rfl ?_
                    refine gx_icmp_ne (tgt := 113) X dX3_packs_106 (by decide) (by omega) (fun hc106 => ?_) (fun hc106 => ?_)
                    · refine gx_aload_n X dX3_packs_113 rfl 0 rfl ?_
                      refine gM_r3 X dX3_packs_114 ?_
                      refine gx_iload X dX3_packs_117 5 rfl ?_
                      refine gM_l3 (v := (S72.2 3 v5)) X (by omega) rfl dX3_packs_119 ?_
                      refine gx_iconst (z := 2) X dX3_packs_120 rfl ?_
                      refine gx_icmp_ne (tgt := 128) X dX3_packs_121 (by decide) (by omega) (fun hc121 => ?_) (fun hc121 => ?_)
                      · refine gx_iload X dX3_packs_128 4 rfl ?_
                        refine gx_sub [0, 1, 2, 3, 4, 5] rfl ?_
                        exact J130 d (((if_neg hc91).trans ((if_neg hc106).trans (if_neg hc121))).symm) 
                      · refine gx_iload_n X dX3_packs_124 rfl 3 rfl ?_
                        refine gx_goto (tgt := 130) X dX3_packs_125 (by decide) ?_
                        refine gx_sub [0, 1, 2, 3, 4, 5] rfl ?_
                        exact J130 c (((if_neg hc91).trans ((if_neg hc106).trans (if_pos hc121))).symm) 
                    · refine gx_iload_n X dX3_packs_109 rfl 2 rfl ?_
                      refine gx_goto (tgt := 130) X dX3_packs_110 (by decide) ?_
                      refine gx_sub [0, 1, 2, 3, 4, 5] rfl ?_
                      exact J130 b (((if_neg hc91).trans (if_pos hc106)).symm) 
                  · refine gx_iload_n X dX3_packs_94 rfl 1 rfl ?_
                    refine gx_goto (tgt := 130) X dX3_packs_95 (by decide) ?_
                    refine gx_sub [0, 1, 2, 3, 4, 5] rfl ?_
                    exact J130 a ((if_pos hc91).symm) 
            refine gx_sub [1, 2, 3, 4, 5, 0] rfl ?_
            refine L72 (17) 0 S (by omega) (by omega) hI rfl (by omega) (fun z72 e72 hx72 => ?_)
            refine gx_aload_n X dX3_packs_139 rfl 0 rfl ?_
            refine gx_dup X dX3_packs_140 rfl ?_
            refine gM_g2 (v := (S.1 2)) X (congrFun (hx72 ) 2) dX3_packs_141 ?_
            refine gx_iconst (z := 1) X dX3_packs_144 rfl ?_
            refine gx_iadd X dX3_packs_145 ?_
            refine gM_p2 X (hD _) dX3_packs_146 ?_
            refine gx_aload_n X dX3_packs_149 rfl 0 rfl ?_
            refine gM_g2 (v := ((S.1 2) + 1)) X rfl dX3_packs_150 ?_
            exact gx_iret hR (congrArg Prod.fst ((show M_packs S a b c d = (((S.1 2) + 1), (mI z72 2 ((S.1 2) + 1))) from (if_neg hc14).trans ((if_neg hc26).trans ((if_neg hc38).trans ((if_neg hc51).trans ((if_neg hc63).trans (congrArg (fun z72 => M_packs_r72 S z72) e72)))))))) (ret2 (fun z => (wM K q z)) ((show M_packs S a b c d = (((S.1 2) + 1), (mI z72 2 ((S.1 2) + 1))) from (if_neg hc14).trans ((if_neg hc26).trans ((if_neg hc38).trans ((if_neg hc51).trans ((if_neg hc63).trans (congrArg (fun z72 => M_packs_r72 S z72) e72)))))))) dX3_packs_153
          · refine gx_bipush (z := (-4)) X dX3_packs_66 (by decide) ?_
            exact gx_iret hR (congrArg Prod.fst ((show M_packs S a b c d = ((-4), S) from (if_neg hc14).trans ((if_neg hc26).trans ((if_neg hc38).trans ((if_neg hc51).trans (if_pos hc63))))))) (ret2 (fun z => (wM K q z)) ((show M_packs S a b c d = ((-4), S) from (if_neg hc14).trans ((if_neg hc26).trans ((if_neg hc38).trans ((if_neg hc51).trans (if_pos hc63))))))) dX3_packs_68
        · refine gx_bipush (z := (-2)) X dX3_packs_54 (by decide) ?_
          exact gx_iret hR (congrArg Prod.fst ((show M_packs S a b c d = ((-2), S) from (if_neg hc14).trans ((if_neg hc26).trans ((if_neg hc38).trans (if_pos hc51)))))) (ret2 (fun z => (wM K q z)) ((show M_packs S a b c d = ((-2), S) from (if_neg hc14).trans ((if_neg hc26).trans ((if_neg hc38).trans (if_pos hc51)))))) dX3_packs_56
def M_unweave_l47 (S : Sta) (v1 : Int) : Nat → Int → Sta → Sta
  | 0, v3, S47 => S47
  | fu + 1, v3, S47 => if 4 ≤ v3 then S47 else M_unweave_l47 S v1 fu (v3 + 1) (mA S47 1 ((4 * v1) + v3) (S47.2 7 ((4 * ((16 * ((S.1 2) - 1)) + v1)) + v3)))
theorem M_unweave_l47_s (S : Sta) (v1 : Int) (fu : Nat) (v3 : Int) (S47 : Sta) : M_unweave_l47 S v1 (fu + 1) v3 S47 = (if 4 ≤ v3 then S47 else M_unweave_l47 S v1 fu (v3 + 1) (mA S47 1 ((4 * v1) + v3) (S47.2 7 ((4 * ((16 * ((S.1 2) - 1)) + v1)) + v3)))) := rfl
def M_unweave_l27 (S : Sta) : Nat → Int → Sta → Sta
  | 0, v1, S27 => S27
  | fu + 1, v1, S27 => if (S.1 1) ≤ v1 then S27 else (fun (z47 : Sta) => M_unweave_l27 S fu (v1 + 1) (mA (mA (mA (mA z47 2 v1 (z47.2 8 ((16 * ((S.1 2) - 1)) + v1))) 4 v1 (z47.2 9 ((16 * ((S.1 2) - 1)) + v1))) 5 v1 (z47.2 10 ((16 * ((S.1 2) - 1)) + v1))) 6 v1 (z47.2 11 ((16 * ((S.1 2) - 1)) + v1)))) (M_unweave_l47 S v1 (5) 0 S27)
theorem M_unweave_l27_s (S : Sta) (fu : Nat) (v1 : Int) (S27 : Sta) : M_unweave_l27 S (fu + 1) v1 S27 = (if (S.1 1) ≤ v1 then S27 else (fun (z47 : Sta) => M_unweave_l27 S fu (v1 + 1) (mA (mA (mA (mA z47 2 v1 (z47.2 8 ((16 * ((S.1 2) - 1)) + v1))) 4 v1 (z47.2 9 ((16 * ((S.1 2) - 1)) + v1))) 5 v1 (z47.2 10 ((16 * ((S.1 2) - 1)) + v1))) 6 v1 (z47.2 11 ((16 * ((S.1 2) - 1)) + v1)))) (M_unweave_l47 S v1 (5) 0 S27)) := rfl
def M_unweave_r27 (S : Sta) (z27 : Sta) : Int × Sta := (((S.1 2) - 1), z27)
def M_unweave (S : Sta) : Int × Sta := if (S.1 2) = 0 then ((-3), S) else (fun z27 => M_unweave_r27 S z27) (M_unweave_l27 S (17) 0 (mI S 2 ((S.1 2) - 1)))
set_option maxRecDepth 100000 in
theorem c_M_unweave {l : Launch} {K : KK} {N : Int} (q : Nat → Nat) (S : Sta) (hI : InvW N S) : CtI l yX3_unweave cX3_unweave 4 .int (0, 0) K [.ref (q 0)] (wM K q S) (M_unweave S).1 (wM K q ((M_unweave S).2)) := by
  refine ctI_of (by decide) (Nat.le_of_ble_eq_true rfl) rfl ?_
  intro x X hD hR
  have hD : ∀ S9 : Sta, va_D (cx_A x) (wM K q S9) := fun S9 => va_D_same hD rfl
  have hs1 := InvM_s1 hI
  have hs2 := InvM_s2 hI
  have hs3 := InvM_s3 hI
  have hs4 := InvM_s4 hI
  refine gx_aload_n X dX3_unweave_0 rfl 0 rfl ?_
  refine gx_iconst (z := 0) X dX3_unweave_1 rfl ?_
  refine gM_t0 X (hD _) (InvM_t hI) dX3_unweave_2 ?_
  refine gx_aload_n X dX3_unweave_5 rfl 0 rfl ?_
  refine gM_g2 (v := (S.1 2)) X rfl dX3_unweave_6 ?_
  refine gx_if_ne (tgt := 15) X dX3_unweave_9 (by decide) (by omega) (fun hc9 => ?_) (fun hc9 => ?_)
  · refine gx_aload_n X dX3_unweave_15 rfl 0 rfl ?_
    refine gx_dup X dX3_unweave_16 rfl ?_
    refine gM_g2 (v := (S.1 2)) X rfl dX3_unweave_17 ?_
    refine gx_iconst (z := 1) X dX3_unweave_20 rfl ?_
    refine gx_isub X dX3_unweave_21 ?_
    refine gM_p2 X (hD _) dX3_unweave_22 ?_
    refine gx_iconst (z := 0) X dX3_unweave_25 rfl ?_
    refine gx_istore_n X dX3_unweave_26 rfl (by decide) rfl ?_
    have L27 : ∀ (fu : Nat) (v1 : Int) (S27 : Sta), (0 ≤ v1) → (v1 ≤ (S.1 1)) → (S27.1 = (mI S 2 ((S.1 2) - 1)).1) → ((S.1 1) - v1) < (fu : Int) → (∀ z27 : Sta, M_unweave_l27 S fu v1 S27 = z27 → (z27.1 = (mI S 2 ((S.1 2) - 1)).1) → GG l (rmK (0, 0)) K x (wM K q z27) 132 [(0, .ref (q 0))] []) → GG l (rmK (0, 0)) K x (wM K q S27) 27 [(0, .ref (q 0)), (1, .int (iI v1))] [] := by
      intro fu
      induction fu with
      | zero => intro v1 S27 hi27_0 hi27_1 hi27_2 hm27 K27; exact absurd hm27 (by omega)
      | succ fu ih =>
        intro v1 S27 hi27_0 hi27_1 hi27_2 hm27 K27
        refine gx_iload_n X dX3_unweave_27 rfl 1 rfl ?_
        refine gx_aload_n X dX3_unweave_28 rfl 0 rfl ?_
        refine gM_g1 (v := (S.1 1)) X (congrFun (hi27_2 ) 1) dX3_unweave_29 ?_
        refine gx_icmp_ge (tgt := 132) X dX3_unweave_32 (by decide) (by omega) (fun hc32 => ?_) (fun hc32 => ?_)
        · refine gx_sub [0] rfl ?_
          exact K27 S27 ((M_unweave_l27_s S fu v1 S27).trans (if_pos hc32)) ((hi27_2 ))
        · refine gx_bipush (z := 16) X dX3_unweave_35 (by decide) ?_
          refine gx_aload_n X dX3_unweave_37 rfl 0 rfl ?_
          refine gM_g2 (v := ((S.1 2) - 1)) X (congrFun (hi27_2 ) 2) dX3_unweave_38 ?_
          refine gx_imul X dX3_unweave_41 ?_
          refine gx_iload_n X dX3_unweave_42 rfl 1 rfl ?_
          refine gx_iadd X dX3_unweave_43 ?_
          refine gx_istore_n X dX3_unweave_44 rfl (by decide) rfl ?_
          refine gx_iconst (z := 0) X dX3_unweave_45 rfl ?_
          refine gx_istore_n X dX3_unweave_46 rfl (by decide) rfl ?_
          have L47 : ∀ (fu : Nat) (v3 : Int) (S47 : Sta), (0 ≤ v3) → (v3 ≤ 4) → (S47.1 = S27.1) → (4 - v3) < (fu : Int) → (∀ z47 : Sta, M_unweave_l47 S v1 fu v3 S47 = z47 → (z47.1 = S27.1) → GG l (rmK (0, 0)) K x (wM K q z47) 78 [(0, .ref (q 0)), (1, .int (iI v1)), (2, .int (iI ((16 * ((S.1 2) - 1)) + v1)))] []) → GG l (rmK (0, 0)) K x (wM K q S47) 47 [(0, .ref (q 0)), (1, .int (iI v1)), (2, .int (iI ((16 * ((S.1 2) - 1)) + v1))), (3, .int (iI v3))] [] := by
            intro fu
            induction fu with
            | zero => intro v3 S47 hi47_0 hi47_1 hi47_2 hm47 K47; exact absurd hm47 (by omega)
            | succ fu ih =>
              intro v3 S47 hi47_0 hi47_1 hi47_2 hm47 K47
              refine gx_iload_n X dX3_unweave_47 rfl 3 rfl ?_
              refine gx_iconst (z := 4) X dX3_unweave_48 rfl ?_
              refine gx_icmp_ge (tgt := 78) X dX3_unweave_49 (by decide) (by omega) (fun hc49 => ?_) (fun hc49 => ?_)
              · refine gx_sub [0, 1, 2] rfl ?_
                exact K47 S47 ((M_unweave_l47_s S v1 fu v3 S47).trans (if_pos hc49)) ((hi47_2 ))
              · refine gx_aload_n X dX3_unweave_52 rfl 0 rfl ?_
                refine gM_r1 X dX3_unweave_53 ?_
                refine gx_iconst (z := 4) X dX3_unweave_56 rfl ?_
                refine gx_iload_n X dX3_unweave_57 rfl 1 rfl ?_
                refine gx_imul X dX3_unweave_58 ?_
                refine gx_iload_n X dX3_unweave_59 rfl 3 rfl ?_
                refine gx_iadd X dX3_unweave_60 ?_
                refine gx_aload_n X dX3_unweave_61 rfl 0 rfl ?_
                refine gM_r7 X dX3_unweave_62 ?_
                refine gx_iconst (z := 4) X dX3_unweave_65 rfl ?_
                refine gx_iload_n X dX3_unweave_66 rfl 2 rfl ?_
                refine gx_imul X dX3_unweave_67 ?_
                refine gx_iload_n X dX3_unweave_68 rfl 3 rfl ?_
                refine gx_iadd X dX3_unweave_69 ?_
                refine gM_l7 (v := (S47.2 7 ((4 * ((16 * ((S.1 2) - 1)) + v1)) + v3))) X (by omega) rfl dX3_unweave_70 ?_
                refine gM_s1 X (hD _) (by omega) dX3_unweave_71 ?_
                refine gx_iinc X dX3_unweave_72 3 rfl (by decide) rfl ?_
                refine gx_goto (tgt := 47) X dX3_unweave_75 (by decide) ?_
                refine gx_sub [1, 2, 3, 0] rfl ?_
                exact ih (v3 + 1) (mA S47 1 ((4 * v1) + v3) (S47.2 7 ((4 * ((16 * ((S.1 2) - 1)) + v1)) + v3))) (by omega) (by omega) (hi47_2 ) (by omega) (fun z e hx => K47 z ((M_unweave_l47_s S v1 fu v3 S47).trans ((if_neg hc49).trans e)) hx)
          refine gx_sub [2, 3, 1, 0] rfl ?_
          refine L47 (5) 0 S27 (by omega) (by omega) rfl (by omega) (fun z47 e47 hx47 => ?_)
          refine gx_aload_n X dX3_unweave_78 rfl 0 rfl ?_
          refine gM_r2 X dX3_unweave_79 ?_
          refine gx_iload_n X dX3_unweave_82 rfl 1 rfl ?_
          refine gx_aload_n X dX3_unweave_83 rfl 0 rfl ?_
          refine gM_r8 X dX3_unweave_84 ?_
          refine gx_iload_n X dX3_unweave_87 rfl 2 rfl ?_
          refine gM_l8 (v := (z47.2 8 ((16 * ((S.1 2) - 1)) + v1))) X (by omega) rfl dX3_unweave_88 ?_
          refine gM_s2 X (hD _) (by omega) dX3_unweave_89 ?_
          refine gx_aload_n X dX3_unweave_90 rfl 0 rfl ?_
          refine gM_r4 X dX3_unweave_91 ?_
          refine gx_iload_n X dX3_unweave_94 rfl 1 rfl ?_
          refine gx_aload_n X dX3_unweave_95 rfl 0 rfl ?_
          refine gM_r9 X dX3_unweave_96 ?_
          refine gx_iload_n X dX3_unweave_99 rfl 2 rfl ?_
          refine gM_l9 (v := (z47.2 9 ((16 * ((S.1 2) - 1)) + v1))) X (by omega) rfl dX3_unweave_100 ?_
          refine gM_s4 X (hD _) (by omega) dX3_unweave_101 ?_
          refine gx_aload_n X dX3_unweave_102 rfl 0 rfl ?_
          refine gM_r5 X dX3_unweave_103 ?_
          refine gx_iload_n X dX3_unweave_106 rfl 1 rfl ?_
          refine gx_aload_n X dX3_unweave_107 rfl 0 rfl ?_
          refine gM_r10 X dX3_unweave_108 ?_
          refine gx_iload_n X dX3_unweave_111 rfl 2 rfl ?_
          refine gM_l10 (v := (z47.2 10 ((16 * ((S.1 2) - 1)) + v1))) X (by omega) rfl dX3_unweave_112 ?_
          refine gM_s5 X (hD _) (by omega) dX3_unweave_113 ?_
          refine gx_aload_n X dX3_unweave_114 rfl 0 rfl ?_
          refine gM_r6 X dX3_unweave_115 ?_
          refine gx_iload_n X dX3_unweave_118 rfl 1 rfl ?_
          refine gx_aload_n X dX3_unweave_119 rfl 0 rfl ?_
          refine gM_r11 X dX3_unweave_120 ?_
          refine gx_iload_n X dX3_unweave_123 rfl 2 rfl ?_
          refine gM_l11 (v := (z47.2 11 ((16 * ((S.1 2) - 1)) + v1))) X (by omega) rfl dX3_unweave_124 ?_
          refine gM_s6 X (hD _) (by omega) dX3_unweave_125 ?_
          refine gx_iinc X dX3_unweave_126 1 rfl (by decide) rfl ?_
          refine gx_goto (tgt := 27) X dX3_unweave_129 (by decide) ?_
          refine gx_sub [1, 0] rfl ?_
          subst e47
          exact ih _ _ (by omega) (by omega) (((hx47 )).trans (hi27_2 )) (by omega) (fun z e hx => K27 z ((M_unweave_l27_s S fu v1 S27).trans ((if_neg hc32).trans e)) hx)
    refine gx_sub [1, 0] rfl ?_
    refine L27 (17) 0 (mI S 2 ((S.1 2) - 1)) (by omega) (by omega) rfl (by omega) (fun z27 e27 hx27 => ?_)
    refine gx_aload_n X dX3_unweave_132 rfl 0 rfl ?_
    refine gM_g2 (v := ((S.1 2) - 1)) X (congrFun (hx27 ) 2) dX3_unweave_133 ?_
    exact gx_iret hR (congrArg Prod.fst ((show M_unweave S = (((S.1 2) - 1), z27) from (if_neg hc9).trans (congrArg (fun z27 => M_unweave_r27 S z27) e27)))) (ret2 (fun z => (wM K q z)) ((show M_unweave S = (((S.1 2) - 1), z27) from (if_neg hc9).trans (congrArg (fun z27 => M_unweave_r27 S z27) e27)))) dX3_unweave_136
  · refine gx_bipush (z := (-3)) X dX3_unweave_12 (by decide) ?_
    exact gx_iret hR (congrArg Prod.fst ((show M_unweave S = ((-3), S) from if_pos hc9))) (ret2 (fun z => (wM K q z)) ((show M_unweave S = ((-3), S) from if_pos hc9))) dX3_unweave_14
end
section
def M_turn (S : Sta) (p : Int) (c : Int) : Int := if (M_noPick S p) = 0 then if (M_noCard S c) = 0 then (S.2 12 ((16 * p) + c)) else (-1) else (-1)
set_option maxRecDepth 100000 in
theorem c_M_turn {l : Launch} {K : KK} {N : Int} (q : Nat → Nat) (S : Sta) (p : Int) (c : Int) (hI : InvW N S) (hp1 : ok32 p) (hp2 : ok32 c) : CtI l yX3_turn cX3_turn 3 .int (2, 46) K [.ref (q 0), .int (iI p), .int (iI c)] (wM K q S) (M_turn S p c) (wM K q S) := by
  refine ctI_of (by decide) (Nat.le_of_ble_eq_true rfl) rfl ?_
  intro x X hD hR
  have hD : ∀ S9 : Sta, va_D (cx_A x) (wM K q S9) := fun S9 => va_D_same hD rfl
  have hs1 := InvM_s1 hI
  have hs2 := InvM_s2 hI
  have hs3 := InvM_s3 hI
  have hs4 := InvM_s4 hI
  refine gx_aload_n X dX3_turn_0 rfl 0 rfl ?_
  refine gx_iconst (z := 0) X dX3_turn_1 rfl ?_
  refine gM_t0 X (hD _) (InvM_t hI) dX3_turn_2 ?_
  refine gx_aload_n X dX3_turn_5 rfl 0 rfl ?_
  refine gx_iload_n X dX3_turn_6 rfl 1 rfl ?_
  refine gx_callVI (As := [.int (iI p)]) (rest := []) X (hD _) lk_M_117 (ci := 3) rfl rfl 0 rfl (c_M_noPick q S p hI (by omega)) jn_all rfl ⟨by decide, by decide⟩ (Nat.le_of_ble_eq_true rfl) dX3_turn_7 ?_
  have hq7_0 := M_noPick_sp S p
  have J36 : ∀ (m36 : Int), m36 = (if (M_noPick S p) = 0 then if (M_noCard S c) = 0 then (S.2 12 ((16 * p) + c)) else (-1) else (-1)) → GG l (rmK (2, 46)) K x (wM K q S) 36 [(0, .ref (q 0)), (1, .int (iI p)), (2, .int (iI c))] [.int (iI m36)] := by
    intro m36 e_m36
    exact gx_iret hR (e_m36.symm) rfl dX3_turn_36
  refine gx_if_ne (tgt := 21) X dX3_turn_10 (by decide) (by omega) (fun hc10 => ?_) (fun hc10 => ?_)
  · refine gx_iconst (z := (-1)) X dX3_turn_21 rfl ?_
    refine gx_goto (tgt := 36) X dX3_turn_22 (by decide) ?_
    refine gx_sub [0, 1, 2] rfl ?_
    exact J36 (-1) ((if_neg hc10).symm) 
  · refine gx_aload_n X dX3_turn_13 rfl 0 rfl ?_
    refine gx_iload_n X dX3_turn_14 rfl 2 rfl ?_
    refine gx_callVI (As := [.int (iI c)]) (rest := []) X (hD _) lk_M_97 (ci := 3) rfl rfl 0 rfl (c_M_noCard q S c hI (by omega)) jn_all rfl ⟨by decide, by decide⟩ (Nat.le_of_ble_eq_true rfl) dX3_turn_15 ?_
    have hq15_0 := M_noCard_sp S c
    refine gx_if_eq (tgt := 25) X dX3_turn_18 (by decide) (by omega) (fun hc18 => ?_) (fun hc18 => ?_)
    · refine gx_aload_n X dX3_turn_25 rfl 0 rfl ?_
      refine gM_r12 X dX3_turn_26 ?_
      refine gx_bipush (z := 16) X dX3_turn_29 (by decide) ?_
      refine gx_iload_n X dX3_turn_31 rfl 1 rfl ?_
      refine gx_imul X dX3_turn_32 ?_
      refine gx_iload_n X dX3_turn_33 rfl 2 rfl ?_
      refine gx_iadd X dX3_turn_34 ?_
      refine gM_l12 (v := (S.2 12 ((16 * p) + c))) X (by omega) rfl dX3_turn_35 ?_
      have hr35 := InvM_a12 hI ((16 * p) + c)
      refine gx_sub [0, 1, 2] rfl ?_
      exact J36 (S.2 12 ((16 * p) + c)) (((if_pos hc10).trans (if_pos hc18)).symm) 
    · refine gx_iconst (z := (-1)) X dX3_turn_21 rfl ?_
      refine gx_goto (tgt := 36) X dX3_turn_22 (by decide) ?_
      refine gx_sub [0, 1, 2] rfl ?_
      exact J36 (-1) (((if_pos hc10).trans (if_neg hc18)).symm) 
def M_colourOf (S : Sta) (p : Int) (c : Int) : Int := (S.2 0 ((4 * c) + (S.2 13 ((16 * p) + c))))
theorem M_colourOf_rg {N : Int} (S : Sta) (p c : Int) (hI : InvW N S) (_ : 0 ≤ p ∧ p < 60) (_ : 0 ≤ c ∧ c < 16) : 0 ≤ M_colourOf S p c ∧ M_colourOf S p c ≤ 7 := InvM_a0 hI _
set_option maxRecDepth 100000 in
theorem c_M_colourOf {l : Launch} {K : KK} {N : Int} (q : Nat → Nat) (S : Sta) (p : Int) (c : Int) (hI : InvW N S) (hp1 : 0 ≤ p ∧ p < 60) (hp2 : 0 ≤ c ∧ c < 16) : CtI l yX3_colourOf cX3_colourOf 3 .int (0, 0) K [.ref (q 0), .int (iI p), .int (iI c)] (wM K q S) (M_colourOf S p c) (wM K q S) := by
  refine ctI_of (by decide) (Nat.le_of_ble_eq_true rfl) rfl ?_
  intro x X hD hR
  have hD : ∀ S9 : Sta, va_D (cx_A x) (wM K q S9) := fun S9 => va_D_same hD rfl
  have hs1 := InvM_s1 hI
  have hs2 := InvM_s2 hI
  have hs3 := InvM_s3 hI
  have hs4 := InvM_s4 hI
  refine gx_aload_n X dX3_colourOf_0 rfl 0 rfl ?_
  refine gM_r0 X dX3_colourOf_1 ?_
  refine gx_iconst (z := 4) X dX3_colourOf_4 rfl ?_
  refine gx_iload_n X dX3_colourOf_5 rfl 2 rfl ?_
  refine gx_imul X dX3_colourOf_6 ?_
  refine gx_aload_n X dX3_colourOf_7 rfl 0 rfl ?_
  refine gM_r13 X dX3_colourOf_8 ?_
  refine gx_bipush (z := 16) X dX3_colourOf_11 (by decide) ?_
  refine gx_iload_n X dX3_colourOf_13 rfl 1 rfl ?_
  refine gx_imul X dX3_colourOf_14 ?_
  refine gx_iload_n X dX3_colourOf_15 rfl 2 rfl ?_
  refine gx_iadd X dX3_colourOf_16 ?_
  refine gM_l13 (v := (S.2 13 ((16 * p) + c))) X (by omega) rfl dX3_colourOf_17 ?_
  have hr17 := InvM_a13 hI ((16 * p) + c)
  refine gx_iadd X dX3_colourOf_18 ?_
  refine gM_l0 (v := (S.2 0 ((4 * c) + (S.2 13 ((16 * p) + c))))) X (by omega) rfl dX3_colourOf_19 ?_
  have hr19 := InvM_a0 hI ((4 * c) + (S.2 13 ((16 * p) + c)))
  exact gx_iret hR (rfl) rfl dX3_colourOf_20
def M_behindOf (S : Sta) (p : Int) (c : Int) : Int := (S.2 0 ((4 * c) + (S.2 14 ((16 * p) + c))))
theorem M_behindOf_rg {N : Int} (S : Sta) (p c : Int) (hI : InvW N S) (_ : 0 ≤ p ∧ p < 60) (_ : 0 ≤ c ∧ c < 16) : 0 ≤ M_behindOf S p c ∧ M_behindOf S p c ≤ 7 := InvM_a0 hI _
set_option maxRecDepth 100000 in
theorem c_M_behindOf {l : Launch} {K : KK} {N : Int} (q : Nat → Nat) (S : Sta) (p : Int) (c : Int) (hI : InvW N S) (hp1 : 0 ≤ p ∧ p < 60) (hp2 : 0 ≤ c ∧ c < 16) : CtI l yX3_behindOf cX3_behindOf 3 .int (0, 0) K [.ref (q 0), .int (iI p), .int (iI c)] (wM K q S) (M_behindOf S p c) (wM K q S) := by
  refine ctI_of (by decide) (Nat.le_of_ble_eq_true rfl) rfl ?_
  intro x X hD hR
  have hD : ∀ S9 : Sta, va_D (cx_A x) (wM K q S9) := fun S9 => va_D_same hD rfl
  have hs1 := InvM_s1 hI
  have hs2 := InvM_s2 hI
  have hs3 := InvM_s3 hI
  have hs4 := InvM_s4 hI
  refine gx_aload_n X dX3_behindOf_0 rfl 0 rfl ?_
  refine gM_r0 X dX3_behindOf_1 ?_
  refine gx_iconst (z := 4) X dX3_behindOf_4 rfl ?_
  refine gx_iload_n X dX3_behindOf_5 rfl 2 rfl ?_
  refine gx_imul X dX3_behindOf_6 ?_
  refine gx_aload_n X dX3_behindOf_7 rfl 0 rfl ?_
  refine gM_r14 X dX3_behindOf_8 ?_
  refine gx_bipush (z := 16) X dX3_behindOf_11 (by decide) ?_
  refine gx_iload_n X dX3_behindOf_13 rfl 1 rfl ?_
  refine gx_imul X dX3_behindOf_14 ?_
  refine gx_iload_n X dX3_behindOf_15 rfl 2 rfl ?_
  refine gx_iadd X dX3_behindOf_16 ?_
  refine gM_l14 (v := (S.2 14 ((16 * p) + c))) X (by omega) rfl dX3_behindOf_17 ?_
  have hr17 := InvM_a14 hI ((16 * p) + c)
  refine gx_iadd X dX3_behindOf_18 ?_
  refine gM_l0 (v := (S.2 0 ((4 * c) + (S.2 14 ((16 * p) + c))))) X (by omega) rfl dX3_behindOf_19 ?_
  have hr19 := InvM_a0 hI ((4 * c) + (S.2 14 ((16 * p) + c)))
  exact gx_iret hR (rfl) rfl dX3_behindOf_20
def M_shows (S : Sta) (p : Int) (c : Int) (b : Int) : Int := if (M_noPick S p) = 0 then if (M_noCard S c) = 0 then if b = 0 then (M_colourOf S p c) else (M_behindOf S p c) else (-1) else (-1)
set_option maxRecDepth 100000 in
theorem c_M_shows {l : Launch} {K : KK} {N : Int} (q : Nat → Nat) (S : Sta) (p : Int) (c : Int) (b : Int) (hI : InvW N S) (hp1 : ok32 p) (hp2 : ok32 c) (hp3 : ok32 b) : CtI l yX3_shows cX3_shows 4 .int (2, 46) K [.ref (q 0), .int (iI p), .int (iI c), .int (iI b)] (wM K q S) (M_shows S p c b) (wM K q S) := by
  refine ctI_of (by decide) (Nat.le_of_ble_eq_true rfl) rfl ?_
  intro x X hD hR
  have hD : ∀ S9 : Sta, va_D (cx_A x) (wM K q S9) := fun S9 => va_D_same hD rfl
  have hs1 := InvM_s1 hI
  have hs2 := InvM_s2 hI
  have hs3 := InvM_s3 hI
  have hs4 := InvM_s4 hI
  refine gx_aload_n X dX3_shows_0 rfl 0 rfl ?_
  refine gx_iconst (z := 0) X dX3_shows_1 rfl ?_
  refine gM_t0 X (hD _) (InvM_t hI) dX3_shows_2 ?_
  refine gx_aload_n X dX3_shows_5 rfl 0 rfl ?_
  refine gx_iload_n X dX3_shows_6 rfl 1 rfl ?_
  refine gx_callVI (As := [.int (iI p)]) (rest := []) X (hD _) lk_M_117 (ci := 3) rfl rfl 0 rfl (c_M_noPick q S p hI (by omega)) jn_all rfl ⟨by decide, by decide⟩ (Nat.le_of_ble_eq_true rfl) dX3_shows_7 ?_
  have hq7_0 := M_noPick_sp S p
  have J44 : ∀ (m44 : Int), m44 = (if (M_noPick S p) = 0 then if (M_noCard S c) = 0 then if b = 0 then (M_colourOf S p c) else (M_behindOf S p c) else (-1) else (-1)) → GG l (rmK (2, 46)) K x (wM K q S) 44 [(0, .ref (q 0)), (1, .int (iI p)), (2, .int (iI c)), (3, .int (iI b))] [.int (iI m44)] := by
    intro m44 e_m44
    exact gx_iret hR (e_m44.symm) rfl dX3_shows_44
  refine gx_if_ne (tgt := 21) X dX3_shows_10 (by decide) (by omega) (fun hc10 => ?_) (fun hc10 => ?_)
  · refine gx_iconst (z := (-1)) X dX3_shows_21 rfl ?_
    refine gx_goto (tgt := 44) X dX3_shows_22 (by decide) ?_
    refine gx_sub [0, 1, 2, 3] rfl ?_
    exact J44 (-1) ((if_neg hc10).symm) 
  · refine gx_aload_n X dX3_shows_13 rfl 0 rfl ?_
    refine gx_iload_n X dX3_shows_14 rfl 2 rfl ?_
    refine gx_callVI (As := [.int (iI c)]) (rest := []) X (hD _) lk_M_97 (ci := 3) rfl rfl 0 rfl (c_M_noCard q S c hI (by omega)) jn_all rfl ⟨by decide, by decide⟩ (Nat.le_of_ble_eq_true rfl) dX3_shows_15 ?_
    have hq15_0 := M_noCard_sp S c
    refine gx_if_eq (tgt := 25) X dX3_shows_18 (by decide) (by omega) (fun hc18 => ?_) (fun hc18 => ?_)
    · refine gx_iload_n X dX3_shows_25 rfl 3 rfl ?_
      refine gx_if_eq (tgt := 38) X dX3_shows_26 (by decide) (by omega) (fun hc26 => ?_) (fun hc26 => ?_)
      · refine gx_aload_n X dX3_shows_38 rfl 0 rfl ?_
        refine gx_iload_n X dX3_shows_39 rfl 1 rfl ?_
        refine gx_iload_n X dX3_shows_40 rfl 2 rfl ?_
        refine gx_callVI (As := [.int (iI p), .int (iI c)]) (rest := []) X (hD _) lk_M_124 (ci := 3) rfl rfl 0 rfl (c_M_colourOf q S p c hI (by omega) (by omega)) jn_all rfl ⟨by decide, by decide⟩ (Nat.le_of_ble_eq_true rfl) dX3_shows_41 ?_
        have hp41_0 := M_colourOf_rg S p c hI (by omega) (by omega)
        refine gx_sub [0, 1, 2, 3] rfl ?_
        exact J44 (M_colourOf S p c) (((if_pos hc10).trans ((if_pos hc18).trans (if_pos hc26))).symm) 
      · refine gx_aload_n X dX3_shows_29 rfl 0 rfl ?_
        refine gx_iload_n X dX3_shows_30 rfl 1 rfl ?_
        refine gx_iload_n X dX3_shows_31 rfl 2 rfl ?_
        refine gx_callVI (As := [.int (iI p), .int (iI c)]) (rest := []) X (hD _) lk_M_120 (ci := 3) rfl rfl 0 rfl (c_M_behindOf q S p c hI (by omega) (by omega)) jn_all rfl ⟨by decide, by decide⟩ (Nat.le_of_ble_eq_true rfl) dX3_shows_32 ?_
        have hp32_0 := M_behindOf_rg S p c hI (by omega) (by omega)
        refine gx_goto (tgt := 44) X dX3_shows_35 (by decide) ?_
        refine gx_sub [0, 1, 2, 3] rfl ?_
        exact J44 (M_behindOf S p c) (((if_pos hc10).trans ((if_pos hc18).trans (if_neg hc26))).symm) 
    · refine gx_iconst (z := (-1)) X dX3_shows_21 rfl ?_
      refine gx_goto (tgt := 44) X dX3_shows_22 (by decide) ?_
      refine gx_sub [0, 1, 2, 3] rfl ?_
      exact J44 (-1) (((if_pos hc10).trans (if_neg hc18)).symm) 
def M_shown (S : Sta) (p : Int) (c : Int) (b : Int) : Int := if (M_noPick S p) = 0 then if (M_noCard S c) = 0 then if b = 0 then (S.2 13 ((16 * p) + c)) else (S.2 14 ((16 * p) + c)) else (-1) else (-1)
set_option maxRecDepth 100000 in
theorem c_M_shown {l : Launch} {K : KK} {N : Int} (q : Nat → Nat) (S : Sta) (p : Int) (c : Int) (b : Int) (hI : InvW N S) (hp1 : ok32 p) (hp2 : ok32 c) (hp3 : ok32 b) : CtI l yX3_shown cX3_shown 4 .int (2, 46) K [.ref (q 0), .int (iI p), .int (iI c), .int (iI b)] (wM K q S) (M_shown S p c b) (wM K q S) := by
  refine ctI_of (by decide) (Nat.le_of_ble_eq_true rfl) rfl ?_
  intro x X hD hR
  have hD : ∀ S9 : Sta, va_D (cx_A x) (wM K q S9) := fun S9 => va_D_same hD rfl
  have hs1 := InvM_s1 hI
  have hs2 := InvM_s2 hI
  have hs3 := InvM_s3 hI
  have hs4 := InvM_s4 hI
  refine gx_aload_n X dX3_shown_0 rfl 0 rfl ?_
  refine gx_iconst (z := 0) X dX3_shown_1 rfl ?_
  refine gM_t0 X (hD _) (InvM_t hI) dX3_shown_2 ?_
  refine gx_aload_n X dX3_shown_5 rfl 0 rfl ?_
  refine gx_iload_n X dX3_shown_6 rfl 1 rfl ?_
  refine gx_callVI (As := [.int (iI p)]) (rest := []) X (hD _) lk_M_117 (ci := 3) rfl rfl 0 rfl (c_M_noPick q S p hI (by omega)) jn_all rfl ⟨by decide, by decide⟩ (Nat.le_of_ble_eq_true rfl) dX3_shown_7 ?_
  have hq7_0 := M_noPick_sp S p
  have J54 : ∀ (m54 : Int), m54 = (if (M_noPick S p) = 0 then if (M_noCard S c) = 0 then if b = 0 then (S.2 13 ((16 * p) + c)) else (S.2 14 ((16 * p) + c)) else (-1) else (-1)) → GG l (rmK (2, 46)) K x (wM K q S) 54 [(0, .ref (q 0)), (1, .int (iI p)), (2, .int (iI c)), (3, .int (iI b))] [.int (iI m54)] := by
    intro m54 e_m54
    exact gx_iret hR (e_m54.symm) rfl dX3_shown_54
  refine gx_if_ne (tgt := 21) X dX3_shown_10 (by decide) (by omega) (fun hc10 => ?_) (fun hc10 => ?_)
  · refine gx_iconst (z := (-1)) X dX3_shown_21 rfl ?_
    refine gx_goto (tgt := 54) X dX3_shown_22 (by decide) ?_
    refine gx_sub [0, 1, 2, 3] rfl ?_
    exact J54 (-1) ((if_neg hc10).symm) 
  · refine gx_aload_n X dX3_shown_13 rfl 0 rfl ?_
    refine gx_iload_n X dX3_shown_14 rfl 2 rfl ?_
    refine gx_callVI (As := [.int (iI c)]) (rest := []) X (hD _) lk_M_97 (ci := 3) rfl rfl 0 rfl (c_M_noCard q S c hI (by omega)) jn_all rfl ⟨by decide, by decide⟩ (Nat.le_of_ble_eq_true rfl) dX3_shown_15 ?_
    have hq15_0 := M_noCard_sp S c
    refine gx_if_eq (tgt := 25) X dX3_shown_18 (by decide) (by omega) (fun hc18 => ?_) (fun hc18 => ?_)
    · refine gx_iload_n X dX3_shown_25 rfl 3 rfl ?_
      refine gx_if_eq (tgt := 43) X dX3_shown_26 (by decide) (by omega) (fun hc26 => ?_) (fun hc26 => ?_)
      · refine gx_aload_n X dX3_shown_43 rfl 0 rfl ?_
        refine gM_r13 X dX3_shown_44 ?_
        refine gx_bipush (z := 16) X dX3_shown_47 (by decide) ?_
        refine gx_iload_n X dX3_shown_49 rfl 1 rfl ?_
        refine gx_imul X dX3_shown_50 ?_
        refine gx_iload_n X dX3_shown_51 rfl 2 rfl ?_
        refine gx_iadd X dX3_shown_52 ?_
        refine gM_l13 (v := (S.2 13 ((16 * p) + c))) X (by omega) rfl dX3_shown_53 ?_
        have hr53 := InvM_a13 hI ((16 * p) + c)
        refine gx_sub [0, 1, 2, 3] rfl ?_
        exact J54 (S.2 13 ((16 * p) + c)) (((if_pos hc10).trans ((if_pos hc18).trans (if_pos hc26))).symm) 
      · refine gx_aload_n X dX3_shown_29 rfl 0 rfl ?_
        refine gM_r14 X dX3_shown_30 ?_
        refine gx_bipush (z := 16) X dX3_shown_33 (by decide) ?_
        refine gx_iload_n X dX3_shown_35 rfl 1 rfl ?_
        refine gx_imul X dX3_shown_36 ?_
        refine gx_iload_n X dX3_shown_37 rfl 2 rfl ?_
        refine gx_iadd X dX3_shown_38 ?_
        refine gM_l14 (v := (S.2 14 ((16 * p) + c))) X (by omega) rfl dX3_shown_39 ?_
        have hr39 := InvM_a14 hI ((16 * p) + c)
        refine gx_goto (tgt := 54) X dX3_shown_40 (by decide) ?_
        refine gx_sub [0, 1, 2, 3] rfl ?_
        exact J54 (S.2 14 ((16 * p) + c)) (((if_pos hc10).trans ((if_pos hc18).trans (if_neg hc26))).symm) 
    · refine gx_iconst (z := (-1)) X dX3_shown_21 rfl ?_
      refine gx_goto (tgt := 54) X dX3_shown_22 (by decide) ?_
      refine gx_sub [0, 1, 2, 3] rfl ?_
      exact J54 (-1) (((if_pos hc10).trans (if_neg hc18)).symm) 
def M_slant (S : Sta) (p : Int) (c : Int) : Int := if (M_noPick S p) = 0 then if (M_noCard S c) = 0 then (S.2 15 ((16 * p) + c)) else (-1) else (-1)
set_option maxRecDepth 100000 in
theorem c_M_slant {l : Launch} {K : KK} {N : Int} (q : Nat → Nat) (S : Sta) (p : Int) (c : Int) (hI : InvW N S) (hp1 : ok32 p) (hp2 : ok32 c) : CtI l yX3_slant cX3_slant 3 .int (2, 46) K [.ref (q 0), .int (iI p), .int (iI c)] (wM K q S) (M_slant S p c) (wM K q S) := by
  refine ctI_of (by decide) (Nat.le_of_ble_eq_true rfl) rfl ?_
  intro x X hD hR
  have hD : ∀ S9 : Sta, va_D (cx_A x) (wM K q S9) := fun S9 => va_D_same hD rfl
  have hs1 := InvM_s1 hI
  have hs2 := InvM_s2 hI
  have hs3 := InvM_s3 hI
  have hs4 := InvM_s4 hI
  refine gx_aload_n X dX3_slant_0 rfl 0 rfl ?_
  refine gx_iconst (z := 0) X dX3_slant_1 rfl ?_
  refine gM_t0 X (hD _) (InvM_t hI) dX3_slant_2 ?_
  refine gx_aload_n X dX3_slant_5 rfl 0 rfl ?_
  refine gx_iload_n X dX3_slant_6 rfl 1 rfl ?_
  refine gx_callVI (As := [.int (iI p)]) (rest := []) X (hD _) lk_M_117 (ci := 3) rfl rfl 0 rfl (c_M_noPick q S p hI (by omega)) jn_all rfl ⟨by decide, by decide⟩ (Nat.le_of_ble_eq_true rfl) dX3_slant_7 ?_
  have hq7_0 := M_noPick_sp S p
  have J36 : ∀ (m36 : Int), m36 = (if (M_noPick S p) = 0 then if (M_noCard S c) = 0 then (S.2 15 ((16 * p) + c)) else (-1) else (-1)) → GG l (rmK (2, 46)) K x (wM K q S) 36 [(0, .ref (q 0)), (1, .int (iI p)), (2, .int (iI c))] [.int (iI m36)] := by
    intro m36 e_m36
    exact gx_iret hR (e_m36.symm) rfl dX3_slant_36
  refine gx_if_ne (tgt := 21) X dX3_slant_10 (by decide) (by omega) (fun hc10 => ?_) (fun hc10 => ?_)
  · refine gx_iconst (z := (-1)) X dX3_slant_21 rfl ?_
    refine gx_goto (tgt := 36) X dX3_slant_22 (by decide) ?_
    refine gx_sub [0, 1, 2] rfl ?_
    exact J36 (-1) ((if_neg hc10).symm) 
  · refine gx_aload_n X dX3_slant_13 rfl 0 rfl ?_
    refine gx_iload_n X dX3_slant_14 rfl 2 rfl ?_
    refine gx_callVI (As := [.int (iI c)]) (rest := []) X (hD _) lk_M_97 (ci := 3) rfl rfl 0 rfl (c_M_noCard q S c hI (by omega)) jn_all rfl ⟨by decide, by decide⟩ (Nat.le_of_ble_eq_true rfl) dX3_slant_15 ?_
    have hq15_0 := M_noCard_sp S c
    refine gx_if_eq (tgt := 25) X dX3_slant_18 (by decide) (by omega) (fun hc18 => ?_) (fun hc18 => ?_)
    · refine gx_aload_n X dX3_slant_25 rfl 0 rfl ?_
      refine gM_r15 X dX3_slant_26 ?_
      refine gx_bipush (z := 16) X dX3_slant_29 (by decide) ?_
      refine gx_iload_n X dX3_slant_31 rfl 1 rfl ?_
      refine gx_imul X dX3_slant_32 ?_
      refine gx_iload_n X dX3_slant_33 rfl 2 rfl ?_
      refine gx_iadd X dX3_slant_34 ?_
      refine gM_l15 (v := (S.2 15 ((16 * p) + c))) X (by omega) rfl dX3_slant_35 ?_
      have hr35 := InvM_a15 hI ((16 * p) + c)
      refine gx_sub [0, 1, 2] rfl ?_
      exact J36 (S.2 15 ((16 * p) + c)) (((if_pos hc10).trans (if_pos hc18)).symm) 
    · refine gx_iconst (z := (-1)) X dX3_slant_21 rfl ?_
      refine gx_goto (tgt := 36) X dX3_slant_22 (by decide) ?_
      refine gx_sub [0, 1, 2] rfl ?_
      exact J36 (-1) (((if_pos hc10).trans (if_neg hc18)).symm) 
def M_longest_l22 (S : Sta) (c : Int) : Nat → Int → Int → Int → Int
  | 0, v2, v3, v4 => v2
  | fu + 1, v2, v3, v4 => if (S.1 2) ≤ v4 then v2 else (fun (m54 : Int) => (fun (m65 : Int) => M_longest_l22 S c fu m65 m54 (v4 + 1)) (if m54 ≤ v2 then v2 else m54)) (if (S.2 12 ((16 * v4) + c)) = 2 then (v3 + 1) else 0)
theorem M_longest_l22_s (S : Sta) (c : Int) (fu : Nat) (v2 : Int) (v3 : Int) (v4 : Int) : M_longest_l22 S c (fu + 1) v2 v3 v4 = (if (S.1 2) ≤ v4 then v2 else (fun (m54 : Int) => (fun (m65 : Int) => M_longest_l22 S c fu m65 m54 (v4 + 1)) (if m54 ≤ v2 then v2 else m54)) (if (S.2 12 ((16 * v4) + c)) = 2 then (v3 + 1) else 0)) := rfl
def M_longest (S : Sta) (c : Int) : Int := if (M_noCard S c) = 0 then (M_longest_l22 S c (61) 0 0 0) else (-1)
set_option maxRecDepth 100000 in
theorem c_M_longest {l : Launch} {K : KK} {N : Int} (q : Nat → Nat) (S : Sta) (c : Int) (hI : InvW N S) (hp1 : ok32 c) : CtI l yX3_longest cX3_longest 5 .int (2, 46) K [.ref (q 0), .int (iI c)] (wM K q S) (M_longest S c) (wM K q S) := by
  refine ctI_of (by decide) (Nat.le_of_ble_eq_true rfl) rfl ?_
  intro x X hD hR
  have hD : ∀ S9 : Sta, va_D (cx_A x) (wM K q S9) := fun S9 => va_D_same hD rfl
  have hs1 := InvM_s1 hI
  have hs2 := InvM_s2 hI
  have hs3 := InvM_s3 hI
  have hs4 := InvM_s4 hI
  refine gx_aload_n X dX3_longest_0 rfl 0 rfl ?_
  refine gx_iconst (z := 0) X dX3_longest_1 rfl ?_
  refine gM_t0 X (hD _) (InvM_t hI) dX3_longest_2 ?_
  refine gx_aload_n X dX3_longest_5 rfl 0 rfl ?_
  refine gx_iload_n X dX3_longest_6 rfl 1 rfl ?_
  refine gx_callVI (As := [.int (iI c)]) (rest := []) X (hD _) lk_M_97 (ci := 3) rfl rfl 0 rfl (c_M_noCard q S c hI (by omega)) jn_all rfl ⟨by decide, by decide⟩ (Nat.le_of_ble_eq_true rfl) dX3_longest_7 ?_
  have hq7_0 := M_noCard_sp S c
  refine gx_if_eq (tgt := 15) X dX3_longest_10 (by decide) (by omega) (fun hc10 => ?_) (fun hc10 => ?_)
  · refine gx_iconst (z := 0) X dX3_longest_15 rfl ?_
    refine gx_istore_n X dX3_longest_16 rfl (by decide) rfl ?_
    refine gx_iconst (z := 0) X dX3_longest_17 rfl ?_
    refine gx_istore_n X dX3_longest_18 rfl (by decide) rfl ?_
    refine gx_iconst (z := 0) X dX3_longest_19 rfl ?_
    refine gx_istore X dX3_longest_20 (by decide) rfl ?_
    have L22 : ∀ (fu : Nat) (v2 : Int) (v3 : Int) (v4 : Int), (0 ≤ v4) → (v4 ≤ (S.1 2)) → (0 ≤ v3 ∧ v3 ≤ v4) → (0 ≤ v2 ∧ v2 ≤ v4) → ((S.1 2) - v4) < (fu : Int) → (∀ z22 : Int, M_longest_l22 S c fu v2 v3 v4 = z22 → True → GG l (rmK (2, 46)) K x (wM K q S) 72 [(0, .ref (q 0)), (1, .int (iI c)), (2, .int (iI z22))] []) → GG l (rmK (2, 46)) K x (wM K q S) 22 [(0, .ref (q 0)), (1, .int (iI c)), (2, .int (iI v2)), (3, .int (iI v3)), (4, .int (iI v4))] [] := by
      intro fu
      induction fu with
      | zero => intro v2 v3 v4 hi22_0 hi22_1 hi22_2 hi22_3 hm22 K22; exact absurd hm22 (by omega)
      | succ fu ih =>
        intro v2 v3 v4 hi22_0 hi22_1 hi22_2 hi22_3 hm22 K22
        refine gx_iload X dX3_longest_22 4 rfl ?_
        refine gx_aload_n X dX3_longest_24 rfl 0 rfl ?_
        refine gM_g2 (v := (S.1 2)) X rfl dX3_longest_25 ?_
        refine gx_icmp_ge (tgt := 72) X dX3_longest_28 (by decide) (by omega) (fun hc28 => ?_) (fun hc28 => ?_)
        · refine gx_sub [0, 1, 2] rfl ?_
          exact K22 v2 ((M_longest_l22_s S c fu v2 v3 v4).trans (if_pos hc28)) trivial
        · refine gx_aload_n X dX3_longest_31 rfl 0 rfl ?_
          refine gM_r12 X dX3_longest_32 ?_
          refine gx_bipush (z := 16) X dX3_longest_35 (by decide) ?_
          refine gx_iload X dX3_longest_37 4 rfl ?_
          refine gx_imul X dX3_longest_39 ?_
          refine gx_iload_n X dX3_longest_40 rfl 1 rfl ?_
          refine gx_iadd X dX3_longest_41 ?_
          refine gM_l12 (v := (S.2 12 ((16 * v4) + c))) X (by omega) rfl dX3_longest_42 ?_
          have hr42 := InvM_a12 hI ((16 * v4) + c)
          refine gx_iconst (z := 2) X dX3_longest_43 rfl ?_
          have J54 : ∀ (m54 : Int), m54 = (if (S.2 12 ((16 * v4) + c)) = 2 then (v3 + 1) else 0) → GG l (rmK (2, 46)) K x (wM K q S) 54 [(0, .ref (q 0)), (1, .int (iI c)), (2, .int (iI v2)), (3, .int (iI v3)), (4, .int (iI v4))] [.int (iI m54)] := by
            intro m54 e_m54
            refine gx_istore_n X dX3_longest_54 rfl (by decide) rfl ?_
            refine gx_iload_n X dX3_longest_55 rfl 0 rfl ?_
            refine gx_iload_n X dX3_longest_56 rfl 3 rfl ?_
            have J65 : ∀ (m65 : Int), m65 = (if m54 ≤ v2 then v2 else m54) → GG l (rmK (2, 46)) K x (wM K q S) 65 [(0, .ref (q 0)), (1, .int (iI c)), (2, .int (iI v2)), (3, .int (iI m54)), (4, .int (iI v4))] [.int (iI m65)] := by
              intro m65 e_m65
              refine gx_istore_n X dX3_longest_65 rfl (by decide) rfl ?_
              refine gx_iinc X dX3_longest_66 4 rfl (by decide) rfl ?_
              refine gx_goto (tgt := 22) X dX3_longest_69 (by decide) ?_
              refine gx_sub [2, 3, 1, 4, 0] rfl ?_
              subst e_m54
              subst e_m65
              exact ih _ _ _ (by omega) (by omega) (by omega) (by omega) (by omega) (fun z e hx => K22 z ((M_longest_l22_s S c fu v2 v3 v4).trans ((if_neg hc28).trans e)) hx)
            refine gx_icmp_le (tgt := 64) X dX3_longest_57 (by decide) (by omega) (fun hc57 => ?_) (fun hc57 => ?_)
            · refine gx_iload_n X dX3_longest_64 rfl 3 rfl ?_
              refine gx_sub [1, 2, 3, 0, 4] rfl ?_
              exact J65 v2 ((if_pos hc57).symm) 
            · refine gx_iload_n X dX3_longest_60 rfl 0 rfl ?_
              refine gx_goto (tgt := 65) X dX3_longest_61 (by decide) ?_
              refine gx_sub [1, 2, 3, 0, 4] rfl ?_
              exact J65 m54 ((if_neg hc57).symm) 
          refine gx_icmp_ne (tgt := 53) X dX3_longest_44 (by decide) (by omega) (fun hc44 => ?_) (fun hc44 => ?_)
          · refine gx_iconst (z := 0) X dX3_longest_53 rfl ?_
            refine gx_sub [0, 1, 2, 3, 4] rfl ?_
            exact J54 0 ((if_neg hc44).symm) 
          · refine gx_iload_n X dX3_longest_47 rfl 3 rfl ?_
            refine gx_iconst (z := 1) X dX3_longest_48 rfl ?_
            refine gx_iadd X dX3_longest_49 ?_
            refine gx_goto (tgt := 54) X dX3_longest_50 (by decide) ?_
            refine gx_sub [0, 1, 2, 3, 4] rfl ?_
            exact J54 (v3 + 1) ((if_pos hc44).symm) 
    refine gx_sub [3, 4, 2, 1, 0] rfl ?_
    refine L22 (61) 0 0 0 (by omega) (by omega) (by omega) (by omega) (by omega) (fun z22 e22 hx22 => ?_)
    refine gx_iload_n X dX3_longest_72 rfl 2 rfl ?_
    exact gx_iret hR ((if_pos hc10).trans (e22)) rfl dX3_longest_73
  · refine gx_iconst (z := (-1)) X dX3_longest_13 rfl ?_
    exact gx_iret hR (if_neg hc10) rfl dX3_longest_14
def M_many_l35 (S : Sta) (p : Int) (v : Int) : Nat → Int → Int → Int
  | 0, v3, v4 => v3
  | fu + 1, v3, v4 => if (S.1 1) ≤ v4 then v3 else (fun (m61 : Int) => M_many_l35 S p v fu (v3 + m61) (v4 + 1)) (if (M_colourOf S p v4) = v then 1 else 0)
theorem M_many_l35_s (S : Sta) (p : Int) (v : Int) (fu : Nat) (v3 : Int) (v4 : Int) : M_many_l35 S p v (fu + 1) v3 v4 = (if (S.1 1) ≤ v4 then v3 else (fun (m61 : Int) => M_many_l35 S p v fu (v3 + m61) (v4 + 1)) (if (M_colourOf S p v4) = v then 1 else 0)) := rfl
def M_many (S : Sta) (p : Int) (v : Int) : Int := if (M_noPick S p) = 0 then if (M_in v 0 7) = 0 then (-2) else (M_many_l35 S p v (17) 0 0) else (-1)
set_option maxRecDepth 100000 in
theorem c_M_many {l : Launch} {K : KK} {N : Int} (q : Nat → Nat) (S : Sta) (p : Int) (v : Int) (hI : InvW N S) (hp1 : ok32 p) (hp2 : ok32 v) : CtI l yX3_many cX3_many 5 .int (2, 46) K [.ref (q 0), .int (iI p), .int (iI v)] (wM K q S) (M_many S p v) (wM K q S) := by
  refine ctI_of (by decide) (Nat.le_of_ble_eq_true rfl) rfl ?_
  intro x X hD hR
  have hD : ∀ S9 : Sta, va_D (cx_A x) (wM K q S9) := fun S9 => va_D_same hD rfl
  have hs1 := InvM_s1 hI
  have hs2 := InvM_s2 hI
  have hs3 := InvM_s3 hI
  have hs4 := InvM_s4 hI
  refine gx_aload_n X dX3_many_0 rfl 0 rfl ?_
  refine gx_iconst (z := 0) X dX3_many_1 rfl ?_
  refine gM_t0 X (hD _) (InvM_t hI) dX3_many_2 ?_
  refine gx_aload_n X dX3_many_5 rfl 0 rfl ?_
  refine gx_iload_n X dX3_many_6 rfl 1 rfl ?_
  refine gx_callVI (As := [.int (iI p)]) (rest := []) X (hD _) lk_M_117 (ci := 3) rfl rfl 0 rfl (c_M_noPick q S p hI (by omega)) jn_all rfl ⟨by decide, by decide⟩ (Nat.le_of_ble_eq_true rfl) dX3_many_7 ?_
  have hq7_0 := M_noPick_sp S p
  refine gx_if_eq (tgt := 15) X dX3_many_10 (by decide) (by omega) (fun hc10 => ?_) (fun hc10 => ?_)
  · refine gx_iload_n X dX3_many_15 rfl 2 rfl ?_
    refine gx_i2l X dX3_many_16 (by omega) ?_
    refine gx_lconst (v := lI 0) X dX3_many_17 rfl ?_
    refine gx_ldc2 (v := lI 7) X t_M_103 dX3_many_18 ?_
    refine gx_callSI (As := [.long (lI v), .long (lI 0), .long (lI 7)]) (rest := []) X (hD _) lk_M_88 (c_M_in v 0 7 (by omega) (by omega) (by omega)) jn_nil rfl ⟨by decide, by decide⟩ (Nat.le_of_ble_eq_true rfl) dX3_many_21 ?_
    have hq21_0 := M_in_sp v 0 7
    refine gx_if_ne (tgt := 30) X dX3_many_24 (by decide) (by omega) (fun hc24 => ?_) (fun hc24 => ?_)
    · refine gx_iconst (z := 0) X dX3_many_30 rfl ?_
      refine gx_istore_n X dX3_many_31 rfl (by decide) rfl ?_
      refine gx_iconst (z := 0) X dX3_many_32 rfl ?_
      refine gx_istore X dX3_many_33 (by decide) rfl ?_
      have L35 : ∀ (fu : Nat) (v3 : Int) (v4 : Int), (0 ≤ v4) → (v4 ≤ (S.1 1)) → ((S.1 1) - v4) < (fu : Int) → (∀ z35 : Int, M_many_l35 S p v fu v3 v4 = z35 → True → GG l (rmK (2, 46)) K x (wM K q S) 69 [(0, .ref (q 0)), (1, .int (iI p)), (2, .int (iI v)), (3, .int (iI z35))] []) → GG l (rmK (2, 46)) K x (wM K q S) 35 [(0, .ref (q 0)), (1, .int (iI p)), (2, .int (iI v)), (3, .int (iI v3)), (4, .int (iI v4))] [] := by
        intro fu
        induction fu with
        | zero => intro v3 v4 hi35_0 hi35_1 hm35 K35; exact absurd hm35 (by omega)
        | succ fu ih =>
          intro v3 v4 hi35_0 hi35_1 hm35 K35
          refine gx_iload X dX3_many_35 4 rfl ?_
          refine gx_aload_n X dX3_many_37 rfl 0 rfl ?_
          refine gM_g1 (v := (S.1 1)) X rfl dX3_many_38 ?_
          refine gx_icmp_ge (tgt := 69) X dX3_many_41 (by decide) (by omega) (fun hc41 => ?_) (fun hc41 => ?_)
          · refine gx_sub [0, 1, 2, 3] rfl ?_
            exact K35 v3 ((M_many_l35_s S p v fu v3 v4).trans (if_pos hc41)) trivial
          · refine gx_iload_n X dX3_many_44 rfl 3 rfl ?_
            refine gx_aload_n X dX3_many_45 rfl 0 rfl ?_
            refine gx_iload_n X dX3_many_46 rfl 1 rfl ?_
            refine gx_iload X dX3_many_47 4 rfl ?_
            refine gx_callVI (As := [.int (iI p), .int (iI v4)]) (rest := [.int (iI v3)]) X (hD _) lk_M_124 (ci := 3) rfl rfl 0 rfl (c_M_colourOf q S p v4 hI (by omega) (by omega)) jn_all rfl ⟨by decide, by decide⟩ (Nat.le_of_ble_eq_true rfl) dX3_many_49 ?_
            have hp49_0 := M_colourOf_rg S p v4 hI (by omega) (by omega)
            refine gx_iload_n X dX3_many_52 rfl 2 rfl ?_
            have J61 : ∀ (m61 : Int), m61 = (if (M_colourOf S p v4) = v then 1 else 0) → GG l (rmK (2, 46)) K x (wM K q S) 61 [(0, .ref (q 0)), (1, .int (iI p)), (2, .int (iI v)), (3, .int (iI v3)), (4, .int (iI v4))] [.int (iI m61), .int (iI v3)] := by
              intro m61 e_m61
              refine gx_iadd X dX3_many_61 ?_
              refine gx_istore_n X dX3_many_62 rfl (by decide) rfl ?_
              refine gx_iinc X dX3_many_63 4 rfl (by decide) rfl ?_
              refine gx_goto (tgt := 35) X dX3_many_66 (by decide) ?_
              refine gx_sub [2, 3, 4, 1, 0] rfl ?_
              subst e_m61
              exact ih _ _ (by omega) (by omega) (by omega) (fun z e hx => K35 z ((M_many_l35_s S p v fu v3 v4).trans ((if_neg hc41).trans e)) hx)
            refine gx_icmp_ne (tgt := 60) X dX3_many_53 (by decide) (by omega) (fun hc53 => ?_) (fun hc53 => ?_)
            · refine gx_iconst (z := 0) X dX3_many_60 rfl ?_
              refine gx_sub [0, 1, 2, 3, 4] rfl ?_
              exact J61 0 ((if_neg hc53).symm) 
            · refine gx_iconst (z := 1) X dX3_many_56 rfl ?_
              refine gx_goto (tgt := 61) X dX3_many_57 (by decide) ?_
              refine gx_sub [0, 1, 2, 3, 4] rfl ?_
              exact J61 1 ((if_pos hc53).symm) 
      refine gx_sub [2, 3, 4, 1, 0] rfl ?_
      refine L35 (17) 0 0 (by omega) (by omega) (by omega) (fun z35 e35 hx35 => ?_)
      refine gx_iload_n X dX3_many_69 rfl 3 rfl ?_
      exact gx_iret hR ((if_pos hc10).trans ((if_neg hc24).trans (e35))) rfl dX3_many_70
    · refine gx_bipush (z := (-2)) X dX3_many_27 (by decide) ?_
      exact gx_iret hR ((if_pos hc10).trans (if_pos hc24)) rfl dX3_many_29
  · refine gx_iconst (z := (-1)) X dX3_many_13 rfl ?_
    exact gx_iret hR (if_neg hc10) rfl dX3_many_14
def M_fits (S : Sta) (r : Int) (c : Int) (v : Int) : Int := if (S.2 16 ((16 * r) + c)) = (-99) then 1 else if (S.2 16 ((16 * r) + c)) = v then 1 else 0
theorem M_fits_01 (S : Sta) (r : Int) (c : Int) (v : Int) : M_fits S r c v = 0 ∨ M_fits S r c v = 1 := by
  unfold M_fits
  repeat (first | (exact Or.inl rfl) | (exact Or.inr rfl) | split)
set_option maxRecDepth 100000 in
theorem c_M_fits {l : Launch} {K : KK} {N : Int} (q : Nat → Nat) (S : Sta) (r : Int) (c : Int) (v : Int) (hI : InvW N S) (hp1 : 0 ≤ r ∧ r < 30) (hp2 : 0 ≤ c ∧ c < 16) (hp3 : ok32 v) : CtI l yX3_fits cX3_fits 4 .boolean (0, 0) K [.ref (q 0), .int (iI r), .int (iI c), .int (iI v)] (wM K q S) (M_fits S r c v) (wM K q S) := by
  refine ctI_of (by decide) (Nat.le_of_ble_eq_true rfl) (narrow_bool (M_fits_01 S r c v)) ?_
  intro x X hD hR
  have hD : ∀ S9 : Sta, va_D (cx_A x) (wM K q S9) := fun S9 => va_D_same hD rfl
  have hs1 := InvM_s1 hI
  have hs2 := InvM_s2 hI
  have hs3 := InvM_s3 hI
  have hs4 := InvM_s4 hI
  refine gx_aload_n X dX3_fits_0 rfl 0 rfl ?_
  refine gM_r16 X dX3_fits_1 ?_
  refine gx_bipush (z := 16) X dX3_fits_4 (by decide) ?_
  refine gx_iload_n X dX3_fits_6 rfl 1 rfl ?_
  refine gx_imul X dX3_fits_7 ?_
  refine gx_iload_n X dX3_fits_8 rfl 2 rfl ?_
  refine gx_iadd X dX3_fits_9 ?_
  refine gM_l16 (v := (S.2 16 ((16 * r) + c))) X (by omega) rfl dX3_fits_10 ?_
  have hr10 := InvM_a16 hI ((16 * r) + c)
  refine gx_bipush (z := (-99)) X dX3_fits_11 (by decide) ?_
  have J36 : ∀ (m36 : Int), m36 = (if (S.2 16 ((16 * r) + c)) = (-99) then 1 else if (S.2 16 ((16 * r) + c)) = v then 1 else 0) → GG l (rmK (0, 0)) K x (wM K q S) 36 [(0, .ref (q 0)), (1, .int (iI r)), (2, .int (iI c)), (3, .int (iI v))] [.int (iI m36)] := by
    intro m36 e_m36
    exact gx_iret hR (e_m36.symm) rfl dX3_fits_36
  refine gx_icmp_eq (tgt := 31) X dX3_fits_13 (by decide) (by omega) (fun hc13 => ?_) (fun hc13 => ?_)
  · refine gx_iconst (z := 1) X dX3_fits_31 rfl ?_
    refine gx_goto (tgt := 36) X dX3_fits_32 (by decide) ?_
    refine gx_sub [0, 1, 2, 3] rfl ?_
    exact J36 1 ((if_pos hc13).symm) 
  · refine gx_aload_n X dX3_fits_16 rfl 0 rfl ?_
    refine gM_r16 X dX3_fits_17 ?_
    refine gx_bipush (z := 16) X dX3_fits_20 (by decide) ?_
    refine gx_iload_n X dX3_fits_22 rfl 1 rfl ?_
    refine gx_imul X dX3_fits_23 ?_
    refine gx_iload_n X dX3_fits_24 rfl 2 rfl ?_
    refine gx_iadd X dX3_fits_25 ?_
    refine gM_l16 (v := (S.2 16 ((16 * r) + c))) X (by omega) rfl dX3_fits_26 ?_
    refine gx_iload_n X dX3_fits_27 rfl 3 rfl ?_
    refine gx_icmp_ne (tgt := 35) X dX3_fits_28 (by decide) (by omega) (fun hc28 => ?_) (fun hc28 => ?_)
    · refine gx_iconst (z := 0) X dX3_fits_35 rfl ?_
      refine gx_sub [0, 1, 2, 3] rfl ?_
      exact J36 0 (((if_neg hc13).trans (if_neg hc28)).symm) 
    · refine gx_iconst (z := 1) X dX3_fits_31 rfl ?_
      refine gx_goto (tgt := 36) X dX3_fits_32 (by decide) ?_
      refine gx_sub [0, 1, 2, 3] rfl ?_
      exact J36 1 (((if_neg hc13).trans (if_pos hc28)).symm) 
def M_seenRows (S : Sta) : Int := if (S.1 2) ≤ (S.1 3) then (S.1 2) else (S.1 3)
theorem M_seenRows_sp (S : Sta) : M_seenRows S ≤ S.1 2 ∧ M_seenRows S ≤ S.1 3 ∧ (M_seenRows S = S.1 2 ∨ M_seenRows S = S.1 3) := by
  unfold M_seenRows
  split <;> omega
set_option maxRecDepth 100000 in
theorem c_M_seenRows {l : Launch} {K : KK} {N : Int} (q : Nat → Nat) (S : Sta) (hI : InvW N S) : CtI l yX3_seenRows cX3_seenRows 1 .int (0, 0) K [.ref (q 0)] (wM K q S) (M_seenRows S) (wM K q S) := by
  refine ctI_of (by decide) (Nat.le_of_ble_eq_true rfl) rfl ?_
  intro x X hD hR
  have hD : ∀ S9 : Sta, va_D (cx_A x) (wM K q S9) := fun S9 => va_D_same hD rfl
  have hs1 := InvM_s1 hI
  have hs2 := InvM_s2 hI
  have hs3 := InvM_s3 hI
  have hs4 := InvM_s4 hI
  refine gx_aload_n X dX3_seenRows_0 rfl 0 rfl ?_
  refine gM_g3 (v := (S.1 3)) X rfl dX3_seenRows_1 ?_
  refine gx_aload_n X dX3_seenRows_4 rfl 0 rfl ?_
  refine gM_g2 (v := (S.1 2)) X rfl dX3_seenRows_5 ?_
  have J22 : ∀ (m22 : Int), m22 = (if (S.1 2) ≤ (S.1 3) then (S.1 2) else (S.1 3)) → GG l (rmK (0, 0)) K x (wM K q S) 22 [(0, .ref (q 0))] [.int (iI m22)] := by
    intro m22 e_m22
    exact gx_iret hR (e_m22.symm) rfl dX3_seenRows_22
  refine gx_icmp_ge (tgt := 18) X dX3_seenRows_8 (by decide) (by omega) (fun hc8 => ?_) (fun hc8 => ?_)
  · refine gx_aload_n X dX3_seenRows_18 rfl 0 rfl ?_
    refine gM_g2 (v := (S.1 2)) X rfl dX3_seenRows_19 ?_
    refine gx_sub [0] rfl ?_
    exact J22 (S.1 2) ((if_pos hc8).symm) 
  · refine gx_aload_n X dX3_seenRows_11 rfl 0 rfl ?_
    refine gM_g3 (v := (S.1 3)) X rfl dX3_seenRows_12 ?_
    refine gx_goto (tgt := 22) X dX3_seenRows_15 (by decide) ?_
    refine gx_sub [0] rfl ?_
    exact J22 (S.1 3) ((if_neg hc8).symm) 
def M_isLike_l5 (S : Sta) (p : Int) (r : Int) : Nat → Int → Int → Int
  | 0, v3, v4 => v3
  | fu + 1, v3, v4 => if (S.1 1) ≤ v4 then v3 else (fun (m40 : Int) => M_isLike_l5 S p r fu m40 (v4 + 1)) (if v3 = 0 then 0 else if (M_colourOf S p v4) = (M_colourOf S r v4) then 1 else 0)
theorem M_isLike_l5_s (S : Sta) (p : Int) (r : Int) (fu : Nat) (v3 : Int) (v4 : Int) : M_isLike_l5 S p r (fu + 1) v3 v4 = (if (S.1 1) ≤ v4 then v3 else (fun (m40 : Int) => M_isLike_l5 S p r fu m40 (v4 + 1)) (if v3 = 0 then 0 else if (M_colourOf S p v4) = (M_colourOf S r v4) then 1 else 0)) := rfl
def M_isLike (S : Sta) (p : Int) (r : Int) : Int := (M_isLike_l5 S p r (17) 1 0)
theorem M_isLike_l5_01 (S : Sta) (p r : Int) : ∀ (n : Nat) (v3 v4 : Int), (v3 = 0 ∨ v3 = 1) → (M_isLike_l5 S p r n v3 v4 = 0 ∨ M_isLike_l5 S p r n v3 v4 = 1) := by
  intro n
  induction n with
  | zero => intro v3 v4 h; exact h
  | succ n ih =>
    intro v3 v4 h
    rw [M_isLike_l5_s]
    split
    · exact h
    · refine ih _ _ ?_
      omega
theorem M_isLike_01 (S : Sta) (p r : Int) : M_isLike S p r = 0 ∨ M_isLike S p r = 1 := M_isLike_l5_01 S p r 17 1 0 (Or.inr rfl)
set_option maxRecDepth 100000 in
theorem c_M_isLike {l : Launch} {K : KK} {N : Int} (q : Nat → Nat) (S : Sta) (p : Int) (r : Int) (hI : InvW N S) (hp1 : 0 ≤ p ∧ p < 60) (hp2 : 0 ≤ r ∧ r < 60) : CtI l yX3_isLike cX3_isLike 5 .boolean (1, 22) K [.ref (q 0), .int (iI p), .int (iI r)] (wM K q S) (M_isLike S p r) (wM K q S) := by
  refine ctI_of (by decide) (Nat.le_of_ble_eq_true rfl) (narrow_bool (M_isLike_01 S p r)) ?_
  intro x X hD hR
  have hD : ∀ S9 : Sta, va_D (cx_A x) (wM K q S9) := fun S9 => va_D_same hD rfl
  have hs1 := InvM_s1 hI
  have hs2 := InvM_s2 hI
  have hs3 := InvM_s3 hI
  have hs4 := InvM_s4 hI
  refine gx_iconst (z := 1) X dX3_isLike_0 rfl ?_
  refine gx_istore_n X dX3_isLike_1 rfl (by decide) rfl ?_
  refine gx_iconst (z := 0) X dX3_isLike_2 rfl ?_
  refine gx_istore X dX3_isLike_3 (by decide) rfl ?_
  have L5 : ∀ (fu : Nat) (v3 : Int) (v4 : Int), (0 ≤ v4) → (v4 ≤ (S.1 1)) → (0 ≤ v3 ∧ v3 ≤ 1) → ((S.1 1) - v4) < (fu : Int) → (∀ z5 : Int, M_isLike_l5 S p r fu v3 v4 = z5 → True → GG l (rmK (1, 22)) K x (wM K q S) 47 [(0, .ref (q 0)), (1, .int (iI p)), (2, .int (iI r)), (3, .int (iI z5))] []) → GG l (rmK (1, 22)) K x (wM K q S) 5 [(0, .ref (q 0)), (1, .int (iI p)), (2, .int (iI r)), (3, .int (iI v3)), (4, .int (iI v4))] [] := by
    intro fu
    induction fu with
    | zero => intro v3 v4 hi5_0 hi5_1 hi5_2 hm5 K5; exact absurd hm5 (by omega)
    | succ fu ih =>
      intro v3 v4 hi5_0 hi5_1 hi5_2 hm5 K5
      refine gx_iload X dX3_isLike_5 4 rfl ?_
      refine gx_aload_n X dX3_isLike_7 rfl 0 rfl ?_
      refine gM_g1 (v := (S.1 1)) X rfl dX3_isLike_8 ?_
      refine gx_icmp_ge (tgt := 47) X dX3_isLike_11 (by decide) (by omega) (fun hc11 => ?_) (fun hc11 => ?_)
      · refine gx_sub [0, 1, 2, 3] rfl ?_
        exact K5 v3 ((M_isLike_l5_s S p r fu v3 v4).trans (if_pos hc11)) trivial
      · refine gx_iload_n X dX3_isLike_14 rfl 3 rfl ?_
        have J40 : ∀ (m40 : Int), m40 = (if v3 = 0 then 0 else if (M_colourOf S p v4) = (M_colourOf S r v4) then 1 else 0) → GG l (rmK (1, 22)) K x (wM K q S) 40 [(0, .ref (q 0)), (1, .int (iI p)), (2, .int (iI r)), (3, .int (iI v3)), (4, .int (iI v4))] [.int (iI m40)] := by
          intro m40 e_m40
          refine gx_istore_n X dX3_isLike_40 rfl (by decide) rfl ?_
          refine gx_iinc X dX3_isLike_41 4 rfl (by decide) rfl ?_
          refine gx_goto (tgt := 5) X dX3_isLike_44 (by decide) ?_
          refine gx_sub [2, 3, 4, 1, 0] rfl ?_
          subst e_m40
          exact ih _ _ (by omega) (by omega) (by omega) (by omega) (fun z e hx => K5 z ((M_isLike_l5_s S p r fu v3 v4).trans ((if_neg hc11).trans e)) hx)
        refine gx_if_eq (tgt := 39) X dX3_isLike_15 (by decide) (by omega) (fun hc15 => ?_) (fun hc15 => ?_)
        · refine gx_iconst (z := 0) X dX3_isLike_39 rfl ?_
          refine gx_sub [0, 1, 2, 3, 4] rfl ?_
          exact J40 0 ((if_pos hc15).symm) 
        · refine gx_aload_n X dX3_isLike_18 rfl 0 rfl ?_
          refine gx_iload_n X dX3_isLike_19 rfl 1 rfl ?_
          refine gx_iload X dX3_isLike_20 4 rfl ?_
          refine gx_callVI (As := [.int (iI p), .int (iI v4)]) (rest := []) X (hD _) lk_M_124 (ci := 3) rfl rfl 0 rfl (c_M_colourOf q S p v4 hI (by omega) (by omega)) jn_all rfl ⟨by decide, by decide⟩ (Nat.le_of_ble_eq_true rfl) dX3_isLike_22 ?_
          have hp22_0 := M_colourOf_rg S p v4 hI (by omega) (by omega)
          refine gx_aload_n X dX3_isLike_25 rfl 0 rfl ?_
          refine gx_iload_n X dX3_isLike_26 rfl 2 rfl ?_
          refine gx_iload X dX3_isLike_27 4 rfl ?_
          refine gx_callVI (As := [.int (iI r), .int (iI v4)]) (rest := [.int (iI (M_colourOf S p v4))]) X (hD _) lk_M_124 (ci := 3) rfl rfl 0 rfl (c_M_colourOf q S r v4 hI (by omega) (by omega)) jn_all rfl ⟨by decide, by decide⟩ (Nat.le_of_ble_eq_true rfl) dX3_isLike_29 ?_
          have hp29_0 := M_colourOf_rg S r v4 hI (by omega) (by omega)
          refine gx_icmp_ne (tgt := 39) X dX3_isLike_32 (by decide) (by omega) (fun hc32 => ?_) (fun hc32 => ?_)
          · refine gx_iconst (z := 0) X dX3_isLike_39 rfl ?_
            refine gx_sub [0, 1, 2, 3, 4] rfl ?_
            exact J40 0 (((if_neg hc15).trans (if_neg hc32)).symm) 
          · refine gx_iconst (z := 1) X dX3_isLike_35 rfl ?_
            refine gx_goto (tgt := 40) X dX3_isLike_36 (by decide) ?_
            refine gx_sub [0, 1, 2, 3, 4] rfl ?_
            exact J40 1 (((if_neg hc15).trans (if_pos hc32)).symm) 
  refine gx_sub [2, 3, 4, 1, 0] rfl ?_
  refine L5 (17) 1 0 (by omega) (by omega) (by omega) (by omega) (fun z5 e5 hx5 => ?_)
  refine gx_iload_n X dX3_isLike_47 rfl 3 rfl ?_
  exact gx_iret hR (e5) rfl dX3_isLike_48
def M_repeat_l19 (S : Sta) (v1 : Int) : Nat → Int → Int → Int
  | 0, v2, v3 => v2
  | fu + 1, v2, v3 => if (S.1 2) ≤ v3 then v2 else (fun (m47 : Int) => M_repeat_l19 S v1 fu m47 (v3 + 1)) (if v2 = 0 then 0 else if (M_isLike S v3 (v3 - v1)) = 0 then 0 else 1)
theorem M_repeat_l19_s (S : Sta) (v1 : Int) (fu : Nat) (v2 : Int) (v3 : Int) : M_repeat_l19 S v1 (fu + 1) v2 v3 = (if (S.1 2) ≤ v3 then v2 else (fun (m47 : Int) => M_repeat_l19 S v1 fu m47 (v3 + 1)) (if v2 = 0 then 0 else if (M_isLike S v3 (v3 - v1)) = 0 then 0 else 1)) := rfl
def M_repeat_l7 (S : Sta) : Nat → Int → (Int) ⊕ (Unit)
  | 0, v1 => .inr ()
  | fu + 1, v1 => if (S.1 2) < v1 then .inr () else (fun (z19 : Int) => if z19 = 0 then M_repeat_l7 S fu (v1 + 1) else .inl v1) (M_repeat_l19 S v1 (61) 1 v1)
theorem M_repeat_l7_s (S : Sta) (fu : Nat) (v1 : Int) : M_repeat_l7 S (fu + 1) v1 = (if (S.1 2) < v1 then .inr () else (fun (z19 : Int) => if z19 = 0 then M_repeat_l7 S fu (v1 + 1) else .inl v1) (M_repeat_l19 S v1 (61) 1 v1)) := rfl
def M_repeat_r7  : Int := 0
def M_repeat (S : Sta) : Int := Sum.elim id (fun z7 => M_repeat_r7 ) (M_repeat_l7 S (62) 1)
set_option maxRecDepth 100000 in
theorem c_M_repeat {l : Launch} {K : KK} {N : Int} (q : Nat → Nat) (S : Sta) (hI : InvW N S) : CtI l yX3_repeat cX3_repeat 4 .int (2, 46) K [.ref (q 0)] (wM K q S) (M_repeat S) (wM K q S) := by
  refine ctI_of (by decide) (Nat.le_of_ble_eq_true rfl) rfl ?_
  intro x X hD hR
  have hD : ∀ S9 : Sta, va_D (cx_A x) (wM K q S9) := fun S9 => va_D_same hD rfl
  have hs1 := InvM_s1 hI
  have hs2 := InvM_s2 hI
  have hs3 := InvM_s3 hI
  have hs4 := InvM_s4 hI
  refine gx_aload_n X dX3_repeat_0 rfl 0 rfl ?_
  refine gx_iconst (z := 0) X dX3_repeat_1 rfl ?_
  refine gM_t0 X (hD _) (InvM_t hI) dX3_repeat_2 ?_
  refine gx_iconst (z := 1) X dX3_repeat_5 rfl ?_
  refine gx_istore_n X dX3_repeat_6 rfl (by decide) rfl ?_
  have L7 : ∀ (fu : Nat) (v1 : Int), (1 ≤ v1) → (v1 ≤ ((S.1 2) + 1)) → (((S.1 2) + 1) - v1) < (fu : Int) → (∀ z7 : Unit, M_repeat_l7 S fu v1 = .inr z7 → True → GG l (rmK (2, 46)) K x (wM K q S) 66 [(0, .ref (q 0))] []) → (∀ zz : Int, M_repeat_l7 S fu v1 = .inl zz → M_repeat S = zz) → GG l (rmK (2, 46)) K x (wM K q S) 7 [(0, .ref (q 0)), (1, .int (iI v1))] [] := by
    intro fu
    induction fu with
    | zero => intro v1 hi7_0 hi7_1 hm7 K7 KR7; exact absurd hm7 (by omega)
    | succ fu ih =>
      intro v1 hi7_0 hi7_1 hm7 K7 KR7
      refine gx_iload_n X dX3_repeat_7 rfl 1 rfl ?_
      refine gx_aload_n X dX3_repeat_8 rfl 0 rfl ?_
      refine gM_g2 (v := (S.1 2)) X rfl dX3_repeat_9 ?_
      refine gx_icmp_gt (tgt := 66) X dX3_repeat_12 (by decide) (by omega) (fun hc12 => ?_) (fun hc12 => ?_)
      · refine gx_sub [0] rfl ?_
        exact K7 () ((M_repeat_l7_s S fu v1).trans (if_pos hc12)) trivial
      · refine gx_iconst (z := 1) X dX3_repeat_15 rfl ?_
        refine gx_istore_n X dX3_repeat_16 rfl (by decide) rfl ?_
        refine gx_iload_n X dX3_repeat_17 rfl 2 rfl ?_
        refine gx_istore_n X dX3_repeat_18 rfl (by decide) rfl ?_
        have L19 : ∀ (fu : Nat) (v2 : Int) (v3 : Int), (v1 ≤ v3) → (v3 ≤ (S.1 2)) → (0 ≤ v2 ∧ v2 ≤ 1) → ((S.1 2) - v3) < (fu : Int) → (∀ z19 : Int, M_repeat_l19 S v1 fu v2 v3 = z19 → (0 ≤ z19 ∧ z19 ≤ 1) → GG l (rmK (2, 46)) K x (wM K q S) 54 [(0, .ref (q 0)), (1, .int (iI v1)), (2, .int (iI z19))] []) → GG l (rmK (2, 46)) K x (wM K q S) 19 [(0, .ref (q 0)), (1, .int (iI v1)), (2, .int (iI v2)), (3, .int (iI v3))] [] := by
          intro fu
          induction fu with
          | zero => intro v2 v3 hi19_0 hi19_1 hi19_2 hm19 K19; exact absurd hm19 (by omega)
          | succ fu ih =>
            intro v2 v3 hi19_0 hi19_1 hi19_2 hm19 K19
            refine gx_iload_n X dX3_repeat_19 rfl 3 rfl ?_
            refine gx_aload_n X dX3_repeat_20 rfl 0 rfl ?_
            refine gM_g2 (v := (S.1 2)) X rfl dX3_repeat_21 ?_
            refine gx_icmp_ge (tgt := 54) X dX3_repeat_24 (by decide) (by omega) (fun hc24 => ?_) (fun hc24 => ?_)
            · refine gx_sub [0, 1, 2] rfl ?_
              exact K19 v2 ((M_repeat_l19_s S v1 fu v2 v3).trans (if_pos hc24)) (by omega)
            · refine gx_iload_n X dX3_repeat_27 rfl 2 rfl ?_
              have J47 : ∀ (m47 : Int), m47 = (if v2 = 0 then 0 else if (M_isLike S v3 (v3 - v1)) = 0 then 0 else 1) → GG l (rmK (2, 46)) K x (wM K q S) 47 [(0, .ref (q 0)), (1, .int (iI v1)), (2, .int (iI v2)), (3, .int (iI v3))] [.int (iI m47)] := by
                intro m47 e_m47
                refine gx_istore_n X dX3_repeat_47 rfl (by decide) rfl ?_
                refine gx_iinc X dX3_repeat_48 3 rfl (by decide) rfl ?_
                refine gx_goto (tgt := 19) X dX3_repeat_51 (by decide) ?_
                refine gx_sub [2, 3, 1, 0] rfl ?_
                subst e_m47
                exact ih _ _ (by omega) (by omega) (by omega) (by omega) (fun z e hx => K19 z ((M_repeat_l19_s S v1 fu v2 v3).trans ((if_neg hc24).trans e)) hx)
              refine gx_if_eq (tgt := 46) X dX3_repeat_28 (by decide) (by omega) (fun hc28 => ?_) (fun hc28 => ?_)
              · refine gx_iconst (z := 0) X dX3_repeat_46 rfl ?_
                refine gx_sub [0, 1, 2, 3] rfl ?_
                exact J47 0 ((if_pos hc28).symm) 
              · refine gx_aload_n X dX3_repeat_31 rfl 0 rfl ?_
                refine gx_iload_n X dX3_repeat_32 rfl 3 rfl ?_
                refine gx_iload_n X dX3_repeat_33 rfl 3 rfl ?_
                refine gx_iload_n X dX3_repeat_34 rfl 1 rfl ?_
                refine gx_isub X dX3_repeat_35 ?_
                refine gx_callVI (As := [.int (iI v3), .int (iI (v3 - v1))]) (rest := []) X (hD _) lk_M_127 (ci := 3) rfl rfl 0 rfl (c_M_isLike q S v3 (v3 - v1) hI (by omega) (by omega)) jn_all rfl ⟨by decide, by decide⟩ (Nat.le_of_ble_eq_true rfl) dX3_repeat_36 ?_
                have hq36_0 := M_isLike_01 S v3 (v3 - v1)
                refine gx_if_eq (tgt := 46) X dX3_repeat_39 (by decide) (by omega) (fun hc39 => ?_) (fun hc39 => ?_)
                · refine gx_iconst (z := 0) X dX3_repeat_46 rfl ?_
                  refine gx_sub [0, 1, 2, 3] rfl ?_
                  exact J47 0 (((if_neg hc28).trans (if_pos hc39)).symm) 
                · refine gx_iconst (z := 1) X dX3_repeat_42 rfl ?_
                  refine gx_goto (tgt := 47) X dX3_repeat_43 (by decide) ?_
                  refine gx_sub [0, 1, 2, 3] rfl ?_
                  exact J47 1 (((if_neg hc28).trans (if_neg hc39)).symm) 
        refine gx_sub [2, 3, 1, 0] rfl ?_
        refine L19 (61) 1 v1 (by omega) (by omega) (by omega) (by omega) (fun z19 e19 hx19 => ?_)
        refine gx_iload_n X dX3_repeat_54 rfl 2 rfl ?_
        refine gx_if_eq (tgt := 60) X dX3_repeat_55 (by decide) (by omega) (fun hc55 => ?_) (fun hc55 => ?_)
        · refine gx_iinc X dX3_repeat_60 1 rfl (by decide) rfl ?_
          refine gx_goto (tgt := 7) X dX3_repeat_63 (by decide) ?_
          refine gx_sub [1, 0] rfl ?_
          subst e19
          exact ih _ (by omega) (by omega) (by omega) (fun z e hx => K7 z ((M_repeat_l7_s S fu v1).trans (((if_neg hc12).trans (if_pos hc55)).trans e)) hx) (fun z e => KR7 z ((M_repeat_l7_s S fu v1).trans (((if_neg hc12).trans (if_pos hc55)).trans e)))
        · refine gx_iload_n X dX3_repeat_58 rfl 1 rfl ?_
          subst e19
          exact gx_iret hR (KR7 _ ((M_repeat_l7_s S fu v1).trans ((if_neg hc12).trans (if_neg hc55)))) rfl dX3_repeat_59
  refine gx_sub [1, 0] rfl ?_
  refine L7 (62) 1 (by omega) (by omega) (by omega) (fun z7 e7 hx7 => ?_) (fun z e => congrArg (Sum.elim id (fun z7 => M_repeat_r7 )) e)
  refine gx_iconst (z := 0) X dX3_repeat_66 rfl ?_
  exact gx_iret hR (congrArg (Sum.elim id (fun z7 => M_repeat_r7 )) e7) rfl dX3_repeat_67
def M_is_l33 (S : Sta) (w : Int) (v3 : Int) : Nat → Int → Int → Int
  | 0, v2', v4 => v2'
  | fu + 1, v2', v4 => if (S.1 1) ≤ v4 then v2' else (fun (m89 : Int) => M_is_l33 S w v3 fu m89 (v4 + 1)) (if v2' = 0 then 0 else if (M_colourOf S v3 v4) = ((if w = 0 then (M_colourOf S v3 (((S.1 1) - 1) - v4)) else (M_behindOf S v3 v4)) : Int) then 1 else 0)
theorem M_is_l33_s (S : Sta) (w : Int) (v3 : Int) (fu : Nat) (v2' : Int) (v4 : Int) : M_is_l33 S w v3 (fu + 1) v2' v4 = (if (S.1 1) ≤ v4 then v2' else (fun (m89 : Int) => M_is_l33 S w v3 fu m89 (v4 + 1)) (if v2' = 0 then 0 else if (M_colourOf S v3 v4) = ((if w = 0 then (M_colourOf S v3 (((S.1 1) - 1) - v4)) else (M_behindOf S v3 v4)) : Int) then 1 else 0)) := rfl
def M_is_l22 (S : Sta) (w : Int) : Nat → Int → Int → Int
  | 0, v2, v3 => v2
  | fu + 1, v2, v3 => if (S.1 2) ≤ v3 then v2 else (fun (z33 : Int) => M_is_l22 S w fu z33 (v3 + 1)) (M_is_l33 S w v3 (17) v2 0)
theorem M_is_l22_s (S : Sta) (w : Int) (fu : Nat) (v2 : Int) (v3 : Int) : M_is_l22 S w (fu + 1) v2 v3 = (if (S.1 2) ≤ v3 then v2 else (fun (z33 : Int) => M_is_l22 S w fu z33 (v3 + 1)) (M_is_l33 S w v3 (17) v2 0)) := rfl
def M_is_r22 (z22 : Int) : Int := if z22 = 0 then 0 else 1
def M_is (S : Sta) (w : Int) : Int := if (M_in w 0 1) = 0 then (-2) else (fun z22 => M_is_r22 z22) (M_is_l22 S w (61) 1 0)
set_option maxRecDepth 100000 in
theorem c_M_is {l : Launch} {K : KK} {N : Int} (q : Nat → Nat) (S : Sta) (w : Int) (hI : InvW N S) (hp1 : ok32 w) : CtI l yX3_is cX3_is 5 .int (1, 25) K [.ref (q 0), .int (iI w)] (wM K q S) (M_is S w) (wM K q S) := by
  refine ctI_of (by decide) (Nat.le_of_ble_eq_true rfl) rfl ?_
  intro x X hD hR
  have hD : ∀ S9 : Sta, va_D (cx_A x) (wM K q S9) := fun S9 => va_D_same hD rfl
  have hs1 := InvM_s1 hI
  have hs2 := InvM_s2 hI
  have hs3 := InvM_s3 hI
  have hs4 := InvM_s4 hI
  refine gx_aload_n X dX3_is_0 rfl 0 rfl ?_
  refine gx_iconst (z := 0) X dX3_is_1 rfl ?_
  refine gM_t0 X (hD _) (InvM_t hI) dX3_is_2 ?_
  refine gx_iload_n X dX3_is_5 rfl 1 rfl ?_
  refine gx_i2l X dX3_is_6 (by omega) ?_
  refine gx_lconst (v := lI 0) X dX3_is_7 rfl ?_
  refine gx_lconst (v := lI 1) X dX3_is_8 rfl ?_
  refine gx_callSI (As := [.long (lI w), .long (lI 0), .long (lI 1)]) (rest := []) X (hD _) lk_M_88 (c_M_in w 0 1 (by omega) (by omega) (by omega)) jn_nil rfl ⟨by decide, by decide⟩ (Nat.le_of_ble_eq_true rfl) dX3_is_9 ?_
  have hq9_0 := M_in_sp w 0 1
  refine gx_if_ne (tgt := 18) X dX3_is_12 (by decide) (by omega) (fun hc12 => ?_) (fun hc12 => ?_)
  · refine gx_iconst (z := 1) X dX3_is_18 rfl ?_
    refine gx_istore_n X dX3_is_19 rfl (by decide) rfl ?_
    refine gx_iconst (z := 0) X dX3_is_20 rfl ?_
    refine gx_istore_n X dX3_is_21 rfl (by decide) rfl ?_
    have L22 : ∀ (fu : Nat) (v2 : Int) (v3 : Int), (0 ≤ v3) → (v3 ≤ (S.1 2)) → (0 ≤ v2 ∧ v2 ≤ 1) → ((S.1 2) - v3) < (fu : Int) → (∀ z22 : Int, M_is_l22 S w fu v2 v3 = z22 → (0 ≤ z22 ∧ z22 ≤ 1) → GG l (rmK (1, 25)) K x (wM K q S) 102 [(0, .ref (q 0)), (1, .int (iI w)), (2, .int (iI z22))] []) → GG l (rmK (1, 25)) K x (wM K q S) 22 [(0, .ref (q 0)), (1, .int (iI w)), (2, .int (iI v2)), (3, .int (iI v3))] [] := by
      intro fu
      induction fu with
      | zero => intro v2 v3 hi22_0 hi22_1 hi22_2 hm22 K22; exact absurd hm22 (by omega)
      | succ fu ih =>
        intro v2 v3 hi22_0 hi22_1 hi22_2 hm22 K22
        refine gx_iload_n X dX3_is_22 rfl 3 rfl ?_
        refine gx_aload_n X dX3_is_23 rfl 0 rfl ?_
        refine gM_g2 (v := (S.1 2)) X rfl dX3_is_24 ?_
        refine gx_icmp_ge (tgt := 102) X dX3_is_27 (by decide) (by omega) (fun hc27 => ?_) (fun hc27 => ?_)
        · refine gx_sub [0, 1, 2] rfl ?_
          exact K22 v2 ((M_is_l22_s S w fu v2 v3).trans (if_pos hc27)) (by omega)
        · refine gx_iconst (z := 0) X dX3_is_30 rfl ?_
          refine gx_istore X dX3_is_31 (by decide) rfl ?_
          have L33 : ∀ (fu : Nat) (v2' : Int) (v4 : Int), (0 ≤ v4) → (v4 ≤ (S.1 1)) → (0 ≤ v2' ∧ v2' ≤ 1) → ((S.1 1) - v4) < (fu : Int) → (∀ z33 : Int, M_is_l33 S w v3 fu v2' v4 = z33 → (0 ≤ z33 ∧ z33 ≤ 1) → GG l (rmK (1, 25)) K x (wM K q S) 96 [(0, .ref (q 0)), (1, .int (iI w)), (2, .int (iI z33)), (3, .int (iI v3))] []) → GG l (rmK (1, 25)) K x (wM K q S) 33 [(0, .ref (q 0)), (1, .int (iI w)), (2, .int (iI v2')), (3, .int (iI v3)), (4, .int (iI v4))] [] := by
            intro fu
            induction fu with
            | zero => intro v2' v4 hi33_0 hi33_1 hi33_2 hm33 K33; exact absurd hm33 (by omega)
            | succ fu ih =>
              intro v2' v4 hi33_0 hi33_1 hi33_2 hm33 K33
              refine gx_iload X dX3_is_33 4 rfl ?_
              refine gx_aload_n X dX3_is_35 rfl 0 rfl ?_
              refine gM_g1 (v := (S.1 1)) X rfl dX3_is_36 ?_
              refine gx_icmp_ge (tgt := 96) X dX3_is_39 (by decide) (by omega) (fun hc39 => ?_) (fun hc39 => ?_)
              · refine gx_sub [0, 1, 2, 3] rfl ?_
                exact K33 v2' ((M_is_l33_s S w v3 fu v2' v4).trans (if_pos hc39)) (by omega)
              · refine gx_iload_n X dX3_is_42 rfl 2 rfl ?_
                have J89 : ∀ (m89 : Int), m89 = (if v2' = 0 then 0 else if (M_colourOf S v3 v4) = ((if w = 0 then (M_colourOf S v3 (((S.1 1) - 1) - v4)) else (M_behindOf S v3 v4)) : Int) then 1 else 0) → GG l (rmK (1, 25)) K x (wM K q S) 89 [(0, .ref (q 0)), (1, .int (iI w)), (2, .int (iI v2')), (3, .int (iI v3)), (4, .int (iI v4))] [.int (iI m89)] := by
                  intro m89 e_m89
                  refine gx_istore_n X dX3_is_89 rfl (by decide) rfl ?_
                  refine gx_iinc X dX3_is_90 4 rfl (by decide) rfl ?_
                  refine gx_goto (tgt := 33) X dX3_is_93 (by decide) ?_
                  refine gx_sub [2, 3, 1, 4, 0] rfl ?_
                  subst e_m89
                  exact ih _ _ (by omega) (by omega) (by omega) (by omega) (fun z e hx => K33 z ((M_is_l33_s S w v3 fu v2' v4).trans ((if_neg hc39).trans e)) hx)
                refine gx_if_eq (tgt := 88) X dX3_is_43 (by decide) (by omega) (fun hc43 => ?_) (fun hc43 => ?_)
                · refine gx_iconst (z := 0) X dX3_is_88 rfl ?_
                  refine gx_sub [0, 1, 2, 3, 4] rfl ?_
                  exact J89 0 ((if_pos hc43).symm) 
                · refine gx_aload_n X dX3_is_46 rfl 0 rfl ?_
                  refine gx_iload_n X dX3_is_47 rfl 3 rfl ?_
                  refine gx_iload X dX3_is_48 4 rfl ?_
                  refine gx_callVI (As := [.int (iI v3), .int (iI v4)]) (rest := []) X (hD _) lk_M_124 (ci := 3) rfl rfl 0 rfl (c_M_colourOf q S v3 v4 hI (by omega) (by omega)) jn_all rfl ⟨by decide, by decide⟩ (Nat.le_of_ble_eq_true rfl) dX3_is_50 ?_
                  have hp50_0 := M_colourOf_rg S v3 v4 hI (by omega) (by omega)
                  refine gx_iload_n X dX3_is_53 rfl 1 rfl ?_
                  have J81 : ∀ (m81 : Int), m81 = (if w = 0 then (M_colourOf S v3 (((S.1 1) - 1) - v4)) else (M_behindOf S v3 v4)) → (0 ≤ m81 ∧ m81 ≤ 7) → GG l (rmK (1, 25)) K x (wM K q S) 81 [(0, .ref (q 0)), (1, .int (iI w)), (2, .int (iI v2')), (3, .int (iI v3)), (4, .int (iI v4))] [.int (iI m81), .int (iI (M_colourOf S v3 v4))] := by
                    intro m81 e_m81 hf81_0
                    refine gx_icmp_ne (tgt := 88) X dX3_is_81 (by decide) (by omega) (fun hc81 => ?_) (fun hc81 => ?_)
                    · refine gx_iconst (z := 0) X dX3_is_88 rfl ?_
                      refine gx_sub [0, 1, 2, 3, 4] rfl ?_
                      subst e_m81
                      exact J89 _ (((if_neg hc43).trans (if_neg hc81)).symm) 
                    · refine gx_iconst (z := 1) X dX3_is_84 rfl ?_
                      refine gx_goto (tgt := 89) X dX3_is_85 (by decide) ?_
                      refine gx_sub [0, 1, 2, 3, 4] rfl ?_
                      subst e_m81
                      exact J89 _ (((if_neg hc43).trans (if_pos hc81)).symm) 
                  refine gx_if_ne (tgt := 74) X dX3_is_54 (by decide) (by omega) (fun hc54 => ?_) (fun hc54 => ?_)
                  · refine gx_aload_n X dX3_is_74 rfl 0 rfl ?_
                    refine gx_iload_n X dX3_is_75 rfl 3 rfl ?_
                    refine gx_iload X dX3_is_76 4 rfl ?_
                    refine gx_callVI (As := [.int (iI v3), .int (iI v4)]) (rest := [.int (iI (M_colourOf S v3 v4))]) X (hD _) lk_M_120 (ci := 3) rfl rfl 0 rfl (c_M_behindOf q S v3 v4 hI (by omega) (by omega)) jn_all rfl ⟨by decide, by decide⟩ (Nat.le_of_ble_eq_true rfl) dX3_is_78 ?_
                    have hp78_0 := M_behindOf_rg S v3 v4 hI (by omega) (by omega)
                    refine gx_sub [0, 1, 2, 3, 4] rfl ?_
                    exact J81 (M_behindOf S v3 v4) ((if_neg hc54).symm) (by omega)
                  · refine gx_aload_n X dX3_is_57 rfl 0 rfl ?_
                    refine gx_iload_n X dX3_is_58 rfl 3 rfl ?_
                    refine gx_aload_n X dX3_is_59 rfl 0 rfl ?_
                    refine gM_g1 (v := (S.1 1)) X rfl dX3_is_60 ?_
                    refine gx_iconst (z := 1) X dX3_is_63 rfl ?_
                    refine gx_isub X dX3_is_64 ?_
                    refine gx_iload X dX3_is_65 4 rfl ?_
                    refine gx_isub X dX3_is_67 ?_
                    refine gx_callVI (As := [.int (iI v3), .int (iI (((S.1 1) - 1) - v4))]) (rest := [.int (iI (M_colourOf S v3 v4))]) X (hD _) lk_M_124 (ci := 3) rfl rfl 0 rfl (c_M_colourOf q S v3 (((S.1 1) - 1) - v4) hI (by omega) (by omega)) jn_all rfl ⟨by decide, by decide⟩ (Nat.le_of_ble_eq_true rfl) dX3_is_68 ?_
                    have hp68_0 := M_colourOf_rg S v3 (((S.1 1) - 1) - v4) hI (by omega) (by omega)
                    refine gx_goto (tgt := 81) X dX3_is_71 (by decide) ?_
                    refine gx_sub [0, 1, 2, 3, 4] rfl ?_
                    exact J81 (M_colourOf S v3 (((S.1 1) - 1) - v4)) ((if_pos hc54).symm) (by omega)
          refine gx_sub [1, 2, 3, 4, 0] rfl ?_
          refine L33 (17) v2 0 (by omega) (by omega) (by omega) (by omega) (fun z33 e33 hx33 => ?_)
          refine gx_iinc X dX3_is_96 3 rfl (by decide) rfl ?_
          refine gx_goto (tgt := 22) X dX3_is_99 (by decide) ?_
          refine gx_sub [1, 2, 3, 0] rfl ?_
          subst e33
          exact ih _ _ (by omega) (by omega) (by omega) (by omega) (fun z e hx => K22 z ((M_is_l22_s S w fu v2 v3).trans ((if_neg hc27).trans e)) hx)
    refine gx_sub [2, 3, 1, 0] rfl ?_
    refine L22 (61) 1 0 (by omega) (by omega) (by omega) (by omega) (fun z22 e22 hx22 => ?_)
    refine gx_iload_n X dX3_is_102 rfl 2 rfl ?_
    have J111 : ∀ (m111 : Int), m111 = (if z22 = 0 then 0 else 1) → GG l (rmK (1, 25)) K x (wM K q S) 111 [(0, .ref (q 0)), (1, .int (iI w)), (2, .int (iI z22))] [.int (iI m111)] := by
      intro m111 e_m111
      exact gx_iret hR ((if_neg hc12).trans ((congrArg (fun z22 => M_is_r22 z22) e22).trans (e_m111.symm))) rfl dX3_is_111
    refine gx_if_eq (tgt := 110) X dX3_is_103 (by decide) (by omega) (fun hc103 => ?_) (fun hc103 => ?_)
    · refine gx_iconst (z := 0) X dX3_is_110 rfl ?_
      refine gx_sub [0, 1, 2] rfl ?_
      exact J111 0 ((if_pos hc103).symm) 
    · refine gx_iconst (z := 1) X dX3_is_106 rfl ?_
      refine gx_goto (tgt := 111) X dX3_is_107 (by decide) ?_
      refine gx_sub [0, 1, 2] rfl ?_
      exact J111 1 ((if_neg hc103).symm) 
  · refine gx_bipush (z := (-2)) X dX3_is_15 (by decide) ?_
    exact gx_iret hR (if_pos hc12) rfl dX3_is_17
def M_rows_l22 (S : Sta) (v2 : Int) : Nat → Int → Int → Int
  | 0, v3, v4 => v3
  | fu + 1, v3, v4 => if v2 ≤ v4 then v3 else (fun (m47 : Int) => M_rows_l22 S v2 fu m47 (v4 + 1)) (if v3 = 0 then 0 else if (M_isLike S v2 v4) = 0 then 1 else 0)
theorem M_rows_l22_s (S : Sta) (v2 : Int) (fu : Nat) (v3 : Int) (v4 : Int) : M_rows_l22 S v2 (fu + 1) v3 v4 = (if v2 ≤ v4 then v3 else (fun (m47 : Int) => M_rows_l22 S v2 fu m47 (v4 + 1)) (if v3 = 0 then 0 else if (M_isLike S v2 v4) = 0 then 1 else 0)) := rfl
def M_rows_l9 (S : Sta) : Nat → Int → Int → Int
  | 0, v1, v2 => v1
  | fu + 1, v1, v2 => if (S.1 2) ≤ v2 then v1 else (fun (z22 : Int) => (fun (m64 : Int) => M_rows_l9 S fu (v1 + m64) (v2 + 1)) (if z22 = 0 then 0 else 1)) (M_rows_l22 S v2 (61) 1 0)
theorem M_rows_l9_s (S : Sta) (fu : Nat) (v1 : Int) (v2 : Int) : M_rows_l9 S (fu + 1) v1 v2 = (if (S.1 2) ≤ v2 then v1 else (fun (z22 : Int) => (fun (m64 : Int) => M_rows_l9 S fu (v1 + m64) (v2 + 1)) (if z22 = 0 then 0 else 1)) (M_rows_l22 S v2 (61) 1 0)) := rfl
def M_rows (S : Sta) : Int := (M_rows_l9 S (61) 0 0)
set_option maxRecDepth 100000 in
theorem c_M_rows {l : Launch} {K : KK} {N : Int} (q : Nat → Nat) (S : Sta) (hI : InvW N S) : CtI l yX3_rows cX3_rows 5 .int (2, 46) K [.ref (q 0)] (wM K q S) (M_rows S) (wM K q S) := by
  refine ctI_of (by decide) (Nat.le_of_ble_eq_true rfl) rfl ?_
  intro x X hD hR
  have hD : ∀ S9 : Sta, va_D (cx_A x) (wM K q S9) := fun S9 => va_D_same hD rfl
  have hs1 := InvM_s1 hI
  have hs2 := InvM_s2 hI
  have hs3 := InvM_s3 hI
  have hs4 := InvM_s4 hI
  refine gx_aload_n X dX3_rows_0 rfl 0 rfl ?_
  refine gx_iconst (z := 0) X dX3_rows_1 rfl ?_
  refine gM_t0 X (hD _) (InvM_t hI) dX3_rows_2 ?_
  refine gx_iconst (z := 0) X dX3_rows_5 rfl ?_
  refine gx_istore_n X dX3_rows_6 rfl (by decide) rfl ?_
  refine gx_iconst (z := 0) X dX3_rows_7 rfl ?_
  refine gx_istore_n X dX3_rows_8 rfl (by decide) rfl ?_
  have L9 : ∀ (fu : Nat) (v1 : Int) (v2 : Int), (0 ≤ v2) → (v2 ≤ (S.1 2)) → ((S.1 2) - v2) < (fu : Int) → (∀ z9 : Int, M_rows_l9 S fu v1 v2 = z9 → True → GG l (rmK (2, 46)) K x (wM K q S) 72 [(0, .ref (q 0)), (1, .int (iI z9))] []) → GG l (rmK (2, 46)) K x (wM K q S) 9 [(0, .ref (q 0)), (1, .int (iI v1)), (2, .int (iI v2))] [] := by
    intro fu
    induction fu with
    | zero => intro v1 v2 hi9_0 hi9_1 hm9 K9; exact absurd hm9 (by omega)
    | succ fu ih =>
      intro v1 v2 hi9_0 hi9_1 hm9 K9
      refine gx_iload_n X dX3_rows_9 rfl 2 rfl ?_
      refine gx_aload_n X dX3_rows_10 rfl 0 rfl ?_
      refine gM_g2 (v := (S.1 2)) X rfl dX3_rows_11 ?_
      refine gx_icmp_ge (tgt := 72) X dX3_rows_14 (by decide) (by omega) (fun hc14 => ?_) (fun hc14 => ?_)
      · refine gx_sub [0, 1] rfl ?_
        exact K9 v1 ((M_rows_l9_s S fu v1 v2).trans (if_pos hc14)) trivial
      · refine gx_iconst (z := 1) X dX3_rows_17 rfl ?_
        refine gx_istore_n X dX3_rows_18 rfl (by decide) rfl ?_
        refine gx_iconst (z := 0) X dX3_rows_19 rfl ?_
        refine gx_istore X dX3_rows_20 (by decide) rfl ?_
        have L22 : ∀ (fu : Nat) (v3 : Int) (v4 : Int), (0 ≤ v4) → (v4 ≤ v2) → (0 ≤ v3 ∧ v3 ≤ 1) → (v2 - v4) < (fu : Int) → (∀ z22 : Int, M_rows_l22 S v2 fu v3 v4 = z22 → (0 ≤ z22 ∧ z22 ≤ 1) → GG l (rmK (2, 46)) K x (wM K q S) 54 [(0, .ref (q 0)), (1, .int (iI v1)), (2, .int (iI v2)), (3, .int (iI z22))] []) → GG l (rmK (2, 46)) K x (wM K q S) 22 [(0, .ref (q 0)), (1, .int (iI v1)), (2, .int (iI v2)), (3, .int (iI v3)), (4, .int (iI v4))] [] := by
          intro fu
          induction fu with
          | zero => intro v3 v4 hi22_0 hi22_1 hi22_2 hm22 K22; exact absurd hm22 (by omega)
          | succ fu ih =>
            intro v3 v4 hi22_0 hi22_1 hi22_2 hm22 K22
            refine gx_iload X dX3_rows_22 4 rfl ?_
            refine gx_iload_n X dX3_rows_24 rfl 2 rfl ?_
            refine gx_icmp_ge (tgt := 54) X dX3_rows_25 (by decide) (by omega) (fun hc25 => ?_) (fun hc25 => ?_)
            · refine gx_sub [0, 1, 2, 3] rfl ?_
              exact K22 v3 ((M_rows_l22_s S v2 fu v3 v4).trans (if_pos hc25)) (by omega)
            · refine gx_iload_n X dX3_rows_28 rfl 3 rfl ?_
              have J47 : ∀ (m47 : Int), m47 = (if v3 = 0 then 0 else if (M_isLike S v2 v4) = 0 then 1 else 0) → GG l (rmK (2, 46)) K x (wM K q S) 47 [(0, .ref (q 0)), (1, .int (iI v1)), (2, .int (iI v2)), (3, .int (iI v3)), (4, .int (iI v4))] [.int (iI m47)] := by
                intro m47 e_m47
                refine gx_istore_n X dX3_rows_47 rfl (by decide) rfl ?_
                refine gx_iinc X dX3_rows_48 4 rfl (by decide) rfl ?_
                refine gx_goto (tgt := 22) X dX3_rows_51 (by decide) ?_
                refine gx_sub [2, 3, 4, 1, 0] rfl ?_
                subst e_m47
                exact ih _ _ (by omega) (by omega) (by omega) (by omega) (fun z e hx => K22 z ((M_rows_l22_s S v2 fu v3 v4).trans ((if_neg hc25).trans e)) hx)
              refine gx_if_eq (tgt := 46) X dX3_rows_29 (by decide) (by omega) (fun hc29 => ?_) (fun hc29 => ?_)
              · refine gx_iconst (z := 0) X dX3_rows_46 rfl ?_
                refine gx_sub [0, 1, 2, 3, 4] rfl ?_
                exact J47 0 ((if_pos hc29).symm) 
              · refine gx_aload_n X dX3_rows_32 rfl 0 rfl ?_
                refine gx_iload_n X dX3_rows_33 rfl 2 rfl ?_
                refine gx_iload X dX3_rows_34 4 rfl ?_
                refine gx_callVI (As := [.int (iI v2), .int (iI v4)]) (rest := []) X (hD _) lk_M_127 (ci := 3) rfl rfl 0 rfl (c_M_isLike q S v2 v4 hI (by omega) (by omega)) jn_all rfl ⟨by decide, by decide⟩ (Nat.le_of_ble_eq_true rfl) dX3_rows_36 ?_
                have hq36_0 := M_isLike_01 S v2 v4
                refine gx_if_ne (tgt := 46) X dX3_rows_39 (by decide) (by omega) (fun hc39 => ?_) (fun hc39 => ?_)
                · refine gx_iconst (z := 0) X dX3_rows_46 rfl ?_
                  refine gx_sub [0, 1, 2, 3, 4] rfl ?_
                  exact J47 0 (((if_neg hc29).trans (if_neg hc39)).symm) 
                · refine gx_iconst (z := 1) X dX3_rows_42 rfl ?_
                  refine gx_goto (tgt := 47) X dX3_rows_43 (by decide) ?_
                  refine gx_sub [0, 1, 2, 3, 4] rfl ?_
                  exact J47 1 (((if_neg hc29).trans (if_pos hc39)).symm) 
        refine gx_sub [2, 3, 4, 1, 0] rfl ?_
        refine L22 (61) 1 0 (by omega) (by omega) (by omega) (by omega) (fun z22 e22 hx22 => ?_)
        refine gx_iload_n X dX3_rows_54 rfl 1 rfl ?_
        refine gx_iload_n X dX3_rows_55 rfl 3 rfl ?_
        have J64 : ∀ (m64 : Int), m64 = (if z22 = 0 then 0 else 1) → GG l (rmK (2, 46)) K x (wM K q S) 64 [(0, .ref (q 0)), (1, .int (iI v1)), (2, .int (iI v2)), (3, .int (iI z22))] [.int (iI m64), .int (iI v1)] := by
          intro m64 e_m64
          refine gx_iadd X dX3_rows_64 ?_
          refine gx_istore_n X dX3_rows_65 rfl (by decide) rfl ?_
          refine gx_iinc X dX3_rows_66 2 rfl (by decide) rfl ?_
          refine gx_goto (tgt := 9) X dX3_rows_69 (by decide) ?_
          refine gx_sub [2, 1, 0] rfl ?_
          subst e22
          subst e_m64
          exact ih _ _ (by omega) (by omega) (by omega) (fun z e hx => K9 z ((M_rows_l9_s S fu v1 v2).trans ((if_neg hc14).trans e)) hx)
        refine gx_if_eq (tgt := 63) X dX3_rows_56 (by decide) (by omega) (fun hc56 => ?_) (fun hc56 => ?_)
        · refine gx_iconst (z := 0) X dX3_rows_63 rfl ?_
          refine gx_sub [0, 1, 2, 3] rfl ?_
          exact J64 0 ((if_pos hc56).symm) 
        · refine gx_iconst (z := 1) X dX3_rows_59 rfl ?_
          refine gx_goto (tgt := 64) X dX3_rows_60 (by decide) ?_
          refine gx_sub [0, 1, 2, 3] rfl ?_
          exact J64 1 ((if_neg hc56).symm) 
  refine gx_sub [2, 1, 0] rfl ?_
  refine L9 (61) 0 0 (by omega) (by omega) (by omega) (fun z9 e9 hx9 => ?_)
  refine gx_iload_n X dX3_rows_72 rfl 1 rfl ?_
  exact gx_iret hR (e9) rfl dX3_rows_73
end
section
def M_worst_l9 (S : Sta) : Nat → Int → Int → Int
  | 0, v2, v3 => v2
  | fu + 1, v2, v3 => if (S.1 1) ≤ v3 then v2 else (fun (m43 : Int) => M_worst_l9 S fu m43 (v3 + 1)) (if (M_size (S.2 4 v3)) ≤ (M_size (S.2 4 v2)) then v2 else v3)
theorem M_worst_l9_s (S : Sta) (fu : Nat) (v2 : Int) (v3 : Int) : M_worst_l9 S (fu + 1) v2 v3 = (if (S.1 1) ≤ v3 then v2 else (fun (m43 : Int) => M_worst_l9 S fu m43 (v3 + 1)) (if (M_size (S.2 4 v3)) ≤ (M_size (S.2 4 v2)) then v2 else v3)) := rfl
def M_worst_r9 (S : Sta) (b : Int) (z9 : Int) : Int := if b = 0 then (M_size (S.2 4 z9)) else z9
def M_worst (S : Sta) (b : Int) : Int := (fun z9 => M_worst_r9 S b z9) (M_worst_l9 S (17) 0 1)
set_option maxRecDepth 100000 in
theorem c_M_worst {l : Launch} {K : KK} {N : Int} (q : Nat → Nat) (S : Sta) (b : Int) (hI : InvW N S) (hT : InvT S) (hp2 : ok32 b) : CtI l yX3_worst cX3_worst 4 .int (1, 20) K [.ref (q 0), .int (iI b)] (wM K q S) (M_worst S b) (wM K q S) := by
  refine ctI_of (by decide) (Nat.le_of_ble_eq_true rfl) rfl ?_
  intro x X hD hR
  have hD : ∀ S9 : Sta, va_D (cx_A x) (wM K q S9) := fun S9 => va_D_same hD rfl
  have hs1 := InvM_s1 hI
  have hs2 := InvM_s2 hI
  have hs3 := InvM_s3 hI
  have hs4 := InvM_s4 hI
  refine gx_aload_n X dX3_worst_0 rfl 0 rfl ?_
  refine gx_iconst (z := 0) X dX3_worst_1 rfl ?_
  refine gM_t0 X (hD _) (InvM_t hI) dX3_worst_2 ?_
  refine gx_iconst (z := 0) X dX3_worst_5 rfl ?_
  refine gx_istore_n X dX3_worst_6 rfl (by decide) rfl ?_
  refine gx_iconst (z := 1) X dX3_worst_7 rfl ?_
  refine gx_istore_n X dX3_worst_8 rfl (by decide) rfl ?_
  have L9 : ∀ (fu : Nat) (v2 : Int) (v3 : Int), (1 ≤ v3) → (v3 ≤ (S.1 1)) → (0 ≤ v2 ∧ v2 < 16) → ((S.1 1) - v3) < (fu : Int) → (∀ z9 : Int, M_worst_l9 S fu v2 v3 = z9 → (0 ≤ z9 ∧ z9 < 16) → GG l (rmK (1, 20)) K x (wM K q S) 50 [(0, .ref (q 0)), (1, .int (iI b)), (2, .int (iI z9))] []) → GG l (rmK (1, 20)) K x (wM K q S) 9 [(0, .ref (q 0)), (1, .int (iI b)), (2, .int (iI v2)), (3, .int (iI v3))] [] := by
    intro fu
    induction fu with
    | zero => intro v2 v3 hi9_0 hi9_1 hi9_2 hm9 K9; exact absurd hm9 (by omega)
    | succ fu ih =>
      intro v2 v3 hi9_0 hi9_1 hi9_2 hm9 K9
      refine gx_iload_n X dX3_worst_9 rfl 3 rfl ?_
      refine gx_aload_n X dX3_worst_10 rfl 0 rfl ?_
      refine gM_g1 (v := (S.1 1)) X rfl dX3_worst_11 ?_
      refine gx_icmp_ge (tgt := 50) X dX3_worst_14 (by decide) (by omega) (fun hc14 => ?_) (fun hc14 => ?_)
      · refine gx_sub [0, 1, 2] rfl ?_
        exact K9 v2 ((M_worst_l9_s S fu v2 v3).trans (if_pos hc14)) (by omega)
      · refine gx_aload_n X dX3_worst_17 rfl 0 rfl ?_
        refine gM_r4 X dX3_worst_18 ?_
        refine gx_iload_n X dX3_worst_21 rfl 3 rfl ?_
        refine gM_l4 (v := (S.2 4 v3)) X (by omega) rfl dX3_worst_22 ?_
        have hr22 := InvM_a4 hT v3
        refine gx_callSI (As := [.int (iI (S.2 4 v3))]) (rest := []) X (hD _) lk_M_131 (c_M_size (S.2 4 v3) (by omega)) jn_nil rfl ⟨by decide, by decide⟩ (Nat.le_of_ble_eq_true rfl) dX3_worst_23 ?_
        have hq23_0 := M_size_sp (S.2 4 v3)
        refine gx_aload_n X dX3_worst_26 rfl 0 rfl ?_
        refine gM_r4 X dX3_worst_27 ?_
        refine gx_iload_n X dX3_worst_30 rfl 2 rfl ?_
        refine gM_l4 (v := (S.2 4 v2)) X (by omega) rfl dX3_worst_31 ?_
        have hr31 := InvM_a4 hT v2
        refine gx_callSI (As := [.int (iI (S.2 4 v2))]) (rest := [.int (iI (M_size (S.2 4 v3)))]) X (hD _) lk_M_131 (c_M_size (S.2 4 v2) (by omega)) jn_nil rfl ⟨by decide, by decide⟩ (Nat.le_of_ble_eq_true rfl) dX3_worst_32 ?_
        have hq32_0 := M_size_sp (S.2 4 v2)
        have J43 : ∀ (m43 : Int), m43 = (if (M_size (S.2 4 v3)) ≤ (M_size (S.2 4 v2)) then v2 else v3) → GG l (rmK (1, 20)) K x (wM K q S) 43 [(0, .ref (q 0)), (1, .int (iI b)), (2, .int (iI v2)), (3, .int (iI v3))] [.int (iI m43)] := by
          intro m43 e_m43
          refine gx_istore_n X dX3_worst_43 rfl (by decide) rfl ?_
          refine gx_iinc X dX3_worst_44 3 rfl (by decide) rfl ?_
          refine gx_goto (tgt := 9) X dX3_worst_47 (by decide) ?_
          refine gx_sub [2, 3, 1, 0] rfl ?_
          subst e_m43
          exact ih _ _ (by omega) (by omega) (by omega) (by omega) (fun z e hx => K9 z ((M_worst_l9_s S fu v2 v3).trans ((if_neg hc14).trans e)) hx)
        refine gx_icmp_le (tgt := 42) X dX3_worst_35 (by decide) (by omega) (fun hc35 => ?_) (fun hc35 => ?_)
        · refine gx_iload_n X dX3_worst_42 rfl 2 rfl ?_
          refine gx_sub [0, 1, 2, 3] rfl ?_
          exact J43 v2 ((if_pos hc35).symm) 
        · refine gx_iload_n X dX3_worst_38 rfl 3 rfl ?_
          refine gx_goto (tgt := 43) X dX3_worst_39 (by decide) ?_
          refine gx_sub [0, 1, 2, 3] rfl ?_
          exact J43 v3 ((if_neg hc35).symm) 
  refine gx_sub [2, 3, 1, 0] rfl ?_
  refine L9 (17) 0 1 (by omega) (by omega) (by omega) (by omega) (fun z9 e9 hx9 => ?_)
  refine gx_iload_n X dX3_worst_50 rfl 1 rfl ?_
  have J67 : ∀ (m67 : Int), m67 = (if b = 0 then (M_size (S.2 4 z9)) else z9) → GG l (rmK (1, 20)) K x (wM K q S) 67 [(0, .ref (q 0)), (1, .int (iI b)), (2, .int (iI z9))] [.int (iI m67)] := by
    intro m67 e_m67
    exact gx_iret hR ((congrArg (fun z9 => M_worst_r9 S b z9) e9).trans (e_m67.symm)) rfl dX3_worst_67
  refine gx_if_eq (tgt := 58) X dX3_worst_51 (by decide) (by omega) (fun hc51 => ?_) (fun hc51 => ?_)
  · refine gx_aload_n X dX3_worst_58 rfl 0 rfl ?_
    refine gM_r4 X dX3_worst_59 ?_
    refine gx_iload_n X dX3_worst_62 rfl 2 rfl ?_
    refine gM_l4 (v := (S.2 4 z9)) X (by omega) rfl dX3_worst_63 ?_
    have hr63 := InvM_a4 hT z9
    refine gx_callSI (As := [.int (iI (S.2 4 z9))]) (rest := []) X (hD _) lk_M_131 (c_M_size (S.2 4 z9) (by omega)) jn_nil rfl ⟨by decide, by decide⟩ (Nat.le_of_ble_eq_true rfl) dX3_worst_64 ?_
    have hq64_0 := M_size_sp (S.2 4 z9)
    refine gx_sub [0, 1, 2] rfl ?_
    exact J67 (M_size (S.2 4 z9)) ((if_pos hc51).symm) 
  · refine gx_iload_n X dX3_worst_54 rfl 2 rfl ?_
    refine gx_goto (tgt := 67) X dX3_worst_55 (by decide) ?_
    refine gx_sub [0, 1, 2] rfl ?_
    exact J67 z9 ((if_neg hc51).symm) 
def M_goes_l6 (S : Sta) (p : Int) (m : Int) (b : Int) : Nat → Int → Int → Int
  | 0, v4, v5 => v4
  | fu + 1, v4, v5 => if (S.1 1) ≤ v5 then v4 else (fun (m67 : Int) => M_goes_l6 S p m b fu m67 (v5 + 1)) (if v4 = 0 then 0 else if (S.2 3 v5) = p then if m < (M_size ((S.2 4 v5) + ((if (S.2 2 v5) = 0 then b else (-b)) : Int))) then 0 else 1 else 1)
theorem M_goes_l6_s (S : Sta) (p : Int) (m : Int) (b : Int) (fu : Nat) (v4 : Int) (v5 : Int) : M_goes_l6 S p m b (fu + 1) v4 v5 = (if (S.1 1) ≤ v5 then v4 else (fun (m67 : Int) => M_goes_l6 S p m b fu m67 (v5 + 1)) (if v4 = 0 then 0 else if (S.2 3 v5) = p then if m < (M_size ((S.2 4 v5) + ((if (S.2 2 v5) = 0 then b else (-b)) : Int))) then 0 else 1 else 1)) := rfl
def M_goes (S : Sta) (p : Int) (m : Int) (b : Int) : Int := (M_goes_l6 S p m b (17) 1 0)
theorem M_goes_l6_01 (S : Sta) (p m b : Int) : ∀ (n : Nat) (v4 v5 : Int), (v4 = 0 ∨ v4 = 1) → (M_goes_l6 S p m b n v4 v5 = 0 ∨ M_goes_l6 S p m b n v4 v5 = 1) := by
  intro n
  induction n with
  | zero => intro v4 v5 h; exact h
  | succ n ih =>
    intro v4 v5 h
    rw [M_goes_l6_s]
    split
    · exact h
    · refine ih _ _ ?_
      omega
theorem M_goes_01 (S : Sta) (p m b : Int) : M_goes S p m b = 0 ∨ M_goes S p m b = 1 := M_goes_l6_01 S p m b 17 1 0 (Or.inr rfl)
set_option maxRecDepth 100000 in
theorem c_M_goes {l : Launch} {K : KK} {N : Int} (q : Nat → Nat) (S : Sta) (p : Int) (m : Int) (b : Int) (hI : InvW N S) (hT : InvT S) (hp2 : ok32 p) (hp3 : ok32 m) (hp4 : -60 ≤ b ∧ b ≤ 60) : CtI l yX3_goes cX3_goes 6 .boolean (1, 20) K [.ref (q 0), .int (iI p), .int (iI m), .int (iI b)] (wM K q S) (M_goes S p m b) (wM K q S) := by
  refine ctI_of (by decide) (Nat.le_of_ble_eq_true rfl) (narrow_bool (M_goes_01 S p m b)) ?_
  intro x X hD hR
  have hD : ∀ S9 : Sta, va_D (cx_A x) (wM K q S9) := fun S9 => va_D_same hD rfl
  have hs1 := InvM_s1 hI
  have hs2 := InvM_s2 hI
  have hs3 := InvM_s3 hI
  have hs4 := InvM_s4 hI
  refine gx_iconst (z := 1) X dX3_goes_0 rfl ?_
  refine gx_istore X dX3_goes_1 (by decide) rfl ?_
  refine gx_iconst (z := 0) X dX3_goes_3 rfl ?_
  refine gx_istore X dX3_goes_4 (by decide) rfl ?_
  have L6 : ∀ (fu : Nat) (v4 : Int) (v5 : Int), (0 ≤ v5) → (v5 ≤ (S.1 1)) → (0 ≤ v4 ∧ v4 ≤ 1) → ((S.1 1) - v5) < (fu : Int) → (∀ z6 : Int, M_goes_l6 S p m b fu v4 v5 = z6 → True → GG l (rmK (1, 20)) K x (wM K q S) 75 [(0, .ref (q 0)), (1, .int (iI p)), (2, .int (iI m)), (3, .int (iI b)), (4, .int (iI z6))] []) → GG l (rmK (1, 20)) K x (wM K q S) 6 [(0, .ref (q 0)), (1, .int (iI p)), (2, .int (iI m)), (3, .int (iI b)), (4, .int (iI v4)), (5, .int (iI v5))] [] := by
    intro fu
    induction fu with
    | zero => intro v4 v5 hi6_0 hi6_1 hi6_2 hm6 K6; exact absurd hm6 (by omega)
    | succ fu ih =>
      intro v4 v5 hi6_0 hi6_1 hi6_2 hm6 K6
      refine gx_iload X dX3_goes_6 5 rfl ?_
      refine gx_aload_n X dX3_goes_8 rfl 0 rfl ?_
      refine gM_g1 (v := (S.1 1)) X rfl dX3_goes_9 ?_
      refine gx_icmp_ge (tgt := 75) X dX3_goes_12 (by decide) (by omega) (fun hc12 => ?_) (fun hc12 => ?_)
      · refine gx_sub [0, 1, 2, 3, 4] rfl ?_
        exact K6 v4 ((M_goes_l6_s S p m b fu v4 v5).trans (if_pos hc12)) trivial
      · refine gx_iload X dX3_goes_15 4 rfl ?_
        have J67 : ∀ (m67 : Int), m67 = (if v4 = 0 then 0 else if (S.2 3 v5) = p then if m < (M_size ((S.2 4 v5) + ((if (S.2 2 v5) = 0 then b else (-b)) : Int))) then 0 else 1 else 1) → GG l (rmK (1, 20)) K x (wM K q S) 67 [(0, .ref (q 0)), (1, .int (iI p)), (2, .int (iI m)), (3, .int (iI b)), (4, .int (iI v4)), (5, .int (iI v5))] [.int (iI m67)] := by
          intro m67 e_m67
          refine gx_istore X dX3_goes_67 (by decide) rfl ?_
          refine gx_iinc X dX3_goes_69 5 rfl (by decide) rfl ?_
          refine gx_goto (tgt := 6) X dX3_goes_72 (by decide) ?_
          refine gx_sub [2, 3, 4, 5, 1, 0] rfl ?_
          subst e_m67
          exact ih _ _ (by omega) (by omega) (by omega) (by omega) (fun z e hx => K6 z ((M_goes_l6_s S p m b fu v4 v5).trans ((if_neg hc12).trans e)) hx)
        refine gx_if_eq (tgt := 66) X dX3_goes_17 (by decide) (by omega) (fun hc17 => ?_) (fun hc17 => ?_)
        · refine gx_iconst (z := 0) X dX3_goes_66 rfl ?_
          refine gx_sub [0, 1, 2, 3, 4, 5] rfl ?_
          exact J67 0 ((if_pos hc17).symm) 
        · refine gx_aload_n X dX3_goes_20 rfl 0 rfl ?_
          refine gM_r3 X dX3_goes_21 ?_
          refine gx_iload X dX3_goes_24 5 rfl ?_
          refine gM_l3 (v := (S.2 3 v5)) X (by omega) rfl dX3_goes_26 ?_
          have hr26 := InvM_a3 hI v5
          refine gx_iload_n X dX3_goes_27 rfl 1 rfl ?_
          refine gx_icmp_ne (tgt := 62) X dX3_goes_28 (by decide) (by omega) (fun hc28 => ?_) (fun hc28 => ?_)
          · refine gx_iconst (z := 1) X dX3_goes_62 rfl ?_
            refine gx_goto (tgt := 67) X dX3_goes_63 (by decide) ?_
            refine gx_sub [0, 1, 2, 3, 4, 5] rfl ?_
            exact J67 1 (((if_neg hc17).trans (if_neg hc28)).symm) 
          · refine gx_aload_n X dX3_goes_31 rfl 0 rfl ?_
            refine gM_r4 X dX3_goes_32 ?_
            refine gx_iload X dX3_goes_35 5 rfl ?_
            refine gM_l4 (v := (S.2 4 v5)) X (by omega) rfl dX3_goes_37 ?_
            have hr37 := InvM_a4 hT v5
            refine gx_aload_n X dX3_goes_38 rfl 0 rfl ?_
            refine gM_r2 X dX3_goes_39 ?_
            refine gx_iload X dX3_goes_42 5 rfl ?_
            refine gM_l2 (v := (S.2 2 v5)) X (by omega) rfl dX3_goes_44 ?_
            have hr44 := InvM_a2 hI v5
            have J54 : ∀ (m54 : Int), m54 = (if (S.2 2 v5) = 0 then b else (-b)) → GG l (rmK (1, 20)) K x (wM K q S) 54 [(0, .ref (q 0)), (1, .int (iI p)), (2, .int (iI m)), (3, .int (iI b)), (4, .int (iI v4)), (5, .int (iI v5))] [.int (iI m54), .int (iI (S.2 4 v5))] := by
              intro m54 e_m54
              refine gx_iadd X dX3_goes_54 ?_
              refine gx_callSI (As := [.int (iI ((S.2 4 v5) + m54))]) (rest := []) X (hD _) lk_M_131 (c_M_size ((S.2 4 v5) + m54) (by omega)) jn_nil rfl ⟨by decide, by decide⟩ (Nat.le_of_ble_eq_true rfl) dX3_goes_55 ?_
              have hq55_0 := M_size_sp ((S.2 4 v5) + m54)
              refine gx_iload_n X dX3_goes_58 rfl 2 rfl ?_
              refine gx_icmp_gt (tgt := 66) X dX3_goes_59 (by decide) (by omega) (fun hc59 => ?_) (fun hc59 => ?_)
              · refine gx_iconst (z := 0) X dX3_goes_66 rfl ?_
                refine gx_sub [0, 1, 2, 3, 4, 5] rfl ?_
                subst e_m54
                exact J67 _ (((if_neg hc17).trans ((if_pos hc28).trans (if_pos hc59))).symm) 
              · refine gx_iconst (z := 1) X dX3_goes_62 rfl ?_
                refine gx_goto (tgt := 67) X dX3_goes_63 (by decide) ?_
                refine gx_sub [0, 1, 2, 3, 4, 5] rfl ?_
                subst e_m54
                exact J67 _ (((if_neg hc17).trans ((if_pos hc28).trans (if_neg hc59))).symm) 
            refine gx_if_ne (tgt := 52) X dX3_goes_45 (by decide) (by omega) (fun hc45 => ?_) (fun hc45 => ?_)
            · refine gx_iload_n X dX3_goes_52 rfl 3 rfl ?_
              refine gx_ineg X dX3_goes_53 ?_
              refine gx_sub [0, 1, 2, 3, 4, 5] rfl ?_
              exact J54 (-b) ((if_neg hc45).symm) 
            · refine gx_iload_n X dX3_goes_48 rfl 3 rfl ?_
              refine gx_goto (tgt := 54) X dX3_goes_49 (by decide) ?_
              refine gx_sub [0, 1, 2, 3, 4, 5] rfl ?_
              exact J54 b ((if_pos hc45).symm) 
  refine gx_sub [2, 3, 4, 5, 1, 0] rfl ?_
  refine L6 (17) 1 0 (by omega) (by omega) (by omega) (by omega) (fun z6 e6 hx6 => ?_)
  refine gx_iload X dX3_goes_75 4 rfl ?_
  exact gx_iret hR (e6) rfl dX3_goes_77
def M_goingOf_l2 (S : Sta) (p : Int) (m : Int) : Nat → Int → (Int) ⊕ (Unit)
  | 0, v3 => .inr ()
  | fu + 1, v3 => if 60 < v3 then .inr () else if (M_goes S p m v3) = 0 then if (M_goes S p m (-v3)) = 0 then M_goingOf_l2 S p m fu (v3 + 1) else .inl (-v3) else .inl v3
theorem M_goingOf_l2_s (S : Sta) (p : Int) (m : Int) (fu : Nat) (v3 : Int) : M_goingOf_l2 S p m (fu + 1) v3 = (if 60 < v3 then .inr () else if (M_goes S p m v3) = 0 then if (M_goes S p m (-v3)) = 0 then M_goingOf_l2 S p m fu (v3 + 1) else .inl (-v3) else .inl v3) := rfl
def M_goingOf_r2  : Int := (-99)
def M_goingOf (S : Sta) (p : Int) (m : Int) : Int := Sum.elim id (fun z2 => M_goingOf_r2 ) (M_goingOf_l2 S p m (62) 0)
theorem M_goingOf_l2_rg (S : Sta) (p m : Int) : ∀ (n : Nat) (v3 : Int), 0 ≤ v3 → v3 ≤ 61 → (∃ z, M_goingOf_l2 S p m n v3 = .inl z ∧ -60 ≤ z ∧ z ≤ 60) ∨ M_goingOf_l2 S p m n v3 = .inr () := by
  intro n
  induction n with
  | zero => intro v3 _ _; exact Or.inr rfl
  | succ n ih =>
    intro v3 h0 h1
    rw [M_goingOf_l2_s]
    split
    · exact Or.inr rfl
    · split
      · split
        · exact ih _ (by omega) (by omega)
        · exact Or.inl ⟨_, rfl, by omega, by omega⟩
      · exact Or.inl ⟨_, rfl, by omega, by omega⟩
theorem M_goingOf_rg (S : Sta) (p m : Int) : -99 ≤ M_goingOf S p m ∧ M_goingOf S p m ≤ 60 := by
  rcases M_goingOf_l2_rg S p m 62 0 (by omega) (by omega) with ⟨z, h, h1, h2⟩ | h
  · have e : M_goingOf S p m = z := congrArg (Sum.elim id _) h
    omega
  · have e : M_goingOf S p m = -99 := congrArg (Sum.elim id _) h
    omega
set_option maxRecDepth 100000 in
theorem c_M_goingOf {l : Launch} {K : KK} {N : Int} (q : Nat → Nat) (S : Sta) (p : Int) (m : Int) (hI : InvW N S) (hT : InvT S) (hp2 : ok32 p) (hp3 : ok32 m) : CtI l yX3_goingOf cX3_goingOf 4 .int (2, 45) K [.ref (q 0), .int (iI p), .int (iI m)] (wM K q S) (M_goingOf S p m) (wM K q S) := by
  refine ctI_of (by decide) (Nat.le_of_ble_eq_true rfl) rfl ?_
  intro x X hD hR
  have hD : ∀ S9 : Sta, va_D (cx_A x) (wM K q S9) := fun S9 => va_D_same hD rfl
  have hs1 := InvM_s1 hI
  have hs2 := InvM_s2 hI
  have hs3 := InvM_s3 hI
  have hs4 := InvM_s4 hI
  refine gx_iconst (z := 0) X dX3_goingOf_0 rfl ?_
  refine gx_istore_n X dX3_goingOf_1 rfl (by decide) rfl ?_
  have L2 : ∀ (fu : Nat) (v3 : Int), (0 ≤ v3) → (v3 ≤ 61) → (61 - v3) < (fu : Int) → (∀ z2 : Unit, M_goingOf_l2 S p m fu v3 = .inr z2 → True → GG l (rmK (2, 45)) K x (wM K q S) 40 [(0, .ref (q 0)), (1, .int (iI p)), (2, .int (iI m))] []) → (∀ zz : Int, M_goingOf_l2 S p m fu v3 = .inl zz → M_goingOf S p m = zz) → GG l (rmK (2, 45)) K x (wM K q S) 2 [(0, .ref (q 0)), (1, .int (iI p)), (2, .int (iI m)), (3, .int (iI v3))] [] := by
    intro fu
    induction fu with
    | zero => intro v3 hi2_0 hi2_1 hm2 K2 KR2; exact absurd hm2 (by omega)
    | succ fu ih =>
      intro v3 hi2_0 hi2_1 hm2 K2 KR2
      refine gx_iload_n X dX3_goingOf_2 rfl 3 rfl ?_
      refine gx_bipush (z := 60) X dX3_goingOf_3 (by decide) ?_
      refine gx_icmp_gt (tgt := 40) X dX3_goingOf_5 (by decide) (by omega) (fun hc5 => ?_) (fun hc5 => ?_)
      · refine gx_sub [0, 1, 2] rfl ?_
        exact K2 () ((M_goingOf_l2_s S p m fu v3).trans (if_pos hc5)) trivial
      · refine gx_aload_n X dX3_goingOf_8 rfl 0 rfl ?_
        refine gx_iload_n X dX3_goingOf_9 rfl 1 rfl ?_
        refine gx_iload_n X dX3_goingOf_10 rfl 2 rfl ?_
        refine gx_iload_n X dX3_goingOf_11 rfl 3 rfl ?_
        refine gx_callVI (As := [.int (iI p), .int (iI m), .int (iI v3)]) (rest := []) X (hD _) lk_M_135 (ci := 3) rfl rfl 0 rfl (c_M_goes q S p m v3 hI hT (by omega) (by omega) (by omega)) jn_all rfl ⟨by decide, by decide⟩ (Nat.le_of_ble_eq_true rfl) dX3_goingOf_12 ?_
        have hq12_0 := M_goes_01 S p m v3
        refine gx_if_eq (tgt := 20) X dX3_goingOf_15 (by decide) (by omega) (fun hc15 => ?_) (fun hc15 => ?_)
        · refine gx_aload_n X dX3_goingOf_20 rfl 0 rfl ?_
          refine gx_iload_n X dX3_goingOf_21 rfl 1 rfl ?_
          refine gx_iload_n X dX3_goingOf_22 rfl 2 rfl ?_
          refine gx_iload_n X dX3_goingOf_23 rfl 3 rfl ?_
          refine gx_ineg X dX3_goingOf_24 ?_
          refine gx_callVI (As := [.int (iI p), .int (iI m), .int (iI (-v3))]) (rest := []) X (hD _) lk_M_135 (ci := 3) rfl rfl 0 rfl (c_M_goes q S p m (-v3) hI hT (by omega) (by omega) (by omega)) jn_all rfl ⟨by decide, by decide⟩ (Nat.le_of_ble_eq_true rfl) dX3_goingOf_25 ?_
          have hq25_0 := M_goes_01 S p m (-v3)
          refine gx_if_eq (tgt := 34) X dX3_goingOf_28 (by decide) (by omega) (fun hc28 => ?_) (fun hc28 => ?_)
          · refine gx_iinc X dX3_goingOf_34 3 rfl (by decide) rfl ?_
            refine gx_goto (tgt := 2) X dX3_goingOf_37 (by decide) ?_
            refine gx_sub [1, 2, 3, 0] rfl ?_
            exact ih (v3 + 1) (by omega) (by omega) (by omega) (fun z e hx => K2 z ((M_goingOf_l2_s S p m fu v3).trans (((if_neg hc5).trans ((if_pos hc15).trans (if_pos hc28))).trans e)) hx) (fun z e => KR2 z ((M_goingOf_l2_s S p m fu v3).trans (((if_neg hc5).trans ((if_pos hc15).trans (if_pos hc28))).trans e)))
          · refine gx_iload_n X dX3_goingOf_31 rfl 3 rfl ?_
            refine gx_ineg X dX3_goingOf_32 ?_
            exact gx_iret hR (KR2 (-v3) ((M_goingOf_l2_s S p m fu v3).trans ((if_neg hc5).trans ((if_pos hc15).trans (if_neg hc28))))) rfl dX3_goingOf_33
        · refine gx_iload_n X dX3_goingOf_18 rfl 3 rfl ?_
          exact gx_iret hR (KR2 v3 ((M_goingOf_l2_s S p m fu v3).trans ((if_neg hc5).trans (if_neg hc15)))) rfl dX3_goingOf_19
  refine gx_sub [1, 2, 3, 0] rfl ?_
  refine L2 (62) 0 (by omega) (by omega) (by omega) (fun z2 e2 hx2 => ?_) (fun z e => congrArg (Sum.elim id (fun z2 => M_goingOf_r2 )) e)
  refine gx_bipush (z := (-99)) X dX3_goingOf_40 (by decide) ?_
  exact gx_iret hR (congrArg (Sum.elim id (fun z2 => M_goingOf_r2 )) e2) rfl dX3_goingOf_42
def M_going (S : Sta) (p : Int) (m : Int) : Int := if (M_in p 0 3) = 0 then (-1) else if (M_in m 0 60) = 0 then (-2) else (M_goingOf S p m)
set_option maxRecDepth 100000 in
theorem c_M_going {l : Launch} {K : KK} {N : Int} (q : Nat → Nat) (S : Sta) (p : Int) (m : Int) (hI : InvW N S) (hT : InvT S) (hp2 : ok32 p) (hp3 : ok32 m) : CtI l yX3_going cX3_going 3 .int (3, 68) K [.ref (q 0), .int (iI p), .int (iI m)] (wM K q S) (M_going S p m) (wM K q S) := by
  refine ctI_of (by decide) (Nat.le_of_ble_eq_true rfl) rfl ?_
  intro x X hD hR
  have hD : ∀ S9 : Sta, va_D (cx_A x) (wM K q S9) := fun S9 => va_D_same hD rfl
  have hs1 := InvM_s1 hI
  have hs2 := InvM_s2 hI
  have hs3 := InvM_s3 hI
  have hs4 := InvM_s4 hI
  refine gx_aload_n X dX3_going_0 rfl 0 rfl ?_
  refine gx_iconst (z := 0) X dX3_going_1 rfl ?_
  refine gM_t0 X (hD _) (InvM_t hI) dX3_going_2 ?_
  refine gx_iload_n X dX3_going_5 rfl 1 rfl ?_
  refine gx_i2l X dX3_going_6 (by omega) ?_
  refine gx_lconst (v := lI 0) X dX3_going_7 rfl ?_
  refine gx_ldc2 (v := lI 3) X t_M_101 dX3_going_8 ?_
  refine gx_callSI (As := [.long (lI p), .long (lI 0), .long (lI 3)]) (rest := []) X (hD _) lk_M_88 (c_M_in p 0 3 (by omega) (by omega) (by omega)) jn_nil rfl ⟨by decide, by decide⟩ (Nat.le_of_ble_eq_true rfl) dX3_going_11 ?_
  have hq11_0 := M_in_sp p 0 3
  refine gx_if_ne (tgt := 19) X dX3_going_14 (by decide) (by omega) (fun hc14 => ?_) (fun hc14 => ?_)
  · refine gx_iload_n X dX3_going_19 rfl 2 rfl ?_
    refine gx_i2l X dX3_going_20 (by omega) ?_
    refine gx_lconst (v := lI 0) X dX3_going_21 rfl ?_
    refine gx_ldc2 (v := lI 60) X t_M_139 dX3_going_22 ?_
    refine gx_callSI (As := [.long (lI m), .long (lI 0), .long (lI 60)]) (rest := []) X (hD _) lk_M_88 (c_M_in m 0 60 (by omega) (by omega) (by omega)) jn_nil rfl ⟨by decide, by decide⟩ (Nat.le_of_ble_eq_true rfl) dX3_going_25 ?_
    have hq25_0 := M_in_sp m 0 60
    have J42 : ∀ (m42 : Int), m42 = (if (M_in m 0 60) = 0 then (-2) else (M_goingOf S p m)) → GG l (rmK (3, 68)) K x (wM K q S) 42 [(0, .ref (q 0)), (1, .int (iI p)), (2, .int (iI m))] [.int (iI m42)] := by
      intro m42 e_m42
      exact gx_iret hR ((if_neg hc14).trans (e_m42.symm)) rfl dX3_going_42
    refine gx_if_eq (tgt := 40) X dX3_going_28 (by decide) (by omega) (fun hc28 => ?_) (fun hc28 => ?_)
    · refine gx_bipush (z := (-2)) X dX3_going_40 (by decide) ?_
      refine gx_sub [0, 1, 2] rfl ?_
      exact J42 (-2) ((if_pos hc28).symm) 
    · refine gx_aload_n X dX3_going_31 rfl 0 rfl ?_
      refine gx_iload_n X dX3_going_32 rfl 1 rfl ?_
      refine gx_iload_n X dX3_going_33 rfl 2 rfl ?_
      refine gx_callVI (As := [.int (iI p), .int (iI m)]) (rest := []) X (hD _) lk_M_141 (ci := 3) rfl rfl 0 rfl (c_M_goingOf q S p m hI hT (by omega) (by omega)) jn_all rfl ⟨by decide, by decide⟩ (Nat.le_of_ble_eq_true rfl) dX3_going_34 ?_
      have hq34_0 := M_goingOf_rg S p m
      refine gx_goto (tgt := 42) X dX3_going_37 (by decide) ?_
      refine gx_sub [0, 1, 2] rfl ?_
      exact J42 (M_goingOf S p m) ((if_neg hc28).symm) 
  · refine gx_iconst (z := (-1)) X dX3_going_17 rfl ?_
    exact gx_iret hR (if_pos hc14) rfl dX3_going_18
def M_evens_l24 (S : Sta) (m : Int) : Nat → Int → Int → (Int) ⊕ (Int)
  | 0, v2, v3 => .inr v2
  | fu + 1, v2, v3 => if 4 ≤ v3 then .inr v2 else if (M_goingOf S v3 m) = (-99) then .inl (-99) else (fun (m65 : Int) => M_evens_l24 S m fu m65 (v3 + 1)) (if (M_size (M_goingOf S v3 m)) ≤ v2 then v2 else (M_size (M_goingOf S v3 m)))
theorem M_evens_l24_s (S : Sta) (m : Int) (fu : Nat) (v2 : Int) (v3 : Int) : M_evens_l24 S m (fu + 1) v2 v3 = (if 4 ≤ v3 then .inr v2 else if (M_goingOf S v3 m) = (-99) then .inl (-99) else (fun (m65 : Int) => M_evens_l24 S m fu m65 (v3 + 1)) (if (M_size (M_goingOf S v3 m)) ≤ v2 then v2 else (M_size (M_goingOf S v3 m)))) := rfl
def M_evens_r24 (z24 : Int) : Int := z24
def M_evens (S : Sta) (m : Int) : Int := if (M_in m 0 60) = 0 then (-2) else Sum.elim id (fun z24 => M_evens_r24 z24) (M_evens_l24 S m (5) 0 0)
set_option maxRecDepth 100000 in
theorem c_M_evens {l : Launch} {K : KK} {N : Int} (q : Nat → Nat) (S : Sta) (m : Int) (hI : InvW N S) (hT : InvT S) (hp2 : ok32 m) : CtI l yX3_evens cX3_evens 5 .int (3, 68) K [.ref (q 0), .int (iI m)] (wM K q S) (M_evens S m) (wM K q S) := by
  refine ctI_of (by decide) (Nat.le_of_ble_eq_true rfl) rfl ?_
  intro x X hD hR
  have hD : ∀ S9 : Sta, va_D (cx_A x) (wM K q S9) := fun S9 => va_D_same hD rfl
  have hs1 := InvM_s1 hI
  have hs2 := InvM_s2 hI
  have hs3 := InvM_s3 hI
  have hs4 := InvM_s4 hI
  refine gx_aload_n X dX3_evens_0 rfl 0 rfl ?_
  refine gx_iconst (z := 0) X dX3_evens_1 rfl ?_
  refine gM_t0 X (hD _) (InvM_t hI) dX3_evens_2 ?_
  refine gx_iload_n X dX3_evens_5 rfl 1 rfl ?_
  refine gx_i2l X dX3_evens_6 (by omega) ?_
  refine gx_lconst (v := lI 0) X dX3_evens_7 rfl ?_
  refine gx_ldc2 (v := lI 60) X t_M_139 dX3_evens_8 ?_
  refine gx_callSI (As := [.long (lI m), .long (lI 0), .long (lI 60)]) (rest := []) X (hD _) lk_M_88 (c_M_in m 0 60 (by omega) (by omega) (by omega)) jn_nil rfl ⟨by decide, by decide⟩ (Nat.le_of_ble_eq_true rfl) dX3_evens_11 ?_
  have hq11_0 := M_in_sp m 0 60
  refine gx_if_ne (tgt := 20) X dX3_evens_14 (by decide) (by omega) (fun hc14 => ?_) (fun hc14 => ?_)
  · refine gx_iconst (z := 0) X dX3_evens_20 rfl ?_
    refine gx_istore_n X dX3_evens_21 rfl (by decide) rfl ?_
    refine gx_iconst (z := 0) X dX3_evens_22 rfl ?_
    refine gx_istore_n X dX3_evens_23 rfl (by decide) rfl ?_
    have L24 : ∀ (fu : Nat) (v2 : Int) (v3 : Int), (0 ≤ v3) → (v3 ≤ 4) → (0 ≤ v2 ∧ v2 ≤ 1000) → (4 - v3) < (fu : Int) → (∀ z24 : Int, M_evens_l24 S m fu v2 v3 = .inr z24 → True → GG l (rmK (3, 68)) K x (wM K q S) 72 [(0, .ref (q 0)), (1, .int (iI m)), (2, .int (iI z24))] []) → (∀ zz : Int, M_evens_l24 S m fu v2 v3 = .inl zz → M_evens S m = zz) → GG l (rmK (3, 68)) K x (wM K q S) 24 [(0, .ref (q 0)), (1, .int (iI m)), (2, .int (iI v2)), (3, .int (iI v3))] [] := by
      intro fu
      induction fu with
      | zero => intro v2 v3 hi24_0 hi24_1 hi24_2 hm24 K24 KR24; exact absurd hm24 (by omega)
      | succ fu ih =>
        intro v2 v3 hi24_0 hi24_1 hi24_2 hm24 K24 KR24
        refine gx_iload_n X dX3_evens_24 rfl 3 rfl ?_
        refine gx_iconst (z := 4) X dX3_evens_25 rfl ?_
        refine gx_icmp_ge (tgt := 72) X dX3_evens_26 (by decide) (by omega) (fun hc26 => ?_) (fun hc26 => ?_)
        · refine gx_sub [0, 1, 2] rfl ?_
          exact K24 v2 ((M_evens_l24_s S m fu v2 v3).trans (if_pos hc26)) trivial
        · refine gx_aload_n X dX3_evens_29 rfl 0 rfl ?_
          refine gx_iload_n X dX3_evens_30 rfl 3 rfl ?_
          refine gx_iload_n X dX3_evens_31 rfl 1 rfl ?_
          refine gx_callVI (As := [.int (iI v3), .int (iI m)]) (rest := []) X (hD _) lk_M_141 (ci := 3) rfl rfl 0 rfl (c_M_goingOf q S v3 m hI hT (by omega) (by omega)) jn_all rfl ⟨by decide, by decide⟩ (Nat.le_of_ble_eq_true rfl) dX3_evens_32 ?_
          have hq32_0 := M_goingOf_rg S v3 m
          refine gx_istore X dX3_evens_35 (by decide) rfl ?_
          refine gx_iload X dX3_evens_37 0 rfl ?_
          refine gx_bipush (z := (-99)) X dX3_evens_39 (by decide) ?_
          refine gx_icmp_ne (tgt := 47) X dX3_evens_41 (by decide) (by omega) (fun hc41 => ?_) (fun hc41 => ?_)
          · refine gx_iload X dX3_evens_47 0 rfl ?_
            refine gx_callSI (As := [.int (iI (M_goingOf S v3 m))]) (rest := []) X (hD _) lk_M_131 (c_M_size (M_goingOf S v3 m) (by omega)) jn_nil rfl ⟨by decide, by decide⟩ (Nat.le_of_ble_eq_true rfl) dX3_evens_49 ?_
            have hq49_0 := M_size_sp (M_goingOf S v3 m)
            refine gx_iload_n X dX3_evens_52 rfl 3 rfl ?_
            have J65 : ∀ (m65 : Int), m65 = (if (M_size (M_goingOf S v3 m)) ≤ v2 then v2 else (M_size (M_goingOf S v3 m))) → GG l (rmK (3, 68)) K x (wM K q S) 65 [(0, .ref (q 0)), (1, .int (iI m)), (2, .int (iI v2)), (3, .int (iI v3)), (4, .int (iI (M_goingOf S v3 m)))] [.int (iI m65)] := by
              intro m65 e_m65
              refine gx_istore_n X dX3_evens_65 rfl (by decide) rfl ?_
              refine gx_iinc X dX3_evens_66 3 rfl (by decide) rfl ?_
              refine gx_goto (tgt := 24) X dX3_evens_69 (by decide) ?_
              refine gx_sub [2, 3, 1, 0] rfl ?_
              subst e_m65
              exact ih _ _ (by omega) (by omega) (by omega) (by omega) (fun z e hx => K24 z ((M_evens_l24_s S m fu v2 v3).trans (((if_neg hc26).trans (if_neg hc41)).trans e)) hx) (fun z e => KR24 z ((M_evens_l24_s S m fu v2 v3).trans (((if_neg hc26).trans (if_neg hc41)).trans e)))
            refine gx_icmp_le (tgt := 64) X dX3_evens_53 (by decide) (by omega) (fun hc53 => ?_) (fun hc53 => ?_)
            · refine gx_iload_n X dX3_evens_64 rfl 3 rfl ?_
              refine gx_sub [1, 2, 3, 4, 0] rfl ?_
              exact J65 v2 ((if_pos hc53).symm) 
            · refine gx_iload X dX3_evens_56 0 rfl ?_
              refine gx_callSI (As := [.int (iI (M_goingOf S v3 m))]) (rest := []) X (hD _) lk_M_131 (c_M_size (M_goingOf S v3 m) (by omega)) jn_nil rfl ⟨by decide, by decide⟩ (Nat.le_of_ble_eq_true rfl) dX3_evens_58 ?_
              have hq58_0 := M_size_sp (M_goingOf S v3 m)
              refine gx_goto (tgt := 65) X dX3_evens_61 (by decide) ?_
              refine gx_sub [1, 2, 3, 4, 0] rfl ?_
              exact J65 (M_size (M_goingOf S v3 m)) ((if_neg hc53).symm) 
          · refine gx_bipush (z := (-99)) X dX3_evens_44 (by decide) ?_
            exact gx_iret hR (KR24 (-99) ((M_evens_l24_s S m fu v2 v3).trans ((if_neg hc26).trans (if_pos hc41)))) rfl dX3_evens_46
    refine gx_sub [2, 3, 1, 0] rfl ?_
    refine L24 (5) 0 0 (by omega) (by omega) (by omega) (by omega) (fun z24 e24 hx24 => ?_) (fun z e => (if_neg hc14).trans (congrArg (Sum.elim id (fun z24 => M_evens_r24 z24)) e))
    refine gx_iload_n X dX3_evens_72 rfl 2 rfl ?_
    exact gx_iret hR ((if_neg hc14).trans (congrArg (Sum.elim id (fun z24 => M_evens_r24 z24)) e24)) rfl dX3_evens_73
  · refine gx_bipush (z := (-2)) X dX3_evens_17 (by decide) ?_
    exact gx_iret hR (if_pos hc14) rfl dX3_evens_19
def M_paint (S : Sta) (r : Int) (c : Int) (v : Int) : Int × Sta := if (M_noCard S c) = 0 then if (M_in r 0 29) = 0 then ((-2), S) else if v = (-99) then ((S.2 16 ((16 * r) + c)), (mA S 16 ((16 * r) + c) v)) else if (M_in v 0 7) = 0 then ((-2), S) else ((S.2 16 ((16 * r) + c)), (mA S 16 ((16 * r) + c) v)) else ((-1), S)
set_option maxRecDepth 100000 in
theorem c_M_paint {l : Launch} {K : KK} {N : Int} (q : Nat → Nat) (S : Sta) (r : Int) (c : Int) (v : Int) (hI : InvW N S) (hp1 : ok32 r) (hp2 : ok32 c) (hp3 : ok32 v) : CtI l yX3_paint cX3_paint 5 .int (2, 46) K [.ref (q 0), .int (iI r), .int (iI c), .int (iI v)] (wM K q S) (M_paint S r c v).1 (wM K q ((M_paint S r c v).2)) := by
  refine ctI_of (by decide) (Nat.le_of_ble_eq_true rfl) rfl ?_
  intro x X hD hR
  have hD : ∀ S9 : Sta, va_D (cx_A x) (wM K q S9) := fun S9 => va_D_same hD rfl
  have hs1 := InvM_s1 hI
  have hs2 := InvM_s2 hI
  have hs3 := InvM_s3 hI
  have hs4 := InvM_s4 hI
  refine gx_aload_n X dX3_paint_0 rfl 0 rfl ?_
  refine gx_iconst (z := 0) X dX3_paint_1 rfl ?_
  refine gM_t0 X (hD _) (InvM_t hI) dX3_paint_2 ?_
  refine gx_aload_n X dX3_paint_5 rfl 0 rfl ?_
  refine gx_iload_n X dX3_paint_6 rfl 2 rfl ?_
  refine gx_callVI (As := [.int (iI c)]) (rest := []) X (hD _) lk_M_97 (ci := 3) rfl rfl 0 rfl (c_M_noCard q S c hI (by omega)) jn_all rfl ⟨by decide, by decide⟩ (Nat.le_of_ble_eq_true rfl) dX3_paint_7 ?_
  have hq7_0 := M_noCard_sp S c
  refine gx_if_eq (tgt := 15) X dX3_paint_10 (by decide) (by omega) (fun hc10 => ?_) (fun hc10 => ?_)
  · refine gx_iload_n X dX3_paint_15 rfl 1 rfl ?_
    refine gx_i2l X dX3_paint_16 (by omega) ?_
    refine gx_lconst (v := lI 0) X dX3_paint_17 rfl ?_
    refine gx_ldc2 (v := lI 29) X t_M_144 dX3_paint_18 ?_
    refine gx_callSI (As := [.long (lI r), .long (lI 0), .long (lI 29)]) (rest := []) X (hD _) lk_M_88 (c_M_in r 0 29 (by omega) (by omega) (by omega)) jn_nil rfl ⟨by decide, by decide⟩ (Nat.le_of_ble_eq_true rfl) dX3_paint_21 ?_
    have hq21_0 := M_in_sp r 0 29
    refine gx_if_eq (tgt := 45) X dX3_paint_24 (by decide) (by omega) (fun hc24 => ?_) (fun hc24 => ?_)
    · refine gx_bipush (z := (-2)) X dX3_paint_45 (by decide) ?_
      exact gx_iret hR (congrArg Prod.fst ((show M_paint S r c v = ((-2), S) from (if_pos hc10).trans (if_pos hc24)))) (ret2 (fun z => (wM K q z)) ((show M_paint S r c v = ((-2), S) from (if_pos hc10).trans (if_pos hc24)))) dX3_paint_47
    · refine gx_iload_n X dX3_paint_27 rfl 3 rfl ?_
      refine gx_bipush (z := (-99)) X dX3_paint_28 (by decide) ?_
      refine gx_icmp_eq (tgt := 48) X dX3_paint_30 (by decide) (by omega) (fun hc30 => ?_) (fun hc30 => ?_)
      · refine gx_aload_n X dX3_paint_48 rfl 0 rfl ?_
        refine gM_r16 X dX3_paint_49 ?_
        refine gx_bipush (z := 16) X dX3_paint_52 (by decide) ?_
        refine gx_iload_n X dX3_paint_54 rfl 1 rfl ?_
        refine gx_imul X dX3_paint_55 ?_
        refine gx_iload_n X dX3_paint_56 rfl 2 rfl ?_
        refine gx_iadd X dX3_paint_57 ?_
        refine gM_l16 (v := (S.2 16 ((16 * r) + c))) X (by omega) rfl dX3_paint_58 ?_
        have hr58 := InvM_a16 hI ((16 * r) + c)
        refine gx_istore X dX3_paint_59 (by decide) rfl ?_
        refine gx_aload_n X dX3_paint_61 rfl 1 rfl ?_
        refine gM_r16 X dX3_paint_62 ?_
        refine gx_bipush (z := 16) X dX3_paint_65 (by decide) ?_
        refine gx_iload_n X dX3_paint_67 rfl 2 rfl ?_
        refine gx_imul X dX3_paint_68 ?_
        refine gx_iload_n X dX3_paint_69 rfl 3 rfl ?_
        refine gx_iadd X dX3_paint_70 ?_
        refine gx_iload_n X dX3_paint_71 rfl 4 rfl ?_
        refine gM_s16 X (hD _) (by omega) dX3_paint_72 ?_
        refine gx_iload X dX3_paint_73 0 rfl ?_
        exact gx_iret hR (congrArg Prod.fst ((show M_paint S r c v = ((S.2 16 ((16 * r) + c)), (mA S 16 ((16 * r) + c) v)) from (if_pos hc10).trans ((if_neg hc24).trans (if_pos hc30))))) (ret2 (fun z => (wM K q z)) ((show M_paint S r c v = ((S.2 16 ((16 * r) + c)), (mA S 16 ((16 * r) + c) v)) from (if_pos hc10).trans ((if_neg hc24).trans (if_pos hc30))))) dX3_paint_75
      · refine gx_iload_n X dX3_paint_33 rfl 3 rfl ?_
        refine gx_i2l X dX3_paint_34 (by omega) ?_
        refine gx_lconst (v := lI 0) X dX3_paint_35 rfl ?_
        refine gx_ldc2 (v := lI 7) X t_M_103 dX3_paint_36 ?_
        refine gx_callSI (As := [.long (lI v), .long (lI 0), .long (lI 7)]) (rest := []) X (hD _) lk_M_88 (c_M_in v 0 7 (by omega) (by omega) (by omega)) jn_nil rfl ⟨by decide, by decide⟩ (Nat.le_of_ble_eq_true rfl) dX3_paint_39 ?_
        have hq39_0 := M_in_sp v 0 7
        refine gx_if_ne (tgt := 48) X dX3_paint_42 (by decide) (by omega) (fun hc42 => ?_) (fun hc42 => ?_)
        · refine gx_aload_n X dX3_paint_48 rfl 0 rfl ?_
          refine gM_r16 X dX3_paint_49 ?_
          refine gx_bipush (z := 16) X dX3_paint_52 (by decide) ?_
          refine gx_iload_n X dX3_paint_54 rfl 1 rfl ?_
          refine gx_imul X dX3_paint_55 ?_
          refine gx_iload_n X dX3_paint_56 rfl 2 rfl ?_
          refine gx_iadd X dX3_paint_57 ?_
          refine gM_l16 (v := (S.2 16 ((16 * r) + c))) X (by omega) rfl dX3_paint_58 ?_
          have hr58 := InvM_a16 hI ((16 * r) + c)
          refine gx_istore X dX3_paint_59 (by decide) rfl ?_
          refine gx_aload_n X dX3_paint_61 rfl 1 rfl ?_
          refine gM_r16 X dX3_paint_62 ?_
          refine gx_bipush (z := 16) X dX3_paint_65 (by decide) ?_
          refine gx_iload_n X dX3_paint_67 rfl 2 rfl ?_
          refine gx_imul X dX3_paint_68 ?_
          refine gx_iload_n X dX3_paint_69 rfl 3 rfl ?_
          refine gx_iadd X dX3_paint_70 ?_
          refine gx_iload_n X dX3_paint_71 rfl 4 rfl ?_
          refine gM_s16 X (hD _) (by omega) dX3_paint_72 ?_
          refine gx_iload X dX3_paint_73 0 rfl ?_
          exact gx_iret hR (congrArg Prod.fst ((show M_paint S r c v = ((S.2 16 ((16 * r) + c)), (mA S 16 ((16 * r) + c) v)) from (if_pos hc10).trans ((if_neg hc24).trans ((if_neg hc30).trans (if_neg hc42)))))) (ret2 (fun z => (wM K q z)) ((show M_paint S r c v = ((S.2 16 ((16 * r) + c)), (mA S 16 ((16 * r) + c) v)) from (if_pos hc10).trans ((if_neg hc24).trans ((if_neg hc30).trans (if_neg hc42)))))) dX3_paint_75
        · refine gx_bipush (z := (-2)) X dX3_paint_45 (by decide) ?_
          exact gx_iret hR (congrArg Prod.fst ((show M_paint S r c v = ((-2), S) from (if_pos hc10).trans ((if_neg hc24).trans ((if_neg hc30).trans (if_pos hc42)))))) (ret2 (fun z => (wM K q z)) ((show M_paint S r c v = ((-2), S) from (if_pos hc10).trans ((if_neg hc24).trans ((if_neg hc30).trans (if_pos hc42)))))) dX3_paint_47
  · refine gx_iconst (z := (-1)) X dX3_paint_13 rfl ?_
    exact gx_iret hR (congrArg Prod.fst ((show M_paint S r c v = ((-1), S) from if_neg hc10))) (ret2 (fun z => (wM K q z)) ((show M_paint S r c v = ((-1), S) from if_neg hc10))) dX3_paint_14
def M_rule_m81 (m63 : Int) (S81 : Sta) : Int × Sta := (m63, S81)
def M_rule_m63 (S : Sta) (w : Int) (v : Int) (m63 : Int) : Int × Sta := M_rule_m81 m63 (if w = 0 then (mI S 3 v) else (mI S 4 v))
def M_rule_m39 (S : Sta) (w : Int) (v : Int) (m26 : Int) (m39 : Int) : Int × Sta := if (M_in v m26 m39) = 0 then ((-2), S) else M_rule_m63 S w v (if w = 0 then (S.1 3) else (S.1 4))
def M_rule_m26 (S : Sta) (w : Int) (v : Int) (m26 : Int) : Int × Sta := M_rule_m39 S w v m26 (if w = 0 then 30 else 9)
def M_rule (S : Sta) (w : Int) (v : Int) : Int × Sta := if (M_in w 0 1) = 0 then ((-2), S) else M_rule_m26 S w v (if w = 0 then 1 else 0)
set_option maxRecDepth 100000 in
theorem c_M_rule {l : Launch} {K : KK} {N : Int} (q : Nat → Nat) (S : Sta) (w : Int) (v : Int) (hI : InvW N S) (hp1 : ok32 w) (hp2 : ok32 v) : CtI l yX3_rule cX3_rule 4 .int (1, 25) K [.ref (q 0), .int (iI w), .int (iI v)] (wM K q S) (M_rule S w v).1 (wM K q ((M_rule S w v).2)) := by
  refine ctI_of (by decide) (Nat.le_of_ble_eq_true rfl) rfl ?_
  intro x X hD hR
  have hD : ∀ S9 : Sta, va_D (cx_A x) (wM K q S9) := fun S9 => va_D_same hD rfl
  have hs1 := InvM_s1 hI
  have hs2 := InvM_s2 hI
  have hs3 := InvM_s3 hI
  have hs4 := InvM_s4 hI
  refine gx_aload_n X dX3_rule_0 rfl 0 rfl ?_
  refine gx_iconst (z := 0) X dX3_rule_1 rfl ?_
  refine gM_t0 X (hD _) (InvM_t hI) dX3_rule_2 ?_
  refine gx_iload_n X dX3_rule_5 rfl 1 rfl ?_
  refine gx_i2l X dX3_rule_6 (by omega) ?_
  refine gx_lconst (v := lI 0) X dX3_rule_7 rfl ?_
  refine gx_lconst (v := lI 1) X dX3_rule_8 rfl ?_
  refine gx_callSI (As := [.long (lI w), .long (lI 0), .long (lI 1)]) (rest := []) X (hD _) lk_M_88 (c_M_in w 0 1 (by omega) (by omega) (by omega)) jn_nil rfl ⟨by decide, by decide⟩ (Nat.le_of_ble_eq_true rfl) dX3_rule_9 ?_
  have hq9_0 := M_in_sp w 0 1
  refine gx_if_eq (tgt := 45) X dX3_rule_12 (by decide) (by omega) (fun hc12 => ?_) (fun hc12 => ?_)
  · refine gx_bipush (z := (-2)) X dX3_rule_45 (by decide) ?_
    exact gx_iret hR (congrArg Prod.fst ((show M_rule S w v = ((-2), S) from if_pos hc12))) (ret2 (fun z => (wM K q z)) ((show M_rule S w v = ((-2), S) from if_pos hc12))) dX3_rule_47
  · refine gx_iload_n X dX3_rule_15 rfl 2 rfl ?_
    refine gx_i2l X dX3_rule_16 (by omega) ?_
    refine gx_iload_n X dX3_rule_17 rfl 1 rfl ?_
    have J26 : ∀ (m26 : Int), m26 = (if w = 0 then 1 else 0) → GG l (rmK (1, 25)) K x (wM K q S) 26 [(0, .ref (q 0)), (1, .int (iI w)), (2, .int (iI v))] [.long (lI m26), .long (lI v)] := by
      intro m26 e_m26
      refine gx_iload_n X dX3_rule_26 rfl 1 rfl ?_
      have J39 : ∀ (m39 : Int), m39 = (if w = 0 then 30 else 9) → GG l (rmK (1, 25)) K x (wM K q S) 39 [(0, .ref (q 0)), (1, .int (iI w)), (2, .int (iI v))] [.long (lI m39), .long (lI m26), .long (lI v)] := by
        intro m39 e_m39
        refine gx_callSI (As := [.long (lI v), .long (lI m26), .long (lI m39)]) (rest := []) X (hD _) lk_M_88 (c_M_in v m26 m39 (by omega) (by omega) (by omega)) jn_nil rfl ⟨by decide, by decide⟩ (Nat.le_of_ble_eq_true rfl) dX3_rule_39 ?_
        have hq39_0 := M_in_sp v m26 m39
        refine gx_if_ne (tgt := 48) X dX3_rule_42 (by decide) (by omega) (fun hc42 => ?_) (fun hc42 => ?_)
        · refine gx_iload_n X dX3_rule_48 rfl 1 rfl ?_
          have J63 : ∀ (m63 : Int), m63 = (if w = 0 then (S.1 3) else (S.1 4)) → GG l (rmK (1, 25)) K x (wM K q S) 63 [(0, .ref (q 0)), (1, .int (iI w)), (2, .int (iI v))] [.int (iI m63)] := by
            intro m63 e_m63
            refine gx_istore_n X dX3_rule_63 rfl (by decide) rfl ?_
            refine gx_iload_n X dX3_rule_64 rfl 2 rfl ?_
            have J81 : ∀ (S81 : Sta), S81 = (if w = 0 then (mI S 3 v) else (mI S 4 v)) → GG l (rmK (1, 25)) K x (wM K q S81) 81 [(0, .ref (q 0)), (1, .int (iI w)), (2, .int (iI v)), (3, .int (iI m63))] [] := by
              intro S81 e_S81
              refine gx_iload_n X dX3_rule_81 rfl 3 rfl ?_
              exact gx_iret hR (congrArg Prod.fst ((show M_rule S w v = (m63, S81) from (if_neg hc12).trans ((congrArg (fun z0 => M_rule_m26 S w v z0) e_m26.symm).trans ((congrArg (fun z0 => M_rule_m39 S w v m26 z0) e_m39.symm).trans ((if_neg hc42).trans ((congrArg (fun z0 => M_rule_m63 S w v z0) e_m63.symm).trans (congrArg (fun z0 => M_rule_m81 m63 z0) e_S81.symm)))))))) (ret2 (fun z => (wM K q z)) ((show M_rule S w v = (m63, S81) from (if_neg hc12).trans ((congrArg (fun z0 => M_rule_m26 S w v z0) e_m26.symm).trans ((congrArg (fun z0 => M_rule_m39 S w v m26 z0) e_m39.symm).trans ((if_neg hc42).trans ((congrArg (fun z0 => M_rule_m63 S w v z0) e_m63.symm).trans (congrArg (fun z0 => M_rule_m81 m63 z0) e_S81.symm)))))))) dX3_rule_82
            refine gx_if_ne (tgt := 76) X dX3_rule_65 (by decide) (by omega) (fun hc65 => ?_) (fun hc65 => ?_)
            · refine gx_aload_n X dX3_rule_76 rfl 1 rfl ?_
              refine gx_iload_n X dX3_rule_77 rfl 3 rfl ?_
              refine gM_p4 X (hD _) dX3_rule_78 ?_
              refine gx_sub [1, 2, 3, 0] rfl ?_
              exact J81 (mI S 4 v) ((if_neg hc65).symm) 
            · refine gx_aload_n X dX3_rule_68 rfl 1 rfl ?_
              refine gx_iload_n X dX3_rule_69 rfl 3 rfl ?_
              refine gM_p3 X (hD _) dX3_rule_70 ?_
              refine gx_goto (tgt := 81) X dX3_rule_73 (by decide) ?_
              refine gx_sub [1, 2, 3, 0] rfl ?_
              exact J81 (mI S 3 v) ((if_pos hc65).symm) 
          refine gx_if_ne (tgt := 59) X dX3_rule_49 (by decide) (by omega) (fun hc49 => ?_) (fun hc49 => ?_)
          · refine gx_aload_n X dX3_rule_59 rfl 0 rfl ?_
            refine gM_g4 (v := (S.1 4)) X rfl dX3_rule_60 ?_
            refine gx_sub [0, 1, 2] rfl ?_
            exact J63 (S.1 4) ((if_neg hc49).symm) 
          · refine gx_aload_n X dX3_rule_52 rfl 0 rfl ?_
            refine gM_g3 (v := (S.1 3)) X rfl dX3_rule_53 ?_
            refine gx_goto (tgt := 63) X dX3_rule_56 (by decide) ?_
            refine gx_sub [0, 1, 2] rfl ?_
            exact J63 (S.1 3) ((if_pos hc49).symm) 
        · refine gx_bipush (z := (-2)) X dX3_rule_45 (by decide) ?_
          exact gx_iret hR (congrArg Prod.fst ((show M_rule S w v = ((-2), S) from (if_neg hc12).trans ((congrArg (fun z0 => M_rule_m26 S w v z0) e_m26.symm).trans ((congrArg (fun z0 => M_rule_m39 S w v m26 z0) e_m39.symm).trans (if_pos hc42)))))) (ret2 (fun z => (wM K q z)) ((show M_rule S w v = ((-2), S) from (if_neg hc12).trans ((congrArg (fun z0 => M_rule_m26 S w v z0) e_m26.symm).trans ((congrArg (fun z0 => M_rule_m39 S w v m26 z0) e_m39.symm).trans (if_pos hc42)))))) dX3_rule_47
      refine gx_if_ne (tgt := 36) X dX3_rule_27 (by decide) (by omega) (fun hc27 => ?_) (fun hc27 => ?_)
      · refine gx_ldc2 (v := lI 9) X t_M_148 dX3_rule_36 ?_
        refine gx_sub [0, 1, 2] rfl ?_
        exact J39 9 ((if_neg hc27).symm) 
      · refine gx_ldc2 (v := lI 30) X t_M_146 dX3_rule_30 ?_
        refine gx_goto (tgt := 39) X dX3_rule_33 (by decide) ?_
        refine gx_sub [0, 1, 2] rfl ?_
        exact J39 30 ((if_pos hc27).symm) 
    refine gx_if_ne (tgt := 25) X dX3_rule_18 (by decide) (by omega) (fun hc18 => ?_) (fun hc18 => ?_)
    · refine gx_lconst (v := lI 0) X dX3_rule_25 rfl ?_
      refine gx_sub [0, 1, 2] rfl ?_
      exact J26 0 ((if_neg hc18).symm) 
    · refine gx_lconst (v := lI 1) X dX3_rule_21 rfl ?_
      refine gx_goto (tgt := 26) X dX3_rule_22 (by decide) ?_
      refine gx_sub [0, 1, 2] rfl ?_
      exact J26 1 ((if_pos hc18).symm) 
def M_unlike_l19 (S : Sta) (v2 : Int) : Nat → Int → Int → Int
  | 0, v1', v3 => v1'
  | fu + 1, v1', v3 => if (S.1 1) ≤ v3 then v1' else (fun (m48 : Int) => M_unlike_l19 S v2 fu (v1' + m48) (v3 + 1)) (if (M_fits S v2 v3 (M_colourOf S v2 v3)) = 0 then 1 else 0)
theorem M_unlike_l19_s (S : Sta) (v2 : Int) (fu : Nat) (v1' : Int) (v3 : Int) : M_unlike_l19 S v2 (fu + 1) v1' v3 = (if (S.1 1) ≤ v3 then v1' else (fun (m48 : Int) => M_unlike_l19 S v2 fu (v1' + m48) (v3 + 1)) (if (M_fits S v2 v3 (M_colourOf S v2 v3)) = 0 then 1 else 0)) := rfl
def M_unlike_l9 (S : Sta) : Nat → Int → Int → Int
  | 0, v1, v2 => v1
  | fu + 1, v1, v2 => if (M_seenRows S) ≤ v2 then v1 else (fun (z19 : Int) => M_unlike_l9 S fu z19 (v2 + 1)) (M_unlike_l19 S v2 (17) v1 0)
theorem M_unlike_l9_s (S : Sta) (fu : Nat) (v1 : Int) (v2 : Int) : M_unlike_l9 S (fu + 1) v1 v2 = (if (M_seenRows S) ≤ v2 then v1 else (fun (z19 : Int) => M_unlike_l9 S fu z19 (v2 + 1)) (M_unlike_l19 S v2 (17) v1 0)) := rfl
def M_unlike (S : Sta) : Int := (M_unlike_l9 S (31) 0 0)
set_option maxRecDepth 100000 in
theorem c_M_unlike {l : Launch} {K : KK} {N : Int} (q : Nat → Nat) (S : Sta) (hI : InvW N S) : CtI l yX3_unlike cX3_unlike 4 .int (1, 23) K [.ref (q 0)] (wM K q S) (M_unlike S) (wM K q S) := by
  refine ctI_of (by decide) (Nat.le_of_ble_eq_true rfl) rfl ?_
  intro x X hD hR
  have hD : ∀ S9 : Sta, va_D (cx_A x) (wM K q S9) := fun S9 => va_D_same hD rfl
  have hs1 := InvM_s1 hI
  have hs2 := InvM_s2 hI
  have hs3 := InvM_s3 hI
  have hs4 := InvM_s4 hI
  have hw := M_seenRows_sp S
  refine gx_aload_n X dX3_unlike_0 rfl 0 rfl ?_
  refine gx_iconst (z := 0) X dX3_unlike_1 rfl ?_
  refine gM_t0 X (hD _) (InvM_t hI) dX3_unlike_2 ?_
  refine gx_iconst (z := 0) X dX3_unlike_5 rfl ?_
  refine gx_istore_n X dX3_unlike_6 rfl (by decide) rfl ?_
  refine gx_iconst (z := 0) X dX3_unlike_7 rfl ?_
  refine gx_istore_n X dX3_unlike_8 rfl (by decide) rfl ?_
  have L9 : ∀ (fu : Nat) (v1 : Int) (v2 : Int), (0 ≤ v2) → (v2 ≤ (M_seenRows S)) → ((M_seenRows S) - v2) < (fu : Int) → (∀ z9 : Int, M_unlike_l9 S fu v1 v2 = z9 → True → GG l (rmK (1, 23)) K x (wM K q S) 62 [(0, .ref (q 0)), (1, .int (iI z9))] []) → GG l (rmK (1, 23)) K x (wM K q S) 9 [(0, .ref (q 0)), (1, .int (iI v1)), (2, .int (iI v2))] [] := by
    intro fu
    induction fu with
    | zero => intro v1 v2 hi9_0 hi9_1 hm9 K9; exact absurd hm9 (by omega)
    | succ fu ih =>
      intro v1 v2 hi9_0 hi9_1 hm9 K9
      refine gx_iload_n X dX3_unlike_9 rfl 2 rfl ?_
      refine gx_aload_n X dX3_unlike_10 rfl 0 rfl ?_
      refine gx_callVI (As := []) (rest := [.int (iI v2)]) X (hD _) lk_M_150 (ci := 3) rfl rfl 0 rfl (c_M_seenRows q S  hI) jn_all rfl ⟨by decide, by decide⟩ (Nat.le_of_ble_eq_true rfl) dX3_unlike_11 ?_
      have hq11_0 := M_seenRows_sp S 
      refine gx_icmp_ge (tgt := 62) X dX3_unlike_14 (by decide) (by omega) (fun hc14 => ?_) (fun hc14 => ?_)
      · refine gx_sub [0, 1] rfl ?_
        exact K9 v1 ((M_unlike_l9_s S fu v1 v2).trans (if_pos hc14)) trivial
      · refine gx_iconst (z := 0) X dX3_unlike_17 rfl ?_
        refine gx_istore_n X dX3_unlike_18 rfl (by decide) rfl ?_
        have L19 : ∀ (fu : Nat) (v1' : Int) (v3 : Int), (0 ≤ v3) → (v3 ≤ (S.1 1)) → ((S.1 1) - v3) < (fu : Int) → (∀ z19 : Int, M_unlike_l19 S v2 fu v1' v3 = z19 → True → GG l (rmK (1, 23)) K x (wM K q S) 56 [(0, .ref (q 0)), (1, .int (iI z19)), (2, .int (iI v2))] []) → GG l (rmK (1, 23)) K x (wM K q S) 19 [(0, .ref (q 0)), (1, .int (iI v1')), (2, .int (iI v2)), (3, .int (iI v3))] [] := by
          intro fu
          induction fu with
          | zero => intro v1' v3 hi19_0 hi19_1 hm19 K19; exact absurd hm19 (by omega)
          | succ fu ih =>
            intro v1' v3 hi19_0 hi19_1 hm19 K19
            refine gx_iload_n X dX3_unlike_19 rfl 3 rfl ?_
            refine gx_aload_n X dX3_unlike_20 rfl 0 rfl ?_
            refine gM_g1 (v := (S.1 1)) X rfl dX3_unlike_21 ?_
            refine gx_icmp_ge (tgt := 56) X dX3_unlike_24 (by decide) (by omega) (fun hc24 => ?_) (fun hc24 => ?_)
            · refine gx_sub [0, 1, 2] rfl ?_
              exact K19 v1' ((M_unlike_l19_s S v2 fu v1' v3).trans (if_pos hc24)) trivial
            · refine gx_iload_n X dX3_unlike_27 rfl 1 rfl ?_
              refine gx_aload_n X dX3_unlike_28 rfl 0 rfl ?_
              refine gx_iload_n X dX3_unlike_29 rfl 2 rfl ?_
              refine gx_iload_n X dX3_unlike_30 rfl 3 rfl ?_
              refine gx_aload_n X dX3_unlike_31 rfl 0 rfl ?_
              refine gx_iload_n X dX3_unlike_32 rfl 2 rfl ?_
              refine gx_iload_n X dX3_unlike_33 rfl 3 rfl ?_
              refine gx_callVI (As := [.int (iI v2), .int (iI v3)]) (rest := [.int (iI v3), .int (iI v2), .ref (q 0), .int (iI v1')]) X (hD _) lk_M_124 (ci := 3) rfl rfl 0 rfl (c_M_colourOf q S v2 v3 hI (by omega) (by omega)) jn_all rfl ⟨by decide, by decide⟩ (Nat.le_of_ble_eq_true rfl) dX3_unlike_34 ?_
              have hp34_0 := M_colourOf_rg S v2 v3 hI (by omega) (by omega)
              refine gx_callVI (As := [.int (iI v2), .int (iI v3), .int (iI (M_colourOf S v2 v3))]) (rest := [.int (iI v1')]) X (hD _) lk_M_154 (ci := 3) rfl rfl 0 rfl (c_M_fits q S v2 v3 (M_colourOf S v2 v3) hI (by omega) (by omega) (by omega)) jn_all rfl ⟨by decide, by decide⟩ (Nat.le_of_ble_eq_true rfl) dX3_unlike_37 ?_
              have hq37_0 := M_fits_01 S v2 v3 (M_colourOf S v2 v3)
              have J48 : ∀ (m48 : Int), m48 = (if (M_fits S v2 v3 (M_colourOf S v2 v3)) = 0 then 1 else 0) → GG l (rmK (1, 23)) K x (wM K q S) 48 [(0, .ref (q 0)), (1, .int (iI v1')), (2, .int (iI v2)), (3, .int (iI v3))] [.int (iI m48), .int (iI v1')] := by
                intro m48 e_m48
                refine gx_iadd X dX3_unlike_48 ?_
                refine gx_istore_n X dX3_unlike_49 rfl (by decide) rfl ?_
                refine gx_iinc X dX3_unlike_50 3 rfl (by decide) rfl ?_
                refine gx_goto (tgt := 19) X dX3_unlike_53 (by decide) ?_
                refine gx_sub [2, 1, 3, 0] rfl ?_
                subst e_m48
                exact ih _ _ (by omega) (by omega) (by omega) (fun z e hx => K19 z ((M_unlike_l19_s S v2 fu v1' v3).trans ((if_neg hc24).trans e)) hx)
              refine gx_if_eq (tgt := 47) X dX3_unlike_40 (by decide) (by omega) (fun hc40 => ?_) (fun hc40 => ?_)
              · refine gx_iconst (z := 1) X dX3_unlike_47 rfl ?_
                refine gx_sub [0, 1, 2, 3] rfl ?_
                exact J48 1 ((if_pos hc40).symm) 
              · refine gx_iconst (z := 0) X dX3_unlike_43 rfl ?_
                refine gx_goto (tgt := 48) X dX3_unlike_44 (by decide) ?_
                refine gx_sub [0, 1, 2, 3] rfl ?_
                exact J48 0 ((if_neg hc40).symm) 
        refine gx_sub [1, 2, 3, 0] rfl ?_
        refine L19 (17) v1 0 (by omega) (by omega) (by omega) (fun z19 e19 hx19 => ?_)
        refine gx_iinc X dX3_unlike_56 2 rfl (by decide) rfl ?_
        refine gx_goto (tgt := 9) X dX3_unlike_59 (by decide) ?_
        refine gx_sub [1, 2, 0] rfl ?_
        subst e19
        exact ih _ _ (by omega) (by omega) (by omega) (fun z e hx => K9 z ((M_unlike_l9_s S fu v1 v2).trans ((if_neg hc14).trans e)) hx)
  refine gx_sub [2, 1, 0] rfl ?_
  refine L9 (31) 0 0 (by omega) (by omega) (by omega) (fun z9 e9 hx9 => ?_)
  refine gx_iload_n X dX3_unlike_62 rfl 1 rfl ?_
  exact gx_iret hR (e9) rfl dX3_unlike_63
def M_lies (S : Sta) (c : Int) (t : Int) (p : Int) : Int := (S.2 1 ((4 * c) + (((p + 8) - t) % 4)))
theorem M_lies_rg {N : Int} (S : Sta) (c t p : Int) (hI : InvW N S) (_ : 0 ≤ c ∧ c < 16) (_ : 0 ≤ t ∧ t ≤ 3) (_ : 0 ≤ p ∧ p ≤ 3) : 0 ≤ M_lies S c t p ∧ M_lies S c t p ≤ 3 := InvM_a1 hI _
set_option maxRecDepth 100000 in
theorem c_M_lies {l : Launch} {K : KK} {N : Int} (q : Nat → Nat) (S : Sta) (c : Int) (t : Int) (p : Int) (hI : InvW N S) (hp1 : 0 ≤ c ∧ c < 16) (hp2 : 0 ≤ t ∧ t ≤ 3) (hp3 : 0 ≤ p ∧ p ≤ 3) : CtI l yX3_lies cX3_lies 4 .int (0, 0) K [.ref (q 0), .int (iI c), .int (iI t), .int (iI p)] (wM K q S) (M_lies S c t p) (wM K q S) := by
  refine ctI_of (by decide) (Nat.le_of_ble_eq_true rfl) rfl ?_
  intro x X hD hR
  have hD : ∀ S9 : Sta, va_D (cx_A x) (wM K q S9) := fun S9 => va_D_same hD rfl
  have hs1 := InvM_s1 hI
  have hs2 := InvM_s2 hI
  have hs3 := InvM_s3 hI
  have hs4 := InvM_s4 hI
  refine gx_aload_n X dX3_lies_0 rfl 0 rfl ?_
  refine gM_r1 X dX3_lies_1 ?_
  refine gx_iconst (z := 4) X dX3_lies_4 rfl ?_
  refine gx_iload_n X dX3_lies_5 rfl 1 rfl ?_
  refine gx_imul X dX3_lies_6 ?_
  refine gx_iload_n X dX3_lies_7 rfl 3 rfl ?_
  refine gx_bipush (z := 8) X dX3_lies_8 (by decide) ?_
  refine gx_iadd X dX3_lies_10 ?_
  refine gx_iload_n X dX3_lies_11 rfl 2 rfl ?_
  refine gx_isub X dX3_lies_12 ?_
  refine gx_iconst (z := 4) X dX3_lies_13 rfl ?_
  refine gx_irem X dX3_lies_14 (by omega) ?_
  refine gx_iadd X dX3_lies_15 ?_
  refine gM_l1 (v := (S.2 1 ((4 * c) + (((p + 8) - t) % 4)))) X (by omega) rfl dX3_lies_16 ?_
  have hr16 := InvM_a1 hI ((4 * c) + (((p + 8) - t) % 4))
  exact gx_iret hR (rfl) rfl dX3_lies_17
def M_spot (r : Int) (t : Int) (h : Int) (n : Int) (u : Int) : Int := (((((((((r * 4) + t) * 4) + h) * 10) + n) * 61) + u) + 30)
theorem M_spot_sp (r t h n u : Int) : M_spot r t h n u = 9760 * r + 2440 * t + 610 * h + 61 * n + u + 30 := by
  unfold M_spot
  omega
set_option maxRecDepth 100000 in
theorem c_M_spot {l : Launch} {K : KK} (r : Int) (t : Int) (h : Int) (n : Int) (u : Int)  : CtI l yX3_spot cX3_spot 5 .int (0, 0) K [.int (iI r), .int (iI t), .int (iI h), .int (iI n), .int (iI u)] [] (M_spot r t h n u) [] := by
  refine ctI_of (by decide) (Nat.le_of_ble_eq_true rfl) rfl ?_
  intro x X hD hR
  refine gx_iload_n X dX3_spot_0 rfl 0 rfl ?_
  refine gx_iconst (z := 4) X dX3_spot_1 rfl ?_
  refine gx_imul X dX3_spot_2 ?_
  refine gx_iload_n X dX3_spot_3 rfl 1 rfl ?_
  refine gx_iadd X dX3_spot_4 ?_
  refine gx_iconst (z := 4) X dX3_spot_5 rfl ?_
  refine gx_imul X dX3_spot_6 ?_
  refine gx_iload_n X dX3_spot_7 rfl 2 rfl ?_
  refine gx_iadd X dX3_spot_8 ?_
  refine gx_bipush (z := 10) X dX3_spot_9 (by decide) ?_
  refine gx_imul X dX3_spot_11 ?_
  refine gx_iload_n X dX3_spot_12 rfl 3 rfl ?_
  refine gx_iadd X dX3_spot_13 ?_
  refine gx_bipush (z := 61) X dX3_spot_14 (by decide) ?_
  refine gx_imul X dX3_spot_16 ?_
  refine gx_iload X dX3_spot_17 4 rfl ?_
  refine gx_iadd X dX3_spot_19 ?_
  refine gx_bipush (z := 30) X dX3_spot_20 (by decide) ?_
  refine gx_iadd X dX3_spot_22 ?_
  exact gx_iret hR (rfl) rfl dX3_spot_23
end
section
def M_by_m138 (S : Sta) (c : Int) (r : Int) (t : Int) (u : Int) (d : Int) (m104 : Int) (m138 : Int) : Int := if (M_in (u + m138) (-30) 30) = 0 then 1000000 else if (M_fits S r c (S.2 0 ((4 * c) + (M_lies S c ((t + m104) % 4) d)))) = 0 then 1000000 else (S.2 17 (M_spot (r + 1) ((t + m104) % 4) (M_lies S c ((t + m104) % 4) d) 0 (u + m138)))
def M_by_m104 (S : Sta) (c : Int) (r : Int) (t : Int) (u : Int) (d : Int) (m104 : Int) : Int := M_by_m138 S c r t u d m104 (if d = (S.2 2 c) then 1 else (-1))
def M_by_m72 (m72 : Int) : Int := if 1000000 ≤ m72 then 1000000 else (m72 + 1000)
def M_by_m40 (S : Sta) (r : Int) (t : Int) (h : Int) (n : Int) (u : Int) (m40 : Int) : Int := M_by_m72 (if m40 = 0 then 1000000 else (S.2 17 (M_spot (r + 1) t h (n + 1) u)))
def M_by (S : Sta) (c : Int) (r : Int) (t : Int) (h : Int) (n : Int) (u : Int) (d : Int) : Int := if d = 2 then M_by_m40 S r t h n u (if (S.1 4) ≤ n then 0 else if (M_fits S r c (S.2 0 ((4 * c) + h))) = 0 then 0 else 1) else M_by_m104 S c r t u d (if d = 0 then 1 else 3)
theorem M_by_rg {N : Int} (S : Sta) (c r t h n u d : Int) (hI : InvW N S) (_ : 0 ≤ c ∧ c < 16) (_ : 0 ≤ r ∧ r < 30) (_ : 0 ≤ t ∧ t ≤ 3) (_ : 0 ≤ h ∧ h ≤ 3) (_ : 0 ≤ n ∧ n ≤ 9) (_ : -r ≤ u ∧ u ≤ r) (_ : (0 ≤ d ∧ d ≤ 2) ∧ (d = 2 → n ≤ 8)) : 0 ≤ M_by S c r t h n u d ∧ M_by S c r t h n u d ≤ 1000999 := by
  have h9 := fun j => InvM_a17 hI j
  unfold M_by
  split
  · unfold M_by_m40 M_by_m72
    have h8 := h9 (M_spot (r + 1) t h (n + 1) u)
    omega
  · unfold M_by_m104 M_by_m138
    have h8 := h9 (M_spot (r + 1) ((t + (if d = 0 then 1 else 3)) % 4) (M_lies S c ((t + (if d = 0 then 1 else 3)) % 4) d) 0 (u + (if d = S.2 2 c then 1 else (-1))))
    omega
set_option maxRecDepth 100000 in
theorem c_M_by {l : Launch} {K : KK} {N : Int} (q : Nat → Nat) (S : Sta) (c : Int) (r : Int) (t : Int) (h : Int) (n : Int) (u : Int) (d : Int) (hI : InvW N S) (hp1 : 0 ≤ c ∧ c < 16) (hp2 : 0 ≤ r ∧ r < 30) (hp3 : 0 ≤ t ∧ t ≤ 3) (hp4 : 0 ≤ h ∧ h ≤ 3) (hp5 : 0 ≤ n ∧ n ≤ 9) (hp6 : -r ≤ u ∧ u ≤ r) (hp7 : (0 ≤ d ∧ d ≤ 2) ∧ (d = 2 → n ≤ 8)) : CtI l yX3_by cX3_by 11 .int (1, 25) K [.ref (q 0), .int (iI c), .int (iI r), .int (iI t), .int (iI h), .int (iI n), .int (iI u), .int (iI d)] (wM K q S) (M_by S c r t h n u d) (wM K q S) := by
  refine ctI_of (by decide) (Nat.le_of_ble_eq_true rfl) rfl ?_
  intro x X hD hR
  have hD : ∀ S9 : Sta, va_D (cx_A x) (wM K q S9) := fun S9 => va_D_same hD rfl
  have hs1 := InvM_s1 hI
  have hs2 := InvM_s2 hI
  have hs3 := InvM_s3 hI
  have hs4 := InvM_s4 hI
  refine gx_iload X dX3_by_0 7 rfl ?_
  refine gx_iconst (z := 2) X dX3_by_2 rfl ?_
  refine gx_icmp_ne (tgt := 93) X dX3_by_3 (by decide) (by omega) (fun hc3 => ?_) (fun hc3 => ?_)
  · refine gx_iload_n X dX3_by_93 rfl 3 rfl ?_
    refine gx_iload X dX3_by_94 7 rfl ?_
    have J104 : ∀ (m104 : Int), m104 = (if d = 0 then 1 else 3) → GG l (rmK (1, 25)) K x (wM K q S) 104 [(0, .ref (q 0)), (1, .int (iI c)), (2, .int (iI r)), (3, .int (iI t)), (4, .int (iI h)), (5, .int (iI n)), (6, .int (iI u)), (7, .int (iI d))] [.int (iI m104), .int (iI t)] := by
      intro m104 e_m104
      refine gx_iadd X dX3_by_104 ?_
      refine gx_iconst (z := 4) X dX3_by_105 rfl ?_
      refine gx_irem X dX3_by_106 (by omega) ?_
      refine gx_istore X dX3_by_107 (by decide) rfl ?_
      refine gx_aload_n X dX3_by_109 rfl 1 rfl ?_
      refine gx_iload_n X dX3_by_110 rfl 2 rfl ?_
      refine gx_iload X dX3_by_111 0 rfl ?_
      refine gx_iload X dX3_by_113 8 rfl ?_
      refine gx_callVI (As := [.int (iI c), .int (iI ((t + m104) % 4)), .int (iI d)]) (rest := []) X (hD _) lk_M_162 (ci := 3) rfl rfl 0 rfl (c_M_lies q S c ((t + m104) % 4) d hI (by omega) (by omega) (by omega)) jn_all rfl ⟨by decide, by decide⟩ (Nat.le_of_ble_eq_true rfl) dX3_by_115 ?_
      have hp115_0 := M_lies_rg S c ((t + m104) % 4) d hI (by omega) (by omega) (by omega)
      refine gx_istore X dX3_by_118 (by decide) rfl ?_
      refine gx_iload X dX3_by_120 8 rfl ?_
      refine gx_iload X dX3_by_122 9 rfl ?_
      refine gx_aload_n X dX3_by_124 rfl 2 rfl ?_
      refine gM_r2 X dX3_by_125 ?_
      refine gx_iload_n X dX3_by_128 rfl 3 rfl ?_
      refine gM_l2 (v := (S.2 2 c)) X (by omega) rfl dX3_by_129 ?_
      have hr129 := InvM_a2 hI c
      have J138 : ∀ (m138 : Int), m138 = (if d = (S.2 2 c) then 1 else (-1)) → GG l (rmK (1, 25)) K x (wM K q S) 138 [(0, .ref (q 0)), (1, .int (iI c)), (2, .int (iI r)), (3, .int (iI t)), (4, .int (iI h)), (5, .int (iI n)), (6, .int (iI u)), (7, .int (iI d)), (8, .int (iI ((t + m104) % 4))), (9, .int (iI (M_lies S c ((t + m104) % 4) d)))] [.int (iI m138), .int (iI u)] := by
        intro m138 e_m138
        refine gx_iadd X dX3_by_138 ?_
        refine gx_istore X dX3_by_139 (by decide) rfl ?_
        refine gx_iload X dX3_by_141 0 rfl ?_
        refine gx_i2l X dX3_by_143 (by omega) ?_
        refine gx_ldc2 (v := lI (-30)) X t_M_166 dX3_by_144 ?_
        refine gx_ldc2 (v := lI 30) X t_M_146 dX3_by_147 ?_
        refine gx_callSI (As := [.long (lI (u + m138)), .long (lI (-30)), .long (lI 30)]) (rest := []) X (hD _) lk_M_88 (c_M_in (u + m138) (-30) 30 (by omega) (by omega) (by omega)) jn_nil rfl ⟨by decide, by decide⟩ (Nat.le_of_ble_eq_true rfl) dX3_by_150 ?_
        have hq150_0 := M_in_sp (u + m138) (-30) 30
        have J199 : ∀ (m199 : Int), m199 = (if (M_in (u + m138) (-30) 30) = 0 then 1000000 else if (M_fits S r c (S.2 0 ((4 * c) + (M_lies S c ((t + m104) % 4) d)))) = 0 then 1000000 else (S.2 17 (M_spot (r + 1) ((t + m104) % 4) (M_lies S c ((t + m104) % 4) d) 0 (u + m138)))) → GG l (rmK (1, 25)) K x (wM K q S) 199 [(0, .ref (q 0)), (1, .int (iI c)), (2, .int (iI r)), (3, .int (iI t)), (4, .int (iI h)), (5, .int (iI n)), (6, .int (iI u)), (7, .int (iI d)), (8, .int (iI ((t + m104) % 4))), (9, .int (iI (M_lies S c ((t + m104) % 4) d))), (10, .int (iI (u + m138)))] [.int (iI m199)] := by
          intro m199 e_m199
          exact gx_iret hR ((if_neg hc3).trans ((congrArg (fun z0 => M_by_m104 S c r t u d z0) e_m104.symm).trans ((congrArg (fun z0 => M_by_m138 S c r t u d m104 z0) e_m138.symm).trans (e_m199.symm)))) rfl dX3_by_199
        refine gx_if_eq (tgt := 197) X dX3_by_153 (by decide) (by omega) (fun hc153 => ?_) (fun hc153 => ?_)
        · refine gx_ldc (z := 1000000) X t_M_161 dX3_by_197 (by decide) ?_
          refine gx_sub [1, 2, 3, 4, 5, 6, 7, 8, 9, 10, 0] rfl ?_
          exact J199 1000000 ((if_pos hc153).symm) 
        · refine gx_aload_n X dX3_by_156 rfl 1 rfl ?_
          refine gx_iload_n X dX3_by_157 rfl 3 rfl ?_
          refine gx_iload_n X dX3_by_158 rfl 2 rfl ?_
          refine gx_aload_n X dX3_by_159 rfl 1 rfl ?_
          refine gM_r0 X dX3_by_160 ?_
          refine gx_iconst (z := 4) X dX3_by_163 rfl ?_
          refine gx_iload_n X dX3_by_164 rfl 2 rfl ?_
          refine gx_imul X dX3_by_165 ?_
          refine gx_iload X dX3_by_166 10 rfl ?_
          refine gx_iadd X dX3_by_168 ?_
          refine gM_l0 (v := (S.2 0 ((4 * c) + (M_lies S c ((t + m104) % 4) d)))) X (by omega) rfl dX3_by_169 ?_
          have hr169 := InvM_a0 hI ((4 * c) + (M_lies S c ((t + m104) % 4) d))
          refine gx_callVI (As := [.int (iI r), .int (iI c), .int (iI (S.2 0 ((4 * c) + (M_lies S c ((t + m104) % 4) d))))]) (rest := []) X (hD _) lk_M_154 (ci := 3) rfl rfl 0 rfl (c_M_fits q S r c (S.2 0 ((4 * c) + (M_lies S c ((t + m104) % 4) d))) hI (by omega) (by omega) (by omega)) jn_all rfl ⟨by decide, by decide⟩ (Nat.le_of_ble_eq_true rfl) dX3_by_170 ?_
          have hq170_0 := M_fits_01 S r c (S.2 0 ((4 * c) + (M_lies S c ((t + m104) % 4) d)))
          refine gx_if_eq (tgt := 197) X dX3_by_173 (by decide) (by omega) (fun hc173 => ?_) (fun hc173 => ?_)
          · refine gx_ldc (z := 1000000) X t_M_161 dX3_by_197 (by decide) ?_
            refine gx_sub [1, 2, 3, 4, 5, 6, 7, 8, 9, 10, 0] rfl ?_
            exact J199 1000000 (((if_neg hc153).trans (if_pos hc173)).symm) 
          · refine gx_aload_n X dX3_by_176 rfl 1 rfl ?_
            refine gM_r17 X dX3_by_177 ?_
            refine gx_iload_n X dX3_by_180 rfl 3 rfl ?_
            refine gx_iconst (z := 1) X dX3_by_181 rfl ?_
            refine gx_iadd X dX3_by_182 ?_
            refine gx_iload X dX3_by_183 9 rfl ?_
            refine gx_iload X dX3_by_185 10 rfl ?_
            refine gx_iconst (z := 0) X dX3_by_187 rfl ?_
            refine gx_iload X dX3_by_188 0 rfl ?_
            refine gx_callSI (As := [.int (iI (r + 1)), .int (iI ((t + m104) % 4)), .int (iI (M_lies S c ((t + m104) % 4) d)), .int (iI 0), .int (iI (u + m138))]) (rest := [.ref (q 18)]) X (hD _) lk_M_157 (c_M_spot (r + 1) ((t + m104) % 4) (M_lies S c ((t + m104) % 4) d) 0 (u + m138) ) jn_nil rfl ⟨by decide, by decide⟩ (Nat.le_of_ble_eq_true rfl) dX3_by_190 ?_
            have hq190_0 := M_spot_sp (r + 1) ((t + m104) % 4) (M_lies S c ((t + m104) % 4) d) 0 (u + m138)
            refine gM_l17 (v := (S.2 17 (M_spot (r + 1) ((t + m104) % 4) (M_lies S c ((t + m104) % 4) d) 0 (u + m138)))) X (by omega) rfl dX3_by_193 ?_
            have hr193 := InvM_a17 hI (M_spot (r + 1) ((t + m104) % 4) (M_lies S c ((t + m104) % 4) d) 0 (u + m138))
            refine gx_goto (tgt := 199) X dX3_by_194 (by decide) ?_
            refine gx_sub [1, 2, 3, 4, 5, 6, 7, 8, 9, 10, 0] rfl ?_
            exact J199 (S.2 17 (M_spot (r + 1) ((t + m104) % 4) (M_lies S c ((t + m104) % 4) d) 0 (u + m138))) (((if_neg hc153).trans (if_neg hc173)).symm) 
      refine gx_icmp_ne (tgt := 137) X dX3_by_130 (by decide) (by omega) (fun hc130 => ?_) (fun hc130 => ?_)
      · refine gx_iconst (z := (-1)) X dX3_by_137 rfl ?_
        refine gx_sub [2, 3, 4, 5, 6, 7, 8, 9, 1, 0] rfl ?_
        exact J138 (-1) ((if_neg hc130).symm) 
      · refine gx_iconst (z := 1) X dX3_by_133 rfl ?_
        refine gx_goto (tgt := 138) X dX3_by_134 (by decide) ?_
        refine gx_sub [2, 3, 4, 5, 6, 7, 8, 9, 1, 0] rfl ?_
        exact J138 1 ((if_pos hc130).symm) 
    refine gx_if_ne (tgt := 103) X dX3_by_96 (by decide) (by omega) (fun hc96 => ?_) (fun hc96 => ?_)
    · refine gx_iconst (z := 3) X dX3_by_103 rfl ?_
      refine gx_sub [0, 1, 2, 3, 4, 5, 6, 7] rfl ?_
      exact J104 3 ((if_neg hc96).symm) 
    · refine gx_iconst (z := 1) X dX3_by_99 rfl ?_
      refine gx_goto (tgt := 104) X dX3_by_100 (by decide) ?_
      refine gx_sub [0, 1, 2, 3, 4, 5, 6, 7] rfl ?_
      exact J104 1 ((if_pos hc96).symm) 
  · refine gx_iload X dX3_by_6 5 rfl ?_
    refine gx_aload_n X dX3_by_8 rfl 0 rfl ?_
    refine gM_g4 (v := (S.1 4)) X rfl dX3_by_9 ?_
    have J40 : ∀ (m40 : Int), m40 = (if (S.1 4) ≤ n then 0 else if (M_fits S r c (S.2 0 ((4 * c) + h))) = 0 then 0 else 1) → GG l (rmK (1, 25)) K x (wM K q S) 40 [(0, .ref (q 0)), (1, .int (iI c)), (2, .int (iI r)), (3, .int (iI t)), (4, .int (iI h)), (5, .int (iI n)), (6, .int (iI u)), (7, .int (iI d))] [.int (iI m40)] := by
      intro m40 e_m40
      refine gx_istore X dX3_by_40 (by decide) rfl ?_
      refine gx_iload X dX3_by_42 0 rfl ?_
      have J72 : ∀ (m72 : Int), m72 = (if m40 = 0 then 1000000 else (S.2 17 (M_spot (r + 1) t h (n + 1) u))) → (0 ≤ m72 ∧ m72 ≤ 1000000) → GG l (rmK (1, 25)) K x (wM K q S) 72 [(0, .ref (q 0)), (1, .int (iI c)), (2, .int (iI r)), (3, .int (iI t)), (4, .int (iI h)), (5, .int (iI n)), (6, .int (iI u)), (7, .int (iI d)), (8, .int (iI m40))] [.int (iI m72)] := by
        intro m72 e_m72 hf72_0
        refine gx_istore X dX3_by_72 (by decide) rfl ?_
        refine gx_iload X dX3_by_74 0 rfl ?_
        refine gx_ldc (z := 1000000) X t_M_161 dX3_by_76 (by decide) ?_
        have J92 : ∀ (m92 : Int), m92 = (if 1000000 ≤ m72 then 1000000 else (m72 + 1000)) → GG l (rmK (1, 25)) K x (wM K q S) 92 [(0, .ref (q 0)), (1, .int (iI c)), (2, .int (iI r)), (3, .int (iI t)), (4, .int (iI h)), (5, .int (iI n)), (6, .int (iI u)), (7, .int (iI d)), (8, .int (iI m40)), (9, .int (iI m72))] [.int (iI m92)] := by
          intro m92 e_m92
          exact gx_iret hR ((if_pos hc3).trans ((congrArg (fun z0 => M_by_m40 S r t h n u z0) e_m40.symm).trans ((congrArg (fun z0 => M_by_m72 z0) e_m72.symm).trans (e_m92.symm)))) rfl dX3_by_92
        refine gx_icmp_ge (tgt := 90) X dX3_by_78 (by decide) (by omega) (fun hc78 => ?_) (fun hc78 => ?_)
        · refine gx_ldc (z := 1000000) X t_M_161 dX3_by_90 (by decide) ?_
          refine gx_sub [1, 2, 3, 4, 5, 6, 7, 8, 9, 0] rfl ?_
          exact J92 1000000 ((if_pos hc78).symm) 
        · refine gx_iload X dX3_by_81 0 rfl ?_
          refine gx_sipush (z := 1000) X dX3_by_83 (by decide) ?_
          refine gx_iadd X dX3_by_86 ?_
          refine gx_goto (tgt := 92) X dX3_by_87 (by decide) ?_
          refine gx_sub [1, 2, 3, 4, 5, 6, 7, 8, 9, 0] rfl ?_
          exact J92 (m72 + 1000) ((if_neg hc78).symm) 
      refine gx_if_eq (tgt := 70) X dX3_by_44 (by decide) (by omega) (fun hc44 => ?_) (fun hc44 => ?_)
      · refine gx_ldc (z := 1000000) X t_M_161 dX3_by_70 (by decide) ?_
        refine gx_sub [1, 2, 3, 4, 5, 6, 7, 8, 0] rfl ?_
        exact J72 1000000 ((if_pos hc44).symm) (by omega)
      · refine gx_aload_n X dX3_by_47 rfl 1 rfl ?_
        refine gM_r17 X dX3_by_48 ?_
        refine gx_iload_n X dX3_by_51 rfl 3 rfl ?_
        refine gx_iconst (z := 1) X dX3_by_52 rfl ?_
        refine gx_iadd X dX3_by_53 ?_
        refine gx_iload_n X dX3_by_54 rfl 4 rfl ?_
        refine gx_iload X dX3_by_55 5 rfl ?_
        refine gx_iload X dX3_by_57 6 rfl ?_
        refine gx_iconst (z := 1) X dX3_by_59 rfl ?_
        refine gx_iadd X dX3_by_60 ?_
        refine gx_iload X dX3_by_61 7 rfl ?_
        refine gx_callSI (As := [.int (iI (r + 1)), .int (iI t), .int (iI h), .int (iI (n + 1)), .int (iI u)]) (rest := [.ref (q 18)]) X (hD _) lk_M_157 (c_M_spot (r + 1) t h (n + 1) u ) jn_nil rfl ⟨by decide, by decide⟩ (Nat.le_of_ble_eq_true rfl) dX3_by_63 ?_
        have hq63_0 := M_spot_sp (r + 1) t h (n + 1) u
        refine gM_l17 (v := (S.2 17 (M_spot (r + 1) t h (n + 1) u))) X (by omega) rfl dX3_by_66 ?_
        have hr66 := InvM_a17 hI (M_spot (r + 1) t h (n + 1) u)
        refine gx_goto (tgt := 72) X dX3_by_67 (by decide) ?_
        refine gx_sub [1, 2, 3, 4, 5, 6, 7, 8, 0] rfl ?_
        exact J72 (S.2 17 (M_spot (r + 1) t h (n + 1) u)) ((if_neg hc44).symm) (by omega)
    refine gx_icmp_ge (tgt := 39) X dX3_by_12 (by decide) (by omega) (fun hc12 => ?_) (fun hc12 => ?_)
    · refine gx_iconst (z := 0) X dX3_by_39 rfl ?_
      refine gx_sub [0, 1, 2, 3, 4, 5, 6, 7] rfl ?_
      exact J40 0 ((if_pos hc12).symm) 
    · refine gx_aload_n X dX3_by_15 rfl 0 rfl ?_
      refine gx_iload_n X dX3_by_16 rfl 2 rfl ?_
      refine gx_iload_n X dX3_by_17 rfl 1 rfl ?_
      refine gx_aload_n X dX3_by_18 rfl 0 rfl ?_
      refine gM_r0 X dX3_by_19 ?_
      refine gx_iconst (z := 4) X dX3_by_22 rfl ?_
      refine gx_iload_n X dX3_by_23 rfl 1 rfl ?_
      refine gx_imul X dX3_by_24 ?_
      refine gx_iload X dX3_by_25 4 rfl ?_
      refine gx_iadd X dX3_by_27 ?_
      refine gM_l0 (v := (S.2 0 ((4 * c) + h))) X (by omega) rfl dX3_by_28 ?_
      have hr28 := InvM_a0 hI ((4 * c) + h)
      refine gx_callVI (As := [.int (iI r), .int (iI c), .int (iI (S.2 0 ((4 * c) + h)))]) (rest := []) X (hD _) lk_M_154 (ci := 3) rfl rfl 0 rfl (c_M_fits q S r c (S.2 0 ((4 * c) + h)) hI (by omega) (by omega) (by omega)) jn_all rfl ⟨by decide, by decide⟩ (Nat.le_of_ble_eq_true rfl) dX3_by_29 ?_
      have hq29_0 := M_fits_01 S r c (S.2 0 ((4 * c) + h))
      refine gx_if_eq (tgt := 39) X dX3_by_32 (by decide) (by omega) (fun hc32 => ?_) (fun hc32 => ?_)
      · refine gx_iconst (z := 0) X dX3_by_39 rfl ?_
        refine gx_sub [0, 1, 2, 3, 4, 5, 6, 7] rfl ?_
        exact J40 0 (((if_neg hc12).trans (if_pos hc32)).symm) 
      · refine gx_iconst (z := 1) X dX3_by_35 rfl ?_
        refine gx_goto (tgt := 40) X dX3_by_36 (by decide) ?_
        refine gx_sub [0, 1, 2, 3, 4, 5, 6, 7] rfl ?_
        exact J40 1 (((if_neg hc12).trans (if_neg hc32)).symm) 
def M_quarrelOf_l12 (S : Sta) (c : Int) (v2 : Int) : Nat → Int → (Int) ⊕ (Unit)
  | 0, v3 => .inr ()
  | fu + 1, v3 => if v2 ≤ v3 then .inr () else (fun (m79 : Int) => if m79 = 0 then M_quarrelOf_l12 S c v2 fu (v3 + 1) else if (S.2 16 ((16 * v2) + c)) = (S.2 16 ((16 * v3) + c)) then M_quarrelOf_l12 S c v2 fu (v3 + 1) else .inl v2) (if (S.2 13 ((16 * v2) + c)) = (S.2 13 ((16 * v3) + c)) then if (S.2 16 ((16 * v2) + c)) = (-99) then 0 else if (S.2 16 ((16 * v3) + c)) = (-99) then 0 else 1 else 0)
theorem M_quarrelOf_l12_s (S : Sta) (c : Int) (v2 : Int) (fu : Nat) (v3 : Int) : M_quarrelOf_l12 S c v2 (fu + 1) v3 = (if v2 ≤ v3 then .inr () else (fun (m79 : Int) => if m79 = 0 then M_quarrelOf_l12 S c v2 fu (v3 + 1) else if (S.2 16 ((16 * v2) + c)) = (S.2 16 ((16 * v3) + c)) then M_quarrelOf_l12 S c v2 fu (v3 + 1) else .inl v2) (if (S.2 13 ((16 * v2) + c)) = (S.2 13 ((16 * v3) + c)) then if (S.2 16 ((16 * v2) + c)) = (-99) then 0 else if (S.2 16 ((16 * v3) + c)) = (-99) then 0 else 1 else 0)) := rfl
def M_quarrelOf_l2 (S : Sta) (c : Int) : Nat → Int → (Int) ⊕ (Unit)
  | 0, v2 => .inr ()
  | fu + 1, v2 => if (M_seenRows S) ≤ v2 then .inr () else Sum.elim Sum.inl (fun (z12 : Unit) => M_quarrelOf_l2 S c fu (v2 + 1)) (M_quarrelOf_l12 S c v2 (31) 0)
theorem M_quarrelOf_l2_s (S : Sta) (c : Int) (fu : Nat) (v2 : Int) : M_quarrelOf_l2 S c (fu + 1) v2 = (if (M_seenRows S) ≤ v2 then .inr () else Sum.elim Sum.inl (fun (z12 : Unit) => M_quarrelOf_l2 S c fu (v2 + 1)) (M_quarrelOf_l12 S c v2 (31) 0)) := rfl
def M_quarrelOf_r2  : Int := (-99)
def M_quarrelOf (S : Sta) (c : Int) : Int := Sum.elim id (fun z2 => M_quarrelOf_r2 ) (M_quarrelOf_l2 S c (31) 0)
theorem M_quarrelOf_l12_rg (S : Sta) (c v2 : Int) : ∀ (n : Nat) (v3 : Int), M_quarrelOf_l12 S c v2 n v3 = .inl v2 ∨ M_quarrelOf_l12 S c v2 n v3 = .inr () := by
  intro n
  induction n with
  | zero => intro v3; exact Or.inr rfl
  | succ n ih =>
    intro v3
    rw [M_quarrelOf_l12_s]
    split
    · exact Or.inr rfl
    · generalize (if (S.2 13 ((16 * v2) + c)) = (S.2 13 ((16 * v3) + c)) then if (S.2 16 ((16 * v2) + c)) = (-99) then (0 : Int) else if (S.2 16 ((16 * v3) + c)) = (-99) then 0 else 1 else 0) = m
      show (if m = 0 then _ else _) = _ ∨ (if m = 0 then _ else _) = _
      split
      · exact ih _
      · split
        · exact ih _
        · exact Or.inl rfl
theorem M_quarrelOf_l2_rg (S : Sta) (c : Int) : ∀ (n : Nat) (v2 : Int), 0 ≤ v2 → (∃ z, M_quarrelOf_l2 S c n v2 = .inl z ∧ 0 ≤ z ∧ z < M_seenRows S) ∨ M_quarrelOf_l2 S c n v2 = .inr () := by
  intro n
  induction n with
  | zero => intro v2 _; exact Or.inr rfl
  | succ n ih =>
    intro v2 h0
    rw [M_quarrelOf_l2_s]
    split
    · exact Or.inr rfl
    · rcases M_quarrelOf_l12_rg S c v2 31 0 with e | e
      · rw [e]; exact Or.inl ⟨v2, rfl, h0, by omega⟩
      · rw [e]; exact ih _ (by omega)
theorem M_quarrelOf_rg {N : Int} (S : Sta) (c : Int) (hI : InvW N S) (_ : 0 ≤ c ∧ c < 16) : -99 ≤ M_quarrelOf S c ∧ M_quarrelOf S c ≤ 60 := by
  have h1 := InvM_s2 hI
  have h2 := M_seenRows_sp S
  rcases M_quarrelOf_l2_rg S c 31 0 (by omega) with ⟨z, h, h3, h4⟩ | h
  · have e : M_quarrelOf S c = z := congrArg (Sum.elim id _) h
    omega
  · have e : M_quarrelOf S c = -99 := congrArg (Sum.elim id _) h
    omega
set_option maxRecDepth 100000 in
theorem c_M_quarrelOf {l : Launch} {K : KK} {N : Int} (q : Nat → Nat) (S : Sta) (c : Int) (hI : InvW N S) (hp1 : 0 ≤ c ∧ c < 16) : CtI l yX3_quarrelOf cX3_quarrelOf 5 .int (1, 20) K [.ref (q 0), .int (iI c)] (wM K q S) (M_quarrelOf S c) (wM K q S) := by
  refine ctI_of (by decide) (Nat.le_of_ble_eq_true rfl) rfl ?_
  intro x X hD hR
  have hD : ∀ S9 : Sta, va_D (cx_A x) (wM K q S9) := fun S9 => va_D_same hD rfl
  have hs1 := InvM_s1 hI
  have hs2 := InvM_s2 hI
  have hs3 := InvM_s3 hI
  have hs4 := InvM_s4 hI
  have hw := M_seenRows_sp S
  refine gx_iconst (z := 0) X dX3_quarrelOf_0 rfl ?_
  refine gx_istore_n X dX3_quarrelOf_1 rfl (by decide) rfl ?_
  have L2 : ∀ (fu : Nat) (v2 : Int), (0 ≤ v2) → (v2 ≤ (M_seenRows S)) → ((M_seenRows S) - v2) < (fu : Int) → (∀ z2 : Unit, M_quarrelOf_l2 S c fu v2 = .inr z2 → True → GG l (rmK (1, 20)) K x (wM K q S) 125 [(0, .ref (q 0)), (1, .int (iI c))] []) → (∀ zz : Int, M_quarrelOf_l2 S c fu v2 = .inl zz → M_quarrelOf S c = zz) → GG l (rmK (1, 20)) K x (wM K q S) 2 [(0, .ref (q 0)), (1, .int (iI c)), (2, .int (iI v2))] [] := by
    intro fu
    induction fu with
    | zero => intro v2 hi2_0 hi2_1 hm2 K2 KR2; exact absurd hm2 (by omega)
    | succ fu ih =>
      intro v2 hi2_0 hi2_1 hm2 K2 KR2
      refine gx_iload_n X dX3_quarrelOf_2 rfl 2 rfl ?_
      refine gx_aload_n X dX3_quarrelOf_3 rfl 0 rfl ?_
      refine gx_callVI (As := []) (rest := [.int (iI v2)]) X (hD _) lk_M_150 (ci := 3) rfl rfl 0 rfl (c_M_seenRows q S  hI) jn_all rfl ⟨by decide, by decide⟩ (Nat.le_of_ble_eq_true rfl) dX3_quarrelOf_4 ?_
      have hq4_0 := M_seenRows_sp S 
      refine gx_icmp_ge (tgt := 125) X dX3_quarrelOf_7 (by decide) (by omega) (fun hc7 => ?_) (fun hc7 => ?_)
      · refine gx_sub [0, 1] rfl ?_
        exact K2 () ((M_quarrelOf_l2_s S c fu v2).trans (if_pos hc7)) trivial
      · refine gx_iconst (z := 0) X dX3_quarrelOf_10 rfl ?_
        refine gx_istore_n X dX3_quarrelOf_11 rfl (by decide) rfl ?_
        have L12 : ∀ (fu : Nat) (v3 : Int), (0 ≤ v3) → (v3 ≤ v2) → (v2 - v3) < (fu : Int) → (∀ z12 : Unit, M_quarrelOf_l12 S c v2 fu v3 = .inr z12 → True → GG l (rmK (1, 20)) K x (wM K q S) 119 [(0, .ref (q 0)), (1, .int (iI c)), (2, .int (iI v2))] []) → (∀ zz : Int, M_quarrelOf_l12 S c v2 fu v3 = .inl zz → M_quarrelOf S c = zz) → GG l (rmK (1, 20)) K x (wM K q S) 12 [(0, .ref (q 0)), (1, .int (iI c)), (2, .int (iI v2)), (3, .int (iI v3))] [] := by
          intro fu
          induction fu with
          | zero => intro v3 hi12_0 hi12_1 hm12 K12 KR12; exact absurd hm12 (by omega)
          | succ fu ih =>
            intro v3 hi12_0 hi12_1 hm12 K12 KR12
            refine gx_iload_n X dX3_quarrelOf_12 rfl 3 rfl ?_
            refine gx_iload_n X dX3_quarrelOf_13 rfl 2 rfl ?_
            refine gx_icmp_ge (tgt := 119) X dX3_quarrelOf_14 (by decide) (by omega) (fun hc14 => ?_) (fun hc14 => ?_)
            · refine gx_sub [0, 1, 2] rfl ?_
              exact K12 () ((M_quarrelOf_l12_s S c v2 fu v3).trans (if_pos hc14)) trivial
            · refine gx_aload_n X dX3_quarrelOf_17 rfl 0 rfl ?_
              refine gM_r13 X dX3_quarrelOf_18 ?_
              refine gx_bipush (z := 16) X dX3_quarrelOf_21 (by decide) ?_
              refine gx_iload_n X dX3_quarrelOf_23 rfl 2 rfl ?_
              refine gx_imul X dX3_quarrelOf_24 ?_
              refine gx_iload_n X dX3_quarrelOf_25 rfl 1 rfl ?_
              refine gx_iadd X dX3_quarrelOf_26 ?_
              refine gM_l13 (v := (S.2 13 ((16 * v2) + c))) X (by omega) rfl dX3_quarrelOf_27 ?_
              have hr27 := InvM_a13 hI ((16 * v2) + c)
              refine gx_aload_n X dX3_quarrelOf_28 rfl 0 rfl ?_
              refine gM_r13 X dX3_quarrelOf_29 ?_
              refine gx_bipush (z := 16) X dX3_quarrelOf_32 (by decide) ?_
              refine gx_iload_n X dX3_quarrelOf_34 rfl 3 rfl ?_
              refine gx_imul X dX3_quarrelOf_35 ?_
              refine gx_iload_n X dX3_quarrelOf_36 rfl 1 rfl ?_
              refine gx_iadd X dX3_quarrelOf_37 ?_
              refine gM_l13 (v := (S.2 13 ((16 * v3) + c))) X (by omega) rfl dX3_quarrelOf_38 ?_
              have hr38 := InvM_a13 hI ((16 * v3) + c)
              have J79 : ∀ (m79 : Int), m79 = (if (S.2 13 ((16 * v2) + c)) = (S.2 13 ((16 * v3) + c)) then if (S.2 16 ((16 * v2) + c)) = (-99) then 0 else if (S.2 16 ((16 * v3) + c)) = (-99) then 0 else 1 else 0) → GG l (rmK (1, 20)) K x (wM K q S) 79 [(0, .ref (q 0)), (1, .int (iI c)), (2, .int (iI v2)), (3, .int (iI v3))] [.int (iI m79)] := by
                intro m79 e_m79
                refine gx_istore X dX3_quarrelOf_79 (by decide) rfl ?_
                refine gx_iload X dX3_quarrelOf_81 0 rfl ?_
                refine gx_if_eq (tgt := 113) X dX3_quarrelOf_83 (by decide) (by omega) (fun hc83 => ?_) (fun hc83 => ?_)
                · refine gx_iinc X dX3_quarrelOf_113 4 rfl (by decide) rfl ?_
                  refine gx_goto (tgt := 12) X dX3_quarrelOf_116 (by decide) ?_
                  refine gx_sub [2, 3, 4, 0] rfl ?_
                  subst e_m79
                  exact ih _ (by omega) (by omega) (by omega) (fun z e hx => K12 z ((M_quarrelOf_l12_s S c v2 fu v3).trans (((if_neg hc14).trans (if_pos hc83)).trans e)) hx) (fun z e => KR12 z ((M_quarrelOf_l12_s S c v2 fu v3).trans (((if_neg hc14).trans (if_pos hc83)).trans e)))
                · refine gx_aload_n X dX3_quarrelOf_86 rfl 1 rfl ?_
                  refine gM_r16 X dX3_quarrelOf_87 ?_
                  refine gx_bipush (z := 16) X dX3_quarrelOf_90 (by decide) ?_
                  refine gx_iload_n X dX3_quarrelOf_92 rfl 3 rfl ?_
                  refine gx_imul X dX3_quarrelOf_93 ?_
                  refine gx_iload_n X dX3_quarrelOf_94 rfl 2 rfl ?_
                  refine gx_iadd X dX3_quarrelOf_95 ?_
                  refine gM_l16 (v := (S.2 16 ((16 * v2) + c))) X (by omega) rfl dX3_quarrelOf_96 ?_
                  have hr96 := InvM_a16 hI ((16 * v2) + c)
                  refine gx_aload_n X dX3_quarrelOf_97 rfl 1 rfl ?_
                  refine gM_r16 X dX3_quarrelOf_98 ?_
                  refine gx_bipush (z := 16) X dX3_quarrelOf_101 (by decide) ?_
                  refine gx_iload_n X dX3_quarrelOf_103 rfl 4 rfl ?_
                  refine gx_imul X dX3_quarrelOf_104 ?_
                  refine gx_iload_n X dX3_quarrelOf_105 rfl 2 rfl ?_
                  refine gx_iadd X dX3_quarrelOf_106 ?_
                  refine gM_l16 (v := (S.2 16 ((16 * v3) + c))) X (by omega) rfl dX3_quarrelOf_107 ?_
                  have hr107 := InvM_a16 hI ((16 * v3) + c)
                  refine gx_icmp_eq (tgt := 113) X dX3_quarrelOf_108 (by decide) (by omega) (fun hc108 => ?_) (fun hc108 => ?_)
                  · refine gx_iinc X dX3_quarrelOf_113 4 rfl (by decide) rfl ?_
                    refine gx_goto (tgt := 12) X dX3_quarrelOf_116 (by decide) ?_
                    refine gx_sub [2, 3, 4, 0] rfl ?_
                    subst e_m79
                    exact ih _ (by omega) (by omega) (by omega) (fun z e hx => K12 z ((M_quarrelOf_l12_s S c v2 fu v3).trans (((if_neg hc14).trans ((if_neg hc83).trans (if_pos hc108))).trans e)) hx) (fun z e => KR12 z ((M_quarrelOf_l12_s S c v2 fu v3).trans (((if_neg hc14).trans ((if_neg hc83).trans (if_pos hc108))).trans e)))
                  · refine gx_iload_n X dX3_quarrelOf_111 rfl 3 rfl ?_
                    subst e_m79
                    exact gx_iret hR (KR12 _ ((M_quarrelOf_l12_s S c v2 fu v3).trans ((if_neg hc14).trans ((if_neg hc83).trans (if_neg hc108))))) rfl dX3_quarrelOf_112
              refine gx_icmp_ne (tgt := 78) X dX3_quarrelOf_39 (by decide) (by omega) (fun hc39 => ?_) (fun hc39 => ?_)
              · refine gx_iconst (z := 0) X dX3_quarrelOf_78 rfl ?_
                refine gx_sub [0, 1, 2, 3] rfl ?_
                exact J79 0 ((if_neg hc39).symm) 
              · refine gx_aload_n X dX3_quarrelOf_42 rfl 0 rfl ?_
                refine gM_r16 X dX3_quarrelOf_43 ?_
                refine gx_bipush (z := 16) X dX3_quarrelOf_46 (by decide) ?_
                refine gx_iload_n X dX3_quarrelOf_48 rfl 2 rfl ?_
                refine gx_imul X dX3_quarrelOf_49 ?_
                refine gx_iload_n X dX3_quarrelOf_50 rfl 1 rfl ?_
                refine gx_iadd X dX3_quarrelOf_51 ?_
                refine gM_l16 (v := (S.2 16 ((16 * v2) + c))) X (by omega) rfl dX3_quarrelOf_52 ?_
                have hr52 := InvM_a16 hI ((16 * v2) + c)
                refine gx_bipush (z := (-99)) X dX3_quarrelOf_53 (by decide) ?_
                refine gx_icmp_eq (tgt := 78) X dX3_quarrelOf_55 (by decide) (by omega) (fun hc55 => ?_) (fun hc55 => ?_)
                · refine gx_iconst (z := 0) X dX3_quarrelOf_78 rfl ?_
                  refine gx_sub [0, 1, 2, 3] rfl ?_
                  exact J79 0 (((if_pos hc39).trans (if_pos hc55)).symm) 
                · refine gx_aload_n X dX3_quarrelOf_58 rfl 0 rfl ?_
                  refine gM_r16 X dX3_quarrelOf_59 ?_
                  refine gx_bipush (z := 16) X dX3_quarrelOf_62 (by decide) ?_
                  refine gx_iload_n X dX3_quarrelOf_64 rfl 3 rfl ?_
                  refine gx_imul X dX3_quarrelOf_65 ?_
                  refine gx_iload_n X dX3_quarrelOf_66 rfl 1 rfl ?_
                  refine gx_iadd X dX3_quarrelOf_67 ?_
                  refine gM_l16 (v := (S.2 16 ((16 * v3) + c))) X (by omega) rfl dX3_quarrelOf_68 ?_
                  have hr68 := InvM_a16 hI ((16 * v3) + c)
                  refine gx_bipush (z := (-99)) X dX3_quarrelOf_69 (by decide) ?_
                  refine gx_icmp_eq (tgt := 78) X dX3_quarrelOf_71 (by decide) (by omega) (fun hc71 => ?_) (fun hc71 => ?_)
                  · refine gx_iconst (z := 0) X dX3_quarrelOf_78 rfl ?_
                    refine gx_sub [0, 1, 2, 3] rfl ?_
                    exact J79 0 (((if_pos hc39).trans ((if_neg hc55).trans (if_pos hc71))).symm) 
                  · refine gx_iconst (z := 1) X dX3_quarrelOf_74 rfl ?_
                    refine gx_goto (tgt := 79) X dX3_quarrelOf_75 (by decide) ?_
                    refine gx_sub [0, 1, 2, 3] rfl ?_
                    exact J79 1 (((if_pos hc39).trans ((if_neg hc55).trans (if_neg hc71))).symm) 
        refine gx_sub [1, 2, 3, 0] rfl ?_
        refine L12 (31) 0 (by omega) (by omega) (by omega) (fun z12 e12 hx12 => ?_) (fun z e => KR2 z ((M_quarrelOf_l2_s S c fu v2).trans ((if_neg hc7).trans (congrArg (Sum.elim Sum.inl _) e))))
        refine gx_iinc X dX3_quarrelOf_119 2 rfl (by decide) rfl ?_
        refine gx_goto (tgt := 2) X dX3_quarrelOf_122 (by decide) ?_
        refine gx_sub [1, 2, 0] rfl ?_
        exact ih (v2 + 1) (by omega) (by omega) (by omega) (fun z e hx => K2 z ((M_quarrelOf_l2_s S c fu v2).trans (((if_neg hc7).trans (congrArg (Sum.elim Sum.inl _) e12)).trans e)) hx) (fun z e => KR2 z ((M_quarrelOf_l2_s S c fu v2).trans (((if_neg hc7).trans (congrArg (Sum.elim Sum.inl _) e12)).trans e)))
  refine gx_sub [1, 2, 0] rfl ?_
  refine L2 (31) 0 (by omega) (by omega) (by omega) (fun z2 e2 hx2 => ?_) (fun z e => congrArg (Sum.elim id (fun z2 => M_quarrelOf_r2 )) e)
  refine gx_bipush (z := (-99)) X dX3_quarrelOf_125 (by decide) ?_
  exact gx_iret hR (congrArg (Sum.elim id (fun z2 => M_quarrelOf_r2 )) e2) rfl dX3_quarrelOf_127
def M_threading_l46 (S : Sta) (c : Int) (t : Int) : Nat → Int → Int → Int
  | 0, v3, v4 => v3
  | fu + 1, v3, v4 => if (M_seenRows S) ≤ v4 then v3 else (fun (m104 : Int) => M_threading_l46 S c t fu m104 (v4 + 1)) (if (S.2 13 ((16 * v4) + c)) = t then if (S.2 16 ((16 * v4) + c)) = (-99) then v3 else (S.2 16 ((16 * v4) + c)) else v3)
theorem M_threading_l46_s (S : Sta) (c : Int) (t : Int) (fu : Nat) (v3 : Int) (v4 : Int) : M_threading_l46 S c t (fu + 1) v3 v4 = (if (M_seenRows S) ≤ v4 then v3 else (fun (m104 : Int) => M_threading_l46 S c t fu m104 (v4 + 1)) (if (S.2 13 ((16 * v4) + c)) = t then if (S.2 16 ((16 * v4) + c)) = (-99) then v3 else (S.2 16 ((16 * v4) + c)) else v3)) := rfl
def M_threading (S : Sta) (c : Int) (t : Int) : Int := if (M_noCard S c) = 0 then if (M_in t 0 3) = 0 then (-1) else if (M_quarrelOf S c) = (-99) then (M_threading_l46 S c t (31) (-99) 0) else (-3) else (-1)
set_option maxRecDepth 100000 in
theorem c_M_threading {l : Launch} {K : KK} {N : Int} (q : Nat → Nat) (S : Sta) (c : Int) (t : Int) (hI : InvW N S) (hp1 : ok32 c) (hp2 : ok32 t) : CtI l yX3_threading cX3_threading 5 .int (2, 46) K [.ref (q 0), .int (iI c), .int (iI t)] (wM K q S) (M_threading S c t) (wM K q S) := by
  refine ctI_of (by decide) (Nat.le_of_ble_eq_true rfl) rfl ?_
  intro x X hD hR
  have hD : ∀ S9 : Sta, va_D (cx_A x) (wM K q S9) := fun S9 => va_D_same hD rfl
  have hs1 := InvM_s1 hI
  have hs2 := InvM_s2 hI
  have hs3 := InvM_s3 hI
  have hs4 := InvM_s4 hI
  have hw := M_seenRows_sp S
  refine gx_aload_n X dX3_threading_0 rfl 0 rfl ?_
  refine gx_iconst (z := 0) X dX3_threading_1 rfl ?_
  refine gM_t0 X (hD _) (InvM_t hI) dX3_threading_2 ?_
  refine gx_aload_n X dX3_threading_5 rfl 0 rfl ?_
  refine gx_iload_n X dX3_threading_6 rfl 1 rfl ?_
  refine gx_callVI (As := [.int (iI c)]) (rest := []) X (hD _) lk_M_97 (ci := 3) rfl rfl 0 rfl (c_M_noCard q S c hI (by omega)) jn_all rfl ⟨by decide, by decide⟩ (Nat.le_of_ble_eq_true rfl) dX3_threading_7 ?_
  have hq7_0 := M_noCard_sp S c
  refine gx_if_ne (tgt := 25) X dX3_threading_10 (by decide) (by omega) (fun hc10 => ?_) (fun hc10 => ?_)
  · refine gx_iconst (z := (-1)) X dX3_threading_25 rfl ?_
    exact gx_iret hR (if_neg hc10) rfl dX3_threading_26
  · refine gx_iload_n X dX3_threading_13 rfl 2 rfl ?_
    refine gx_i2l X dX3_threading_14 (by omega) ?_
    refine gx_lconst (v := lI 0) X dX3_threading_15 rfl ?_
    refine gx_ldc2 (v := lI 3) X t_M_101 dX3_threading_16 ?_
    refine gx_callSI (As := [.long (lI t), .long (lI 0), .long (lI 3)]) (rest := []) X (hD _) lk_M_88 (c_M_in t 0 3 (by omega) (by omega) (by omega)) jn_nil rfl ⟨by decide, by decide⟩ (Nat.le_of_ble_eq_true rfl) dX3_threading_19 ?_
    have hq19_0 := M_in_sp t 0 3
    refine gx_if_ne (tgt := 27) X dX3_threading_22 (by decide) (by omega) (fun hc22 => ?_) (fun hc22 => ?_)
    · refine gx_aload_n X dX3_threading_27 rfl 0 rfl ?_
      refine gx_iload_n X dX3_threading_28 rfl 1 rfl ?_
      refine gx_callVI (As := [.int (iI c)]) (rest := []) X (hD _) lk_M_178 (ci := 3) rfl rfl 0 rfl (c_M_quarrelOf q S c hI (by omega)) jn_all rfl ⟨by decide, by decide⟩ (Nat.le_of_ble_eq_true rfl) dX3_threading_29 ?_
      have hp29_0 := M_quarrelOf_rg S c hI (by omega)
      refine gx_bipush (z := (-99)) X dX3_threading_32 (by decide) ?_
      refine gx_icmp_eq (tgt := 40) X dX3_threading_34 (by decide) (by omega) (fun hc34 => ?_) (fun hc34 => ?_)
      · refine gx_bipush (z := (-99)) X dX3_threading_40 (by decide) ?_
        refine gx_istore_n X dX3_threading_42 rfl (by decide) rfl ?_
        refine gx_iconst (z := 0) X dX3_threading_43 rfl ?_
        refine gx_istore X dX3_threading_44 (by decide) rfl ?_
        have L46 : ∀ (fu : Nat) (v3 : Int) (v4 : Int), (0 ≤ v4) → (v4 ≤ (M_seenRows S)) → ((M_seenRows S) - v4) < (fu : Int) → (∀ z46 : Int, M_threading_l46 S c t fu v3 v4 = z46 → True → GG l (rmK (2, 46)) K x (wM K q S) 111 [(0, .ref (q 0)), (1, .int (iI c)), (2, .int (iI t)), (3, .int (iI z46))] []) → GG l (rmK (2, 46)) K x (wM K q S) 46 [(0, .ref (q 0)), (1, .int (iI c)), (2, .int (iI t)), (3, .int (iI v3)), (4, .int (iI v4))] [] := by
          intro fu
          induction fu with
          | zero => intro v3 v4 hi46_0 hi46_1 hm46 K46; exact absurd hm46 (by omega)
          | succ fu ih =>
            intro v3 v4 hi46_0 hi46_1 hm46 K46
            refine gx_iload X dX3_threading_46 4 rfl ?_
            refine gx_aload_n X dX3_threading_48 rfl 0 rfl ?_
            refine gx_callVI (As := []) (rest := [.int (iI v4)]) X (hD _) lk_M_150 (ci := 3) rfl rfl 0 rfl (c_M_seenRows q S  hI) jn_all rfl ⟨by decide, by decide⟩ (Nat.le_of_ble_eq_true rfl) dX3_threading_49 ?_
            have hq49_0 := M_seenRows_sp S 
            refine gx_icmp_ge (tgt := 111) X dX3_threading_52 (by decide) (by omega) (fun hc52 => ?_) (fun hc52 => ?_)
            · refine gx_sub [0, 1, 2, 3] rfl ?_
              exact K46 v3 ((M_threading_l46_s S c t fu v3 v4).trans (if_pos hc52)) trivial
            · refine gx_aload_n X dX3_threading_55 rfl 0 rfl ?_
              refine gM_r13 X dX3_threading_56 ?_
              refine gx_bipush (z := 16) X dX3_threading_59 (by decide) ?_
              refine gx_iload X dX3_threading_61 4 rfl ?_
              refine gx_imul X dX3_threading_63 ?_
              refine gx_iload_n X dX3_threading_64 rfl 1 rfl ?_
              refine gx_iadd X dX3_threading_65 ?_
              refine gM_l13 (v := (S.2 13 ((16 * v4) + c))) X (by omega) rfl dX3_threading_66 ?_
              have hr66 := InvM_a13 hI ((16 * v4) + c)
              refine gx_iload_n X dX3_threading_67 rfl 2 rfl ?_
              have J104 : ∀ (m104 : Int), m104 = (if (S.2 13 ((16 * v4) + c)) = t then if (S.2 16 ((16 * v4) + c)) = (-99) then v3 else (S.2 16 ((16 * v4) + c)) else v3) → GG l (rmK (2, 46)) K x (wM K q S) 104 [(0, .ref (q 0)), (1, .int (iI c)), (2, .int (iI t)), (3, .int (iI v3)), (4, .int (iI v4))] [.int (iI m104)] := by
                intro m104 e_m104
                refine gx_istore_n X dX3_threading_104 rfl (by decide) rfl ?_
                refine gx_iinc X dX3_threading_105 4 rfl (by decide) rfl ?_
                refine gx_goto (tgt := 46) X dX3_threading_108 (by decide) ?_
                refine gx_sub [2, 3, 4, 1, 0] rfl ?_
                subst e_m104
                exact ih _ _ (by omega) (by omega) (by omega) (fun z e hx => K46 z ((M_threading_l46_s S c t fu v3 v4).trans ((if_neg hc52).trans e)) hx)
              refine gx_icmp_ne (tgt := 103) X dX3_threading_68 (by decide) (by omega) (fun hc68 => ?_) (fun hc68 => ?_)
              · refine gx_iload_n X dX3_threading_103 rfl 3 rfl ?_
                refine gx_sub [0, 1, 2, 3, 4] rfl ?_
                exact J104 v3 ((if_neg hc68).symm) 
              · refine gx_aload_n X dX3_threading_71 rfl 0 rfl ?_
                refine gM_r16 X dX3_threading_72 ?_
                refine gx_bipush (z := 16) X dX3_threading_75 (by decide) ?_
                refine gx_iload X dX3_threading_77 4 rfl ?_
                refine gx_imul X dX3_threading_79 ?_
                refine gx_iload_n X dX3_threading_80 rfl 1 rfl ?_
                refine gx_iadd X dX3_threading_81 ?_
                refine gM_l16 (v := (S.2 16 ((16 * v4) + c))) X (by omega) rfl dX3_threading_82 ?_
                have hr82 := InvM_a16 hI ((16 * v4) + c)
                refine gx_bipush (z := (-99)) X dX3_threading_83 (by decide) ?_
                refine gx_icmp_eq (tgt := 103) X dX3_threading_85 (by decide) (by omega) (fun hc85 => ?_) (fun hc85 => ?_)
                · refine gx_iload_n X dX3_threading_103 rfl 3 rfl ?_
                  refine gx_sub [0, 1, 2, 3, 4] rfl ?_
                  exact J104 v3 (((if_pos hc68).trans (if_pos hc85)).symm) 
                · refine gx_aload_n X dX3_threading_88 rfl 0 rfl ?_
                  refine gM_r16 X dX3_threading_89 ?_
                  refine gx_bipush (z := 16) X dX3_threading_92 (by decide) ?_
                  refine gx_iload X dX3_threading_94 4 rfl ?_
                  refine gx_imul X dX3_threading_96 ?_
                  refine gx_iload_n X dX3_threading_97 rfl 1 rfl ?_
                  refine gx_iadd X dX3_threading_98 ?_
                  refine gM_l16 (v := (S.2 16 ((16 * v4) + c))) X (by omega) rfl dX3_threading_99 ?_
                  refine gx_goto (tgt := 104) X dX3_threading_100 (by decide) ?_
                  refine gx_sub [0, 1, 2, 3, 4] rfl ?_
                  exact J104 (S.2 16 ((16 * v4) + c)) (((if_pos hc68).trans (if_neg hc85)).symm) 
        refine gx_sub [2, 3, 4, 1, 0] rfl ?_
        refine L46 (31) (-99) 0 (by omega) (by omega) (by omega) (fun z46 e46 hx46 => ?_)
        refine gx_iload_n X dX3_threading_111 rfl 3 rfl ?_
        exact gx_iret hR ((if_pos hc10).trans ((if_neg hc22).trans ((if_pos hc34).trans (e46)))) rfl dX3_threading_112
      · refine gx_bipush (z := (-3)) X dX3_threading_37 (by decide) ?_
        exact gx_iret hR ((if_pos hc10).trans ((if_neg hc22).trans (if_neg hc34))) rfl dX3_threading_39
    · refine gx_iconst (z := (-1)) X dX3_threading_25 rfl ?_
      exact gx_iret hR ((if_pos hc10).trans (if_pos hc22)) rfl dX3_threading_26
def M_quarrel (S : Sta) (c : Int) : Int := if (M_noCard S c) = 0 then (M_quarrelOf S c) else (-1)
set_option maxRecDepth 100000 in
theorem c_M_quarrel {l : Launch} {K : KK} {N : Int} (q : Nat → Nat) (S : Sta) (c : Int) (hI : InvW N S) (hp1 : ok32 c) : CtI l yX3_quarrel cX3_quarrel 2 .int (2, 46) K [.ref (q 0), .int (iI c)] (wM K q S) (M_quarrel S c) (wM K q S) := by
  refine ctI_of (by decide) (Nat.le_of_ble_eq_true rfl) rfl ?_
  intro x X hD hR
  have hD : ∀ S9 : Sta, va_D (cx_A x) (wM K q S9) := fun S9 => va_D_same hD rfl
  have hs1 := InvM_s1 hI
  have hs2 := InvM_s2 hI
  have hs3 := InvM_s3 hI
  have hs4 := InvM_s4 hI
  refine gx_aload_n X dX3_quarrel_0 rfl 0 rfl ?_
  refine gx_iconst (z := 0) X dX3_quarrel_1 rfl ?_
  refine gM_t0 X (hD _) (InvM_t hI) dX3_quarrel_2 ?_
  refine gx_aload_n X dX3_quarrel_5 rfl 0 rfl ?_
  refine gx_iload_n X dX3_quarrel_6 rfl 1 rfl ?_
  refine gx_callVI (As := [.int (iI c)]) (rest := []) X (hD _) lk_M_97 (ci := 3) rfl rfl 0 rfl (c_M_noCard q S c hI (by omega)) jn_all rfl ⟨by decide, by decide⟩ (Nat.le_of_ble_eq_true rfl) dX3_quarrel_7 ?_
  have hq7_0 := M_noCard_sp S c
  have J22 : ∀ (m22 : Int), m22 = (if (M_noCard S c) = 0 then (M_quarrelOf S c) else (-1)) → GG l (rmK (2, 46)) K x (wM K q S) 22 [(0, .ref (q 0)), (1, .int (iI c))] [.int (iI m22)] := by
    intro m22 e_m22
    exact gx_iret hR (e_m22.symm) rfl dX3_quarrel_22
  refine gx_if_eq (tgt := 17) X dX3_quarrel_10 (by decide) (by omega) (fun hc10 => ?_) (fun hc10 => ?_)
  · refine gx_aload_n X dX3_quarrel_17 rfl 0 rfl ?_
    refine gx_iload_n X dX3_quarrel_18 rfl 1 rfl ?_
    refine gx_callVI (As := [.int (iI c)]) (rest := []) X (hD _) lk_M_178 (ci := 3) rfl rfl 0 rfl (c_M_quarrelOf q S c hI (by omega)) jn_all rfl ⟨by decide, by decide⟩ (Nat.le_of_ble_eq_true rfl) dX3_quarrel_19 ?_
    have hp19_0 := M_quarrelOf_rg S c hI (by omega)
    refine gx_sub [0, 1] rfl ?_
    exact J22 (M_quarrelOf S c) ((if_pos hc10).symm) 
  · refine gx_iconst (z := (-1)) X dX3_quarrel_13 rfl ?_
    refine gx_goto (tgt := 22) X dX3_quarrel_14 (by decide) ?_
    refine gx_sub [0, 1] rfl ?_
    exact J22 (-1) ((if_neg hc10).symm) 
def M_would_l12 (S : Sta) (c : Int) (p : Int) (t : Int) : Nat → Int → Int → Int → Int → Int
  | 0, v4, v5, v6, v7 => v6
  | fu + 1, v4, v5, v6, v7 => if (M_seenRows S) ≤ v7 then v6 else (fun (m43 : Int) => (fun (m96a : Int) (m96b : Int) => (fun (m127 : Int) => M_would_l12 S c p t fu m96a m96b m127 (v7 + 1)) (if v6 = 0 then 0 else if (M_fits S v7 c (S.2 0 ((4 * c) + m96b))) = 0 then 0 else 1)) (if m43 = 2 then v4 else ((v4 + ((if m43 = 0 then 1 else 3) : Int)) % 4)) (if m43 = 2 then ((if v7 = 0 then 0 else v5) : Int) else (((m43 + 8) - ((v4 + ((if m43 = 0 then 1 else 3) : Int)) % 4)) % 4))) (if v7 = p then t else (S.2 12 ((16 * v7) + c)))
theorem M_would_l12_s (S : Sta) (c : Int) (p : Int) (t : Int) (fu : Nat) (v4 : Int) (v5 : Int) (v6 : Int) (v7 : Int) : M_would_l12 S c p t (fu + 1) v4 v5 v6 v7 = (if (M_seenRows S) ≤ v7 then v6 else (fun (m43 : Int) => (fun (m96a : Int) (m96b : Int) => (fun (m127 : Int) => M_would_l12 S c p t fu m96a m96b m127 (v7 + 1)) (if v6 = 0 then 0 else if (M_fits S v7 c (S.2 0 ((4 * c) + m96b))) = 0 then 0 else 1)) (if m43 = 2 then v4 else ((v4 + ((if m43 = 0 then 1 else 3) : Int)) % 4)) (if m43 = 2 then ((if v7 = 0 then 0 else v5) : Int) else (((m43 + 8) - ((v4 + ((if m43 = 0 then 1 else 3) : Int)) % 4)) % 4))) (if v7 = p then t else (S.2 12 ((16 * v7) + c)))) := rfl
def M_would (S : Sta) (c : Int) (p : Int) (t : Int) : Int := (M_would_l12 S c p t (31) 0 0 1 0)
theorem M_would_l12_01 (S : Sta) (c p t : Int) : ∀ (n : Nat) (v4 v5 v6 v7 : Int), (v6 = 0 ∨ v6 = 1) → (M_would_l12 S c p t n v4 v5 v6 v7 = 0 ∨ M_would_l12 S c p t n v4 v5 v6 v7 = 1) := by
  intro n
  induction n with
  | zero => intro v4 v5 v6 v7 h; exact h
  | succ n ih =>
    intro v4 v5 v6 v7 h
    rw [M_would_l12_s]
    split
    · exact h
    · refine ih _ _ _ _ ?_
      omega
theorem M_would_01 (S : Sta) (c p t : Int) : M_would S c p t = 0 ∨ M_would S c p t = 1 := M_would_l12_01 S c p t 31 0 0 1 0 (Or.inr rfl)
set_option maxRecDepth 100000 in
theorem c_M_would {l : Launch} {K : KK} {N : Int} (q : Nat → Nat) (S : Sta) (c : Int) (p : Int) (t : Int) (hI : InvW N S) (hp1 : 0 ≤ c ∧ c < 16) (hp2 : ok32 p) (hp3 : 0 ≤ t ∧ t ≤ 2) : CtI l yX3_would cX3_would 9 .boolean (1, 23) K [.ref (q 0), .int (iI c), .int (iI p), .int (iI t)] (wM K q S) (M_would S c p t) (wM K q S) := by
  refine ctI_of (by decide) (Nat.le_of_ble_eq_true rfl) (narrow_bool (M_would_01 S c p t)) ?_
  intro x X hD hR
  have hD : ∀ S9 : Sta, va_D (cx_A x) (wM K q S9) := fun S9 => va_D_same hD rfl
  have hs1 := InvM_s1 hI
  have hs2 := InvM_s2 hI
  have hs3 := InvM_s3 hI
  have hs4 := InvM_s4 hI
  have hw := M_seenRows_sp S
  refine gx_iconst (z := 0) X dX3_would_0 rfl ?_
  refine gx_istore X dX3_would_1 (by decide) rfl ?_
  refine gx_iconst (z := 0) X dX3_would_3 rfl ?_
  refine gx_istore X dX3_would_4 (by decide) rfl ?_
  refine gx_iconst (z := 1) X dX3_would_6 rfl ?_
  refine gx_istore X dX3_would_7 (by decide) rfl ?_
  refine gx_iconst (z := 0) X dX3_would_9 rfl ?_
  refine gx_istore X dX3_would_10 (by decide) rfl ?_
  have L12 : ∀ (fu : Nat) (v4 : Int) (v5 : Int) (v6 : Int) (v7 : Int), (0 ≤ v7) → (v7 ≤ (M_seenRows S)) → (0 ≤ v4 ∧ v4 ≤ 3) → (0 ≤ v5 ∧ v5 ≤ 3) → (0 ≤ v6 ∧ v6 ≤ 1) → ((M_seenRows S) - v7) < (fu : Int) → (∀ z12 : Int, M_would_l12 S c p t fu v4 v5 v6 v7 = z12 → True → GG l (rmK (1, 23)) K x (wM K q S) 135 [(0, .ref (q 0)), (1, .int (iI c)), (2, .int (iI p)), (3, .int (iI t)), (6, .int (iI z12))] []) → GG l (rmK (1, 23)) K x (wM K q S) 12 [(0, .ref (q 0)), (1, .int (iI c)), (2, .int (iI p)), (3, .int (iI t)), (4, .int (iI v4)), (5, .int (iI v5)), (6, .int (iI v6)), (7, .int (iI v7))] [] := by
    intro fu
    induction fu with
    | zero => intro v4 v5 v6 v7 hi12_0 hi12_1 hi12_2 hi12_3 hi12_4 hm12 K12; exact absurd hm12 (by omega)
    | succ fu ih =>
      intro v4 v5 v6 v7 hi12_0 hi12_1 hi12_2 hi12_3 hi12_4 hm12 K12
      refine gx_iload X dX3_would_12 7 rfl ?_
      refine gx_aload_n X dX3_would_14 rfl 0 rfl ?_
      refine gx_callVI (As := []) (rest := [.int (iI v7)]) X (hD _) lk_M_150 (ci := 3) rfl rfl 0 rfl (c_M_seenRows q S  hI) jn_all rfl ⟨by decide, by decide⟩ (Nat.le_of_ble_eq_true rfl) dX3_would_15 ?_
      have hq15_0 := M_seenRows_sp S 
      refine gx_icmp_ge (tgt := 135) X dX3_would_18 (by decide) (by omega) (fun hc18 => ?_) (fun hc18 => ?_)
      · refine gx_sub [0, 1, 2, 3, 6] rfl ?_
        exact K12 v6 ((M_would_l12_s S c p t fu v4 v5 v6 v7).trans (if_pos hc18)) trivial
      · refine gx_iload X dX3_would_21 7 rfl ?_
        refine gx_iload_n X dX3_would_23 rfl 2 rfl ?_
        have J43 : ∀ (m43 : Int), m43 = (if v7 = p then t else (S.2 12 ((16 * v7) + c))) → (0 ≤ m43 ∧ m43 ≤ 2) → GG l (rmK (1, 23)) K x (wM K q S) 43 [(0, .ref (q 0)), (1, .int (iI c)), (2, .int (iI p)), (3, .int (iI t)), (4, .int (iI v4)), (5, .int (iI v5)), (6, .int (iI v6)), (7, .int (iI v7))] [.int (iI m43)] := by
          intro m43 e_m43 hf43_0
          refine gx_istore X dX3_would_43 (by decide) rfl ?_
          refine gx_iload X dX3_would_45 0 rfl ?_
          refine gx_iconst (z := 2) X dX3_would_47 rfl ?_
          have J96 : ∀ (m96a : Int) (m96b : Int), m96a = (if m43 = 2 then v4 else ((v4 + ((if m43 = 0 then 1 else 3) : Int)) % 4)) → m96b = (if m43 = 2 then ((if v7 = 0 then 0 else v5) : Int) else (((m43 + 8) - ((v4 + ((if m43 = 0 then 1 else 3) : Int)) % 4)) % 4)) → GG l (rmK (1, 23)) K x (wM K q S) 96 [(0, .ref (q 0)), (1, .int (iI c)), (2, .int (iI p)), (3, .int (iI t)), (4, .int (iI m96a)), (5, .int (iI m96b)), (6, .int (iI v6)), (7, .int (iI v7)), (8, .int (iI m43))] [] := by
            intro m96a m96b e_m96a e_m96b
            refine gx_iload X dX3_would_96 6 rfl ?_
            have J127 : ∀ (m127 : Int), m127 = (if v6 = 0 then 0 else if (M_fits S v7 c (S.2 0 ((4 * c) + m96b))) = 0 then 0 else 1) → GG l (rmK (1, 23)) K x (wM K q S) 127 [(0, .ref (q 0)), (1, .int (iI c)), (2, .int (iI p)), (3, .int (iI t)), (4, .int (iI m96a)), (5, .int (iI m96b)), (6, .int (iI v6)), (7, .int (iI v7)), (8, .int (iI m43))] [.int (iI m127)] := by
              intro m127 e_m127
              refine gx_istore X dX3_would_127 (by decide) rfl ?_
              refine gx_iinc X dX3_would_129 7 rfl (by decide) rfl ?_
              refine gx_goto (tgt := 12) X dX3_would_132 (by decide) ?_
              refine gx_sub [2, 3, 4, 5, 6, 7, 1, 0] rfl ?_
              subst e_m43
              subst e_m96a
              subst e_m96b
              subst e_m127
              exact ih _ _ _ _ (by omega) (by omega) (by omega) (by omega) (by omega) (by omega) (fun z e hx => K12 z ((M_would_l12_s S c p t fu v4 v5 v6 v7).trans ((if_neg hc18).trans e)) hx)
            refine gx_if_eq (tgt := 126) X dX3_would_98 (by decide) (by omega) (fun hc98 => ?_) (fun hc98 => ?_)
            · refine gx_iconst (z := 0) X dX3_would_126 rfl ?_
              refine gx_sub [0, 1, 2, 3, 4, 5, 6, 7, 8] rfl ?_
              exact J127 0 ((if_pos hc98).symm) 
            · refine gx_aload_n X dX3_would_101 rfl 0 rfl ?_
              refine gx_iload X dX3_would_102 7 rfl ?_
              refine gx_iload_n X dX3_would_104 rfl 1 rfl ?_
              refine gx_aload_n X dX3_would_105 rfl 0 rfl ?_
              refine gM_r0 X dX3_would_106 ?_
              refine gx_iconst (z := 4) X dX3_would_109 rfl ?_
              refine gx_iload_n X dX3_would_110 rfl 1 rfl ?_
              refine gx_imul X dX3_would_111 ?_
              refine gx_iload X dX3_would_112 5 rfl ?_
              refine gx_iadd X dX3_would_114 ?_
              refine gM_l0 (v := (S.2 0 ((4 * c) + m96b))) X (by omega) rfl dX3_would_115 ?_
              have hr115 := InvM_a0 hI ((4 * c) + m96b)
              refine gx_callVI (As := [.int (iI v7), .int (iI c), .int (iI (S.2 0 ((4 * c) + m96b)))]) (rest := []) X (hD _) lk_M_154 (ci := 3) rfl rfl 0 rfl (c_M_fits q S v7 c (S.2 0 ((4 * c) + m96b)) hI (by omega) (by omega) (by omega)) jn_all rfl ⟨by decide, by decide⟩ (Nat.le_of_ble_eq_true rfl) dX3_would_116 ?_
              have hq116_0 := M_fits_01 S v7 c (S.2 0 ((4 * c) + m96b))
              refine gx_if_eq (tgt := 126) X dX3_would_119 (by decide) (by omega) (fun hc119 => ?_) (fun hc119 => ?_)
              · refine gx_iconst (z := 0) X dX3_would_126 rfl ?_
                refine gx_sub [0, 1, 2, 3, 4, 5, 6, 7, 8] rfl ?_
                exact J127 0 (((if_neg hc98).trans (if_pos hc119)).symm) 
              · refine gx_iconst (z := 1) X dX3_would_122 rfl ?_
                refine gx_goto (tgt := 127) X dX3_would_123 (by decide) ?_
                refine gx_sub [0, 1, 2, 3, 4, 5, 6, 7, 8] rfl ?_
                exact J127 1 (((if_neg hc98).trans (if_neg hc119)).symm) 
          refine gx_icmp_ne (tgt := 67) X dX3_would_48 (by decide) (by omega) (fun hc48 => ?_) (fun hc48 => ?_)
          · refine gx_iload X dX3_would_67 5 rfl ?_
            refine gx_iload X dX3_would_69 0 rfl ?_
            have J79 : ∀ (m79 : Int), m79 = (if m43 = 0 then 1 else 3) → GG l (rmK (1, 23)) K x (wM K q S) 79 [(0, .ref (q 0)), (1, .int (iI c)), (2, .int (iI p)), (3, .int (iI t)), (4, .int (iI v4)), (5, .int (iI v5)), (6, .int (iI v6)), (7, .int (iI v7)), (8, .int (iI m43))] [.int (iI m79), .int (iI v4)] := by
              intro m79 e_m79
              refine gx_iadd X dX3_would_79 ?_
              refine gx_iconst (z := 4) X dX3_would_80 rfl ?_
              refine gx_irem X dX3_would_81 (by omega) ?_
              refine gx_istore X dX3_would_82 (by decide) rfl ?_
              refine gx_iload X dX3_would_84 8 rfl ?_
              refine gx_bipush (z := 8) X dX3_would_86 (by decide) ?_
              refine gx_iadd X dX3_would_88 ?_
              refine gx_iload X dX3_would_89 0 rfl ?_
              refine gx_isub X dX3_would_91 ?_
              refine gx_iconst (z := 4) X dX3_would_92 rfl ?_
              refine gx_irem X dX3_would_93 (by omega) ?_
              refine gx_istore X dX3_would_94 (by decide) rfl ?_
              refine gx_sub [2, 3, 4, 5, 1, 0, 6, 7, 8] rfl ?_
              subst e_m79
              exact J96 _ _ ((if_neg hc48).symm) ((if_neg hc48).symm) 
            refine gx_if_ne (tgt := 78) X dX3_would_71 (by decide) (by omega) (fun hc71 => ?_) (fun hc71 => ?_)
            · refine gx_iconst (z := 3) X dX3_would_78 rfl ?_
              refine gx_sub [1, 2, 3, 4, 5, 6, 7, 8, 0] rfl ?_
              exact J79 3 ((if_neg hc71).symm) 
            · refine gx_iconst (z := 1) X dX3_would_74 rfl ?_
              refine gx_goto (tgt := 79) X dX3_would_75 (by decide) ?_
              refine gx_sub [1, 2, 3, 4, 5, 6, 7, 8, 0] rfl ?_
              exact J79 1 ((if_pos hc71).symm) 
          · refine gx_iload X dX3_would_51 8 rfl ?_
            have J62 : ∀ (m62 : Int), m62 = (if v7 = 0 then 0 else v5) → GG l (rmK (1, 23)) K x (wM K q S) 62 [(0, .ref (q 0)), (1, .int (iI c)), (2, .int (iI p)), (3, .int (iI t)), (4, .int (iI v4)), (5, .int (iI v5)), (6, .int (iI v6)), (7, .int (iI v7)), (8, .int (iI m43))] [.int (iI m62)] := by
              intro m62 e_m62
              refine gx_istore X dX3_would_62 (by decide) rfl ?_
              refine gx_goto (tgt := 96) X dX3_would_64 (by decide) ?_
              refine gx_sub [1, 2, 3, 4, 5, 0, 6, 7, 8] rfl ?_
              subst e_m62
              exact J96 _ _ ((if_pos hc48).symm) ((if_pos hc48).symm) 
            refine gx_if_ne (tgt := 60) X dX3_would_53 (by decide) (by omega) (fun hc53 => ?_) (fun hc53 => ?_)
            · refine gx_iload X dX3_would_60 6 rfl ?_
              refine gx_sub [1, 2, 3, 4, 5, 6, 7, 8, 0] rfl ?_
              exact J62 v5 ((if_neg hc53).symm) 
            · refine gx_iconst (z := 0) X dX3_would_56 rfl ?_
              refine gx_goto (tgt := 62) X dX3_would_57 (by decide) ?_
              refine gx_sub [1, 2, 3, 4, 5, 6, 7, 8, 0] rfl ?_
              exact J62 0 ((if_pos hc53).symm) 
        refine gx_icmp_ne (tgt := 31) X dX3_would_24 (by decide) (by omega) (fun hc24 => ?_) (fun hc24 => ?_)
        · refine gx_aload_n X dX3_would_31 rfl 0 rfl ?_
          refine gM_r12 X dX3_would_32 ?_
          refine gx_bipush (z := 16) X dX3_would_35 (by decide) ?_
          refine gx_iload X dX3_would_37 7 rfl ?_
          refine gx_imul X dX3_would_39 ?_
          refine gx_iload_n X dX3_would_40 rfl 1 rfl ?_
          refine gx_iadd X dX3_would_41 ?_
          refine gM_l12 (v := (S.2 12 ((16 * v7) + c))) X (by omega) rfl dX3_would_42 ?_
          have hr42 := InvM_a12 hI ((16 * v7) + c)
          refine gx_sub [0, 1, 2, 3, 4, 5, 6, 7] rfl ?_
          exact J43 (S.2 12 ((16 * v7) + c)) ((if_neg hc24).symm) (by omega)
        · refine gx_iload_n X dX3_would_27 rfl 3 rfl ?_
          refine gx_goto (tgt := 43) X dX3_would_28 (by decide) ?_
          refine gx_sub [0, 1, 2, 3, 4, 5, 6, 7] rfl ?_
          exact J43 t ((if_pos hc24).symm) (by omega)
  refine gx_sub [4, 5, 6, 7, 3, 2, 1, 0] rfl ?_
  refine L12 (31) 0 0 1 0 (by omega) (by omega) (by omega) (by omega) (by omega) (by omega) (fun z12 e12 hx12 => ?_)
  refine gx_iload X dX3_would_135 4 rfl ?_
  exact gx_iret hR (e12) rfl dX3_would_137
def M_wrongOf_l18 (S : Sta) (c : Int) (i : Int) (b : Int) (v5 : Int) : Nat → Int → Int → (Int) ⊕ (Int)
  | 0, v4', v6 => .inr v4'
  | fu + 1, v4', v6 => if 3 ≤ v6 then .inr v4' else if v6 = (S.2 12 ((16 * v5) + c)) then M_wrongOf_l18 S c i b v5 fu v4' (v6 + 1) else if (M_would S c v5 v6) = 0 then M_wrongOf_l18 S c i b v5 fu v4' (v6 + 1) else if v4' = i then if b = 0 then .inl ((10 * v5) + v6) else M_wrongOf_l18 S c i b v5 fu (v4' + 1) (v6 + 1) else M_wrongOf_l18 S c i b v5 fu (v4' + 1) (v6 + 1)
theorem M_wrongOf_l18_s (S : Sta) (c : Int) (i : Int) (b : Int) (v5 : Int) (fu : Nat) (v4' : Int) (v6 : Int) : M_wrongOf_l18 S c i b v5 (fu + 1) v4' v6 = (if 3 ≤ v6 then .inr v4' else if v6 = (S.2 12 ((16 * v5) + c)) then M_wrongOf_l18 S c i b v5 fu v4' (v6 + 1) else if (M_would S c v5 v6) = 0 then M_wrongOf_l18 S c i b v5 fu v4' (v6 + 1) else if v4' = i then if b = 0 then .inl ((10 * v5) + v6) else M_wrongOf_l18 S c i b v5 fu (v4' + 1) (v6 + 1) else M_wrongOf_l18 S c i b v5 fu (v4' + 1) (v6 + 1)) := rfl
def M_wrongOf_l6 (S : Sta) (c : Int) (i : Int) (b : Int) : Nat → Int → Int → (Int) ⊕ (Int)
  | 0, v4, v5 => .inr v4
  | fu + 1, v4, v5 => if (M_seenRows S) ≤ v5 then .inr v4 else Sum.elim Sum.inl (fun (z18 : Int) => M_wrongOf_l6 S c i b fu z18 (v5 + 1)) (M_wrongOf_l18 S c i b v5 (4) v4 0)
theorem M_wrongOf_l6_s (S : Sta) (c : Int) (i : Int) (b : Int) (fu : Nat) (v4 : Int) (v5 : Int) : M_wrongOf_l6 S c i b (fu + 1) v4 v5 = (if (M_seenRows S) ≤ v5 then .inr v4 else Sum.elim Sum.inl (fun (z18 : Int) => M_wrongOf_l6 S c i b fu z18 (v5 + 1)) (M_wrongOf_l18 S c i b v5 (4) v4 0)) := rfl
def M_wrongOf_r6 (b : Int) (z6 : Int) : Int := if b = 0 then (-99) else z6
def M_wrongOf (S : Sta) (c : Int) (i : Int) (b : Int) : Int := Sum.elim id (fun z6 => M_wrongOf_r6 b z6) (M_wrongOf_l6 S c i b (31) 0 0)
set_option maxRecDepth 100000 in
theorem c_M_wrongOf {l : Launch} {K : KK} {N : Int} (q : Nat → Nat) (S : Sta) (c : Int) (i : Int) (b : Int) (hI : InvW N S) (hp1 : 0 ≤ c ∧ c < 16) (hp2 : ok32 i) (hp3 : ok32 b) : CtI l yX3_wrongOf cX3_wrongOf 7 .int (2, 51) K [.ref (q 0), .int (iI c), .int (iI i), .int (iI b)] (wM K q S) (M_wrongOf S c i b) (wM K q S) := by
  refine ctI_of (by decide) (Nat.le_of_ble_eq_true rfl) rfl ?_
  intro x X hD hR
  have hD : ∀ S9 : Sta, va_D (cx_A x) (wM K q S9) := fun S9 => va_D_same hD rfl
  have hs1 := InvM_s1 hI
  have hs2 := InvM_s2 hI
  have hs3 := InvM_s3 hI
  have hs4 := InvM_s4 hI
  have hw := M_seenRows_sp S
  refine gx_iconst (z := 0) X dX3_wrongOf_0 rfl ?_
  refine gx_istore X dX3_wrongOf_1 (by decide) rfl ?_
  refine gx_iconst (z := 0) X dX3_wrongOf_3 rfl ?_
  refine gx_istore X dX3_wrongOf_4 (by decide) rfl ?_
  have L6 : ∀ (fu : Nat) (v4 : Int) (v5 : Int), (0 ≤ v5) → (v5 ≤ (M_seenRows S)) → (0 ≤ v4 ∧ v4 ≤ 3 * v5) → ((M_seenRows S) - v5) < (fu : Int) → (∀ z6 : Int, M_wrongOf_l6 S c i b fu v4 v5 = .inr z6 → True → GG l (rmK (2, 51)) K x (wM K q S) 87 [(0, .ref (q 0)), (1, .int (iI c)), (2, .int (iI i)), (3, .int (iI b)), (4, .int (iI z6))] []) → (∀ zz : Int, M_wrongOf_l6 S c i b fu v4 v5 = .inl zz → M_wrongOf S c i b = zz) → GG l (rmK (2, 51)) K x (wM K q S) 6 [(0, .ref (q 0)), (1, .int (iI c)), (2, .int (iI i)), (3, .int (iI b)), (4, .int (iI v4)), (5, .int (iI v5))] [] := by
    intro fu
    induction fu with
    | zero => intro v4 v5 hi6_0 hi6_1 hi6_2 hm6 K6 KR6; exact absurd hm6 (by omega)
    | succ fu ih =>
      intro v4 v5 hi6_0 hi6_1 hi6_2 hm6 K6 KR6
      refine gx_iload X dX3_wrongOf_6 5 rfl ?_
      refine gx_aload_n X dX3_wrongOf_8 rfl 0 rfl ?_
      refine gx_callVI (As := []) (rest := [.int (iI v5)]) X (hD _) lk_M_150 (ci := 3) rfl rfl 0 rfl (c_M_seenRows q S  hI) jn_all rfl ⟨by decide, by decide⟩ (Nat.le_of_ble_eq_true rfl) dX3_wrongOf_9 ?_
      have hq9_0 := M_seenRows_sp S 
      refine gx_icmp_ge (tgt := 87) X dX3_wrongOf_12 (by decide) (by omega) (fun hc12 => ?_) (fun hc12 => ?_)
      · refine gx_sub [0, 1, 2, 3, 4] rfl ?_
        exact K6 v4 ((M_wrongOf_l6_s S c i b fu v4 v5).trans (if_pos hc12)) trivial
      · refine gx_iconst (z := 0) X dX3_wrongOf_15 rfl ?_
        refine gx_istore X dX3_wrongOf_16 (by decide) rfl ?_
        have L18 : ∀ (fu : Nat) (v4' : Int) (v6 : Int), (0 ≤ v6) → (v6 ≤ 3) → (0 ≤ v4' ∧ v4' ≤ 3 * v5 + v6) → (3 - v6) < (fu : Int) → (∀ z18 : Int, M_wrongOf_l18 S c i b v5 fu v4' v6 = .inr z18 → (0 ≤ z18 ∧ z18 ≤ 3 * v5 + 3) → GG l (rmK (2, 51)) K x (wM K q S) 81 [(0, .ref (q 0)), (1, .int (iI c)), (2, .int (iI i)), (3, .int (iI b)), (4, .int (iI z18)), (5, .int (iI v5))] []) → (∀ zz : Int, M_wrongOf_l18 S c i b v5 fu v4' v6 = .inl zz → M_wrongOf S c i b = zz) → GG l (rmK (2, 51)) K x (wM K q S) 18 [(0, .ref (q 0)), (1, .int (iI c)), (2, .int (iI i)), (3, .int (iI b)), (4, .int (iI v4')), (5, .int (iI v5)), (6, .int (iI v6))] [] := by
          intro fu
          induction fu with
          | zero => intro v4' v6 hi18_0 hi18_1 hi18_2 hm18 K18 KR18; exact absurd hm18 (by omega)
          | succ fu ih =>
            intro v4' v6 hi18_0 hi18_1 hi18_2 hm18 K18 KR18
            refine gx_iload X dX3_wrongOf_18 6 rfl ?_
            refine gx_iconst (z := 3) X dX3_wrongOf_20 rfl ?_
            refine gx_icmp_ge (tgt := 81) X dX3_wrongOf_21 (by decide) (by omega) (fun hc21 => ?_) (fun hc21 => ?_)
            · refine gx_sub [0, 1, 2, 3, 4, 5] rfl ?_
              exact K18 v4' ((M_wrongOf_l18_s S c i b v5 fu v4' v6).trans (if_pos hc21)) (by omega)
            · refine gx_iload X dX3_wrongOf_24 6 rfl ?_
              refine gx_aload_n X dX3_wrongOf_26 rfl 0 rfl ?_
              refine gM_r12 X dX3_wrongOf_27 ?_
              refine gx_bipush (z := 16) X dX3_wrongOf_30 (by decide) ?_
              refine gx_iload X dX3_wrongOf_32 5 rfl ?_
              refine gx_imul X dX3_wrongOf_34 ?_
              refine gx_iload_n X dX3_wrongOf_35 rfl 1 rfl ?_
              refine gx_iadd X dX3_wrongOf_36 ?_
              refine gM_l12 (v := (S.2 12 ((16 * v5) + c))) X (by omega) rfl dX3_wrongOf_37 ?_
              have hr37 := InvM_a12 hI ((16 * v5) + c)
              refine gx_icmp_eq (tgt := 75) X dX3_wrongOf_38 (by decide) (by omega) (fun hc38 => ?_) (fun hc38 => ?_)
              · refine gx_iinc X dX3_wrongOf_75 6 rfl (by decide) rfl ?_
                refine gx_goto (tgt := 18) X dX3_wrongOf_78 (by decide) ?_
                refine gx_sub [1, 2, 3, 4, 5, 6, 0] rfl ?_
                exact ih v4' (v6 + 1) (by omega) (by omega) (by omega) (by omega) (fun z e hx => K18 z ((M_wrongOf_l18_s S c i b v5 fu v4' v6).trans (((if_neg hc21).trans (if_pos hc38)).trans e)) hx) (fun z e => KR18 z ((M_wrongOf_l18_s S c i b v5 fu v4' v6).trans (((if_neg hc21).trans (if_pos hc38)).trans e)))
              · refine gx_aload_n X dX3_wrongOf_41 rfl 0 rfl ?_
                refine gx_iload_n X dX3_wrongOf_42 rfl 1 rfl ?_
                refine gx_iload X dX3_wrongOf_43 5 rfl ?_
                refine gx_iload X dX3_wrongOf_45 6 rfl ?_
                refine gx_callVI (As := [.int (iI c), .int (iI v5), .int (iI v6)]) (rest := []) X (hD _) lk_M_181 (ci := 3) rfl rfl 0 rfl (c_M_would q S c v5 v6 hI (by omega) (by omega) (by omega)) jn_all rfl ⟨by decide, by decide⟩ (Nat.le_of_ble_eq_true rfl) dX3_wrongOf_47 ?_
                have hq47_0 := M_would_01 S c v5 v6
                refine gx_if_eq (tgt := 75) X dX3_wrongOf_50 (by decide) (by omega) (fun hc50 => ?_) (fun hc50 => ?_)
                · refine gx_iinc X dX3_wrongOf_75 6 rfl (by decide) rfl ?_
                  refine gx_goto (tgt := 18) X dX3_wrongOf_78 (by decide) ?_
                  refine gx_sub [1, 2, 3, 4, 5, 6, 0] rfl ?_
                  exact ih v4' (v6 + 1) (by omega) (by omega) (by omega) (by omega) (fun z e hx => K18 z ((M_wrongOf_l18_s S c i b v5 fu v4' v6).trans (((if_neg hc21).trans ((if_neg hc38).trans (if_pos hc50))).trans e)) hx) (fun z e => KR18 z ((M_wrongOf_l18_s S c i b v5 fu v4' v6).trans (((if_neg hc21).trans ((if_neg hc38).trans (if_pos hc50))).trans e)))
                · refine gx_iload X dX3_wrongOf_53 4 rfl ?_
                  refine gx_iload_n X dX3_wrongOf_55 rfl 2 rfl ?_
                  refine gx_icmp_ne (tgt := 72) X dX3_wrongOf_56 (by decide) (by omega) (fun hc56 => ?_) (fun hc56 => ?_)
                  · refine gx_iinc X dX3_wrongOf_72 4 rfl (by decide) rfl ?_
                    refine gx_iinc X dX3_wrongOf_75 6 rfl (by decide) rfl ?_
                    refine gx_goto (tgt := 18) X dX3_wrongOf_78 (by decide) ?_
                    refine gx_sub [2, 3, 4, 5, 1, 6, 0] rfl ?_
                    exact ih (v4' + 1) (v6 + 1) (by omega) (by omega) (by omega) (by omega) (fun z e hx => K18 z ((M_wrongOf_l18_s S c i b v5 fu v4' v6).trans (((if_neg hc21).trans ((if_neg hc38).trans ((if_neg hc50).trans (if_neg hc56)))).trans e)) hx) (fun z e => KR18 z ((M_wrongOf_l18_s S c i b v5 fu v4' v6).trans (((if_neg hc21).trans ((if_neg hc38).trans ((if_neg hc50).trans (if_neg hc56)))).trans e)))
                  · refine gx_iload_n X dX3_wrongOf_59 rfl 3 rfl ?_
                    refine gx_if_ne (tgt := 72) X dX3_wrongOf_60 (by decide) (by omega) (fun hc60 => ?_) (fun hc60 => ?_)
                    · refine gx_iinc X dX3_wrongOf_72 4 rfl (by decide) rfl ?_
                      refine gx_iinc X dX3_wrongOf_75 6 rfl (by decide) rfl ?_
                      refine gx_goto (tgt := 18) X dX3_wrongOf_78 (by decide) ?_
                      refine gx_sub [2, 3, 4, 5, 1, 6, 0] rfl ?_
                      exact ih (v4' + 1) (v6 + 1) (by omega) (by omega) (by omega) (by omega) (fun z e hx => K18 z ((M_wrongOf_l18_s S c i b v5 fu v4' v6).trans (((if_neg hc21).trans ((if_neg hc38).trans ((if_neg hc50).trans ((if_pos hc56).trans (if_neg hc60))))).trans e)) hx) (fun z e => KR18 z ((M_wrongOf_l18_s S c i b v5 fu v4' v6).trans (((if_neg hc21).trans ((if_neg hc38).trans ((if_neg hc50).trans ((if_pos hc56).trans (if_neg hc60))))).trans e)))
                    · refine gx_bipush (z := 10) X dX3_wrongOf_63 (by decide) ?_
                      refine gx_iload X dX3_wrongOf_65 5 rfl ?_
                      refine gx_imul X dX3_wrongOf_67 ?_
                      refine gx_iload X dX3_wrongOf_68 6 rfl ?_
                      refine gx_iadd X dX3_wrongOf_70 ?_
                      exact gx_iret hR (KR18 ((10 * v5) + v6) ((M_wrongOf_l18_s S c i b v5 fu v4' v6).trans ((if_neg hc21).trans ((if_neg hc38).trans ((if_neg hc50).trans ((if_pos hc56).trans (if_pos hc60))))))) rfl dX3_wrongOf_71
        refine gx_sub [1, 2, 3, 4, 5, 6, 0] rfl ?_
        refine L18 (4) v4 0 (by omega) (by omega) (by omega) (by omega) (fun z18 e18 hx18 => ?_) (fun z e => KR6 z ((M_wrongOf_l6_s S c i b fu v4 v5).trans ((if_neg hc12).trans (congrArg (Sum.elim Sum.inl _) e))))
        refine gx_iinc X dX3_wrongOf_81 5 rfl (by decide) rfl ?_
        refine gx_goto (tgt := 6) X dX3_wrongOf_84 (by decide) ?_
        refine gx_sub [1, 2, 3, 4, 5, 0] rfl ?_
        exact ih z18 (v5 + 1) (by omega) (by omega) (by omega) (by omega) (fun z e hx => K6 z ((M_wrongOf_l6_s S c i b fu v4 v5).trans (((if_neg hc12).trans (congrArg (Sum.elim Sum.inl _) e18)).trans e)) hx) (fun z e => KR6 z ((M_wrongOf_l6_s S c i b fu v4 v5).trans (((if_neg hc12).trans (congrArg (Sum.elim Sum.inl _) e18)).trans e)))
  refine gx_sub [2, 3, 4, 5, 1, 0] rfl ?_
  refine L6 (31) 0 0 (by omega) (by omega) (by omega) (by omega) (fun z6 e6 hx6 => ?_) (fun z e => congrArg (Sum.elim id (fun z6 => M_wrongOf_r6 b z6)) e)
  refine gx_iload_n X dX3_wrongOf_87 rfl 3 rfl ?_
  have J98 : ∀ (m98 : Int), m98 = (if b = 0 then (-99) else z6) → GG l (rmK (2, 51)) K x (wM K q S) 98 [(0, .ref (q 0)), (1, .int (iI c)), (2, .int (iI i)), (3, .int (iI b)), (4, .int (iI z6))] [.int (iI m98)] := by
    intro m98 e_m98
    exact gx_iret hR ((congrArg (Sum.elim id (fun z6 => M_wrongOf_r6 b z6)) e6).trans (e_m98.symm)) rfl dX3_wrongOf_98
  refine gx_if_eq (tgt := 96) X dX3_wrongOf_88 (by decide) (by omega) (fun hc88 => ?_) (fun hc88 => ?_)
  · refine gx_bipush (z := (-99)) X dX3_wrongOf_96 (by decide) ?_
    refine gx_sub [0, 1, 2, 3, 4] rfl ?_
    exact J98 (-99) ((if_pos hc88).symm) 
  · refine gx_iload X dX3_wrongOf_91 4 rfl ?_
    refine gx_goto (tgt := 98) X dX3_wrongOf_93 (by decide) ?_
    refine gx_sub [0, 1, 2, 3, 4] rfl ?_
    exact J98 z6 ((if_neg hc88).symm) 
def M_wrongs (S : Sta) (c : Int) : Int := if (M_noCard S c) = 0 then if (S.2 6 c) ≤ 0 then (M_wrongOf S c 0 1) else (-3) else (-1)
set_option maxRecDepth 100000 in
theorem c_M_wrongs {l : Launch} {K : KK} {N : Int} (q : Nat → Nat) (S : Sta) (c : Int) (hI : InvW N S) (hp1 : ok32 c) : CtI l yX3_wrongs cX3_wrongs 2 .int (3, 77) K [.ref (q 0), .int (iI c)] (wM K q S) (M_wrongs S c) (wM K q S) := by
  refine ctI_of (by decide) (Nat.le_of_ble_eq_true rfl) rfl ?_
  intro x X hD hR
  have hD : ∀ S9 : Sta, va_D (cx_A x) (wM K q S9) := fun S9 => va_D_same hD rfl
  have hs1 := InvM_s1 hI
  have hs2 := InvM_s2 hI
  have hs3 := InvM_s3 hI
  have hs4 := InvM_s4 hI
  refine gx_aload_n X dX3_wrongs_0 rfl 0 rfl ?_
  refine gx_iconst (z := 0) X dX3_wrongs_1 rfl ?_
  refine gM_t0 X (hD _) (InvM_t hI) dX3_wrongs_2 ?_
  refine gx_aload_n X dX3_wrongs_5 rfl 0 rfl ?_
  refine gx_iload_n X dX3_wrongs_6 rfl 1 rfl ?_
  refine gx_callVI (As := [.int (iI c)]) (rest := []) X (hD _) lk_M_97 (ci := 3) rfl rfl 0 rfl (c_M_noCard q S c hI (by omega)) jn_all rfl ⟨by decide, by decide⟩ (Nat.le_of_ble_eq_true rfl) dX3_wrongs_7 ?_
  have hq7_0 := M_noCard_sp S c
  refine gx_if_eq (tgt := 15) X dX3_wrongs_10 (by decide) (by omega) (fun hc10 => ?_) (fun hc10 => ?_)
  · refine gx_aload_n X dX3_wrongs_15 rfl 0 rfl ?_
    refine gM_r6 X dX3_wrongs_16 ?_
    refine gx_iload_n X dX3_wrongs_19 rfl 1 rfl ?_
    refine gM_l6 (v := (S.2 6 c)) X (by omega) rfl dX3_wrongs_20 ?_
    have hr20 := InvM_a6 hI c
    have J36 : ∀ (m36 : Int), m36 = (if (S.2 6 c) ≤ 0 then (M_wrongOf S c 0 1) else (-3)) → GG l (rmK (3, 77)) K x (wM K q S) 36 [(0, .ref (q 0)), (1, .int (iI c))] [.int (iI m36)] := by
      intro m36 e_m36
      exact gx_iret hR ((if_pos hc10).trans (e_m36.symm)) rfl dX3_wrongs_36
    refine gx_if_le (tgt := 29) X dX3_wrongs_21 (by decide) (by omega) (fun hc21 => ?_) (fun hc21 => ?_)
    · refine gx_aload_n X dX3_wrongs_29 rfl 0 rfl ?_
      refine gx_iload_n X dX3_wrongs_30 rfl 1 rfl ?_
      refine gx_iconst (z := 0) X dX3_wrongs_31 rfl ?_
      refine gx_iconst (z := 1) X dX3_wrongs_32 rfl ?_
      refine gx_callVI (As := [.int (iI c), .int (iI 0), .int (iI 1)]) (rest := []) X (hD _) lk_M_184 (ci := 3) rfl rfl 0 rfl (c_M_wrongOf q S c 0 1 hI (by omega) (by omega) (by omega)) jn_all rfl ⟨by decide, by decide⟩ (Nat.le_of_ble_eq_true rfl) dX3_wrongs_33 ?_
      refine gx_sub [0, 1] rfl ?_
      exact J36 (M_wrongOf S c 0 1) ((if_pos hc21).symm) 
    · refine gx_bipush (z := (-3)) X dX3_wrongs_24 (by decide) ?_
      refine gx_goto (tgt := 36) X dX3_wrongs_26 (by decide) ?_
      refine gx_sub [0, 1] rfl ?_
      exact J36 (-3) ((if_neg hc21).symm) 
  · refine gx_iconst (z := (-1)) X dX3_wrongs_13 rfl ?_
    exact gx_iret hR (if_neg hc10) rfl dX3_wrongs_14
def M_wrong (S : Sta) (c : Int) (i : Int) : Int := if (M_noCard S c) = 0 then if (S.2 6 c) ≤ 0 then (M_wrongOf S c i 0) else (-3) else (-1)
set_option maxRecDepth 100000 in
theorem c_M_wrong {l : Launch} {K : KK} {N : Int} (q : Nat → Nat) (S : Sta) (c : Int) (i : Int) (hI : InvW N S) (hp1 : ok32 c) (hp2 : ok32 i) : CtI l yX3_wrong cX3_wrong 3 .int (3, 77) K [.ref (q 0), .int (iI c), .int (iI i)] (wM K q S) (M_wrong S c i) (wM K q S) := by
  refine ctI_of (by decide) (Nat.le_of_ble_eq_true rfl) rfl ?_
  intro x X hD hR
  have hD : ∀ S9 : Sta, va_D (cx_A x) (wM K q S9) := fun S9 => va_D_same hD rfl
  have hs1 := InvM_s1 hI
  have hs2 := InvM_s2 hI
  have hs3 := InvM_s3 hI
  have hs4 := InvM_s4 hI
  refine gx_aload_n X dX3_wrong_0 rfl 0 rfl ?_
  refine gx_iconst (z := 0) X dX3_wrong_1 rfl ?_
  refine gM_t0 X (hD _) (InvM_t hI) dX3_wrong_2 ?_
  refine gx_aload_n X dX3_wrong_5 rfl 0 rfl ?_
  refine gx_iload_n X dX3_wrong_6 rfl 1 rfl ?_
  refine gx_callVI (As := [.int (iI c)]) (rest := []) X (hD _) lk_M_97 (ci := 3) rfl rfl 0 rfl (c_M_noCard q S c hI (by omega)) jn_all rfl ⟨by decide, by decide⟩ (Nat.le_of_ble_eq_true rfl) dX3_wrong_7 ?_
  have hq7_0 := M_noCard_sp S c
  refine gx_if_eq (tgt := 15) X dX3_wrong_10 (by decide) (by omega) (fun hc10 => ?_) (fun hc10 => ?_)
  · refine gx_aload_n X dX3_wrong_15 rfl 0 rfl ?_
    refine gM_r6 X dX3_wrong_16 ?_
    refine gx_iload_n X dX3_wrong_19 rfl 1 rfl ?_
    refine gM_l6 (v := (S.2 6 c)) X (by omega) rfl dX3_wrong_20 ?_
    have hr20 := InvM_a6 hI c
    have J36 : ∀ (m36 : Int), m36 = (if (S.2 6 c) ≤ 0 then (M_wrongOf S c i 0) else (-3)) → GG l (rmK (3, 77)) K x (wM K q S) 36 [(0, .ref (q 0)), (1, .int (iI c)), (2, .int (iI i))] [.int (iI m36)] := by
      intro m36 e_m36
      exact gx_iret hR ((if_pos hc10).trans (e_m36.symm)) rfl dX3_wrong_36
    refine gx_if_le (tgt := 29) X dX3_wrong_21 (by decide) (by omega) (fun hc21 => ?_) (fun hc21 => ?_)
    · refine gx_aload_n X dX3_wrong_29 rfl 0 rfl ?_
      refine gx_iload_n X dX3_wrong_30 rfl 1 rfl ?_
      refine gx_iload_n X dX3_wrong_31 rfl 2 rfl ?_
      refine gx_iconst (z := 0) X dX3_wrong_32 rfl ?_
      refine gx_callVI (As := [.int (iI c), .int (iI i), .int (iI 0)]) (rest := []) X (hD _) lk_M_184 (ci := 3) rfl rfl 0 rfl (c_M_wrongOf q S c i 0 hI (by omega) (by omega) (by omega)) jn_all rfl ⟨by decide, by decide⟩ (Nat.le_of_ble_eq_true rfl) dX3_wrong_33 ?_
      refine gx_sub [0, 1, 2] rfl ?_
      exact J36 (M_wrongOf S c i 0) ((if_pos hc21).symm) 
    · refine gx_bipush (z := (-3)) X dX3_wrong_24 (by decide) ?_
      refine gx_goto (tgt := 36) X dX3_wrong_26 (by decide) ?_
      refine gx_sub [0, 1, 2] rfl ?_
      exact J36 (-3) ((if_neg hc21).symm) 
  · refine gx_iconst (z := (-1)) X dX3_wrong_13 rfl ?_
    exact gx_iret hR (if_neg hc10) rfl dX3_wrong_14
def M_count_l37 (S : Sta) (v5 : Int) : Nat → Int → Int → Int
  | 0, v4', v6 => v4'
  | fu + 1, v4', v6 => if 4 ≤ v6 then v4' else M_count_l37 S v5 fu (zi_or v4' (zi_shl 1 (S.2 0 ((4 * v5) + v6)))) (v6 + 1)
theorem M_count_l37_s (S : Sta) (v5 : Int) (fu : Nat) (v4' : Int) (v6 : Int) : M_count_l37 S v5 (fu + 1) v4' v6 = (if 4 ≤ v6 then v4' else M_count_l37 S v5 fu (zi_or v4' (zi_shl 1 (S.2 0 ((4 * v5) + v6)))) (v6 + 1)) := rfl
def M_count_l71 (S : Sta) (v5 : Int) : Nat → Int → Int → Int
  | 0, v2', v6 => v2'
  | fu + 1, v2', v6 => if 30 ≤ v6 then v2' else (fun (m102 : Int) => M_count_l71 S v5 fu (v2' + m102) (v6 + 1)) (if (S.2 16 ((16 * v6) + v5)) = (-99) then 0 else 1)
theorem M_count_l71_s (S : Sta) (v5 : Int) (fu : Nat) (v2' : Int) (v6 : Int) : M_count_l71 S v5 (fu + 1) v2' v6 = (if 30 ≤ v6 then v2' else (fun (m102 : Int) => M_count_l71 S v5 fu (v2' + m102) (v6 + 1)) (if (S.2 16 ((16 * v6) + v5)) = (-99) then 0 else 1)) := rfl
def M_count_l15 (S : Sta) : Nat → Int → Int → Int → Int → Int × Int × Int
  | 0, v2, v3, v4, v5 => (v2, v3, v4)
  | fu + 1, v2, v3, v4, v5 => if (S.1 1) ≤ v5 then (v2, v3, v4) else (fun (z37 : Int) => (fun (z71 : Int) => M_count_l15 S fu z71 (v3 + (S.2 2 v5)) z37 (v5 + 1)) (M_count_l71 S v5 (31) v2 0)) (M_count_l37 S v5 (5) v4 0)
theorem M_count_l15_s (S : Sta) (fu : Nat) (v2 : Int) (v3 : Int) (v4 : Int) (v5 : Int) : M_count_l15 S (fu + 1) v2 v3 v4 v5 = (if (S.1 1) ≤ v5 then (v2, v3, v4) else (fun (z37 : Int) => (fun (z71 : Int) => M_count_l15 S fu z71 (v3 + (S.2 2 v5)) z37 (v5 + 1)) (M_count_l71 S v5 (31) v2 0)) (M_count_l37 S v5 (5) v4 0)) := rfl
def M_count_l122 (z15 : Int × Int × Int) : Nat → Int → Int → Int
  | 0, v5, v6 => v5
  | fu + 1, v5, v6 => if 8 ≤ v6 then v5 else M_count_l122 z15 fu (v5 + (zi_and (zi_shr z15.2.2 v6) 1)) (v6 + 1)
theorem M_count_l122_s (z15 : Int × Int × Int) (fu : Nat) (v5 : Int) (v6 : Int) : M_count_l122 z15 (fu + 1) v5 v6 = (if 8 ≤ v6 then v5 else M_count_l122 z15 fu (v5 + (zi_and (zi_shr z15.2.2 v6) 1)) (v6 + 1)) := rfl
def M_count_r122 (S : Sta) (w : Int) (z15 : Int × Int × Int) (z122 : Int) : Int := if w = 0 then (S.1 1) else if w = 1 then (S.1 2) else if w = 2 then z15.1 else if w = 3 then z15.2.1 else if w = 4 then z122 else (-2)
def M_count_r15 (S : Sta) (w : Int) (z15 : Int × Int × Int) : Int := (fun z122 => M_count_r122 S w z15 z122) (M_count_l122 z15 (9) 0 0)
def M_count (S : Sta) (w : Int) : Int := (fun z15 => M_count_r15 S w z15) (M_count_l15 S (17) 0 0 0 0)
set_option maxRecDepth 100000 in
theorem c_M_count {l : Launch} {K : KK} {N : Int} (q : Nat → Nat) (S : Sta) (w : Int) (hI : InvW N S) (hp1 : ok32 w) : CtI l yX3_count cX3_count 7 .int (0, 0) K [.ref (q 0), .int (iI w)] (wM K q S) (M_count S w) (wM K q S) := by
  refine ctI_of (by decide) (Nat.le_of_ble_eq_true rfl) rfl ?_
  intro x X hD hR
  have hD : ∀ S9 : Sta, va_D (cx_A x) (wM K q S9) := fun S9 => va_D_same hD rfl
  have hs1 := InvM_s1 hI
  have hs2 := InvM_s2 hI
  have hs3 := InvM_s3 hI
  have hs4 := InvM_s4 hI
  refine gx_aload_n X dX3_count_0 rfl 0 rfl ?_
  refine gx_iconst (z := 0) X dX3_count_1 rfl ?_
  refine gM_t0 X (hD _) (InvM_t hI) dX3_count_2 ?_
  refine gx_iconst (z := 0) X dX3_count_5 rfl ?_
  refine gx_istore_n X dX3_count_6 rfl (by decide) rfl ?_
  refine gx_iconst (z := 0) X dX3_count_7 rfl ?_
  refine gx_istore_n X dX3_count_8 rfl (by decide) rfl ?_
  refine gx_iconst (z := 0) X dX3_count_9 rfl ?_
  refine gx_istore X dX3_count_10 (by decide) rfl ?_
  refine gx_iconst (z := 0) X dX3_count_12 rfl ?_
  refine gx_istore X dX3_count_13 (by decide) rfl ?_
  have L15 : ∀ (fu : Nat) (v2 : Int) (v3 : Int) (v4 : Int) (v5 : Int), (0 ≤ v5) → (v5 ≤ (S.1 1)) → ((S.1 1) - v5) < (fu : Int) → (∀ z15 : Int × Int × Int, M_count_l15 S fu v2 v3 v4 v5 = z15 → True → GG l (rmK (0, 0)) K x (wM K q S) 116 [(0, .ref (q 0)), (1, .int (iI w)), (2, .int (iI z15.1)), (3, .int (iI z15.2.1)), (4, .int (iI z15.2.2))] []) → GG l (rmK (0, 0)) K x (wM K q S) 15 [(0, .ref (q 0)), (1, .int (iI w)), (2, .int (iI v2)), (3, .int (iI v3)), (4, .int (iI v4)), (5, .int (iI v5))] [] := by
    intro fu
    induction fu with
    | zero => intro v2 v3 v4 v5 hi15_0 hi15_1 hm15 K15; exact absurd hm15 (by omega)
    | succ fu ih =>
      intro v2 v3 v4 v5 hi15_0 hi15_1 hm15 K15
      refine gx_iload X dX3_count_15 5 rfl ?_
      refine gx_aload_n X dX3_count_17 rfl 0 rfl ?_
      refine gM_g1 (v := (S.1 1)) X rfl dX3_count_18 ?_
      refine gx_icmp_ge (tgt := 116) X dX3_count_21 (by decide) (by omega) (fun hc21 => ?_) (fun hc21 => ?_)
      · refine gx_sub [0, 1, 2, 3, 4] rfl ?_
        exact K15 (v2, v3, v4) ((M_count_l15_s S fu v2 v3 v4 v5).trans (if_pos hc21)) trivial
      · refine gx_iload_n X dX3_count_24 rfl 3 rfl ?_
        refine gx_aload_n X dX3_count_25 rfl 0 rfl ?_
        refine gM_r2 X dX3_count_26 ?_
        refine gx_iload X dX3_count_29 5 rfl ?_
        refine gM_l2 (v := (S.2 2 v5)) X (by omega) rfl dX3_count_31 ?_
        have hr31 := InvM_a2 hI v5
        refine gx_iadd X dX3_count_32 ?_
        refine gx_istore_n X dX3_count_33 rfl (by decide) rfl ?_
        refine gx_iconst (z := 0) X dX3_count_34 rfl ?_
        refine gx_istore X dX3_count_35 (by decide) rfl ?_
        have L37 : ∀ (fu : Nat) (v4' : Int) (v6 : Int), (0 ≤ v6) → (v6 ≤ 4) → (4 - v6) < (fu : Int) → (∀ z37 : Int, M_count_l37 S v5 fu v4' v6 = z37 → True → GG l (rmK (0, 0)) K x (wM K q S) 68 [(0, .ref (q 0)), (1, .int (iI w)), (2, .int (iI v2)), (3, .int (iI (v3 + (S.2 2 v5)))), (4, .int (iI z37)), (5, .int (iI v5))] []) → GG l (rmK (0, 0)) K x (wM K q S) 37 [(0, .ref (q 0)), (1, .int (iI w)), (2, .int (iI v2)), (3, .int (iI (v3 + (S.2 2 v5)))), (4, .int (iI v4')), (5, .int (iI v5)), (6, .int (iI v6))] [] := by
          intro fu
          induction fu with
          | zero => intro v4' v6 hi37_0 hi37_1 hm37 K37; exact absurd hm37 (by omega)
          | succ fu ih =>
            intro v4' v6 hi37_0 hi37_1 hm37 K37
            refine gx_iload X dX3_count_37 6 rfl ?_
            refine gx_iconst (z := 4) X dX3_count_39 rfl ?_
            refine gx_icmp_ge (tgt := 68) X dX3_count_40 (by decide) (by omega) (fun hc40 => ?_) (fun hc40 => ?_)
            · refine gx_sub [0, 1, 2, 3, 4, 5] rfl ?_
              exact K37 v4' ((M_count_l37_s S v5 fu v4' v6).trans (if_pos hc40)) trivial
            · refine gx_iload X dX3_count_43 4 rfl ?_
              refine gx_iconst (z := 1) X dX3_count_45 rfl ?_
              refine gx_aload_n X dX3_count_46 rfl 0 rfl ?_
              refine gM_r0 X dX3_count_47 ?_
              refine gx_iconst (z := 4) X dX3_count_50 rfl ?_
              refine gx_iload X dX3_count_51 5 rfl ?_
              refine gx_imul X dX3_count_53 ?_
              refine gx_iload X dX3_count_54 6 rfl ?_
              refine gx_iadd X dX3_count_56 ?_
              refine gM_l0 (v := (S.2 0 ((4 * v5) + v6))) X (by omega) rfl dX3_count_57 ?_
              have hr57 := InvM_a0 hI ((4 * v5) + v6)
              refine gx_ishl X dX3_count_58 ?_
              have ho58 := ok_shl 1 (S.2 0 ((4 * v5) + v6))
              refine gx_ior X dX3_count_59 ?_
              have ho59 := ok_or v4' (zi_shl 1 (S.2 0 ((4 * v5) + v6)))
              refine gx_istore X dX3_count_60 (by decide) rfl ?_
              refine gx_iinc X dX3_count_62 6 rfl (by decide) rfl ?_
              refine gx_goto (tgt := 37) X dX3_count_65 (by decide) ?_
              refine gx_sub [2, 3, 4, 5, 1, 6, 0] rfl ?_
              exact ih (zi_or v4' (zi_shl 1 (S.2 0 ((4 * v5) + v6)))) (v6 + 1) (by omega) (by omega) (by omega) (fun z e hx => K37 z ((M_count_l37_s S v5 fu v4' v6).trans ((if_neg hc40).trans e)) hx)
        refine gx_sub [2, 3, 4, 1, 5, 6, 0] rfl ?_
        refine L37 (5) v4 0 (by omega) (by omega) (by omega) (fun z37 e37 hx37 => ?_)
        refine gx_iconst (z := 0) X dX3_count_68 rfl ?_
        refine gx_istore X dX3_count_69 (by decide) rfl ?_
        have L71 : ∀ (fu : Nat) (v2' : Int) (v6 : Int), (0 ≤ v6) → (v6 ≤ 30) → (30 - v6) < (fu : Int) → (∀ z71 : Int, M_count_l71 S v5 fu v2' v6 = z71 → True → GG l (rmK (0, 0)) K x (wM K q S) 110 [(0, .ref (q 0)), (1, .int (iI w)), (2, .int (iI z71)), (3, .int (iI (v3 + (S.2 2 v5)))), (4, .int (iI z37)), (5, .int (iI v5))] []) → GG l (rmK (0, 0)) K x (wM K q S) 71 [(0, .ref (q 0)), (1, .int (iI w)), (2, .int (iI v2')), (3, .int (iI (v3 + (S.2 2 v5)))), (4, .int (iI z37)), (5, .int (iI v5)), (6, .int (iI v6))] [] := by
          intro fu
          induction fu with
          | zero => intro v2' v6 hi71_0 hi71_1 hm71 K71; exact absurd hm71 (by omega)
          | succ fu ih =>
            intro v2' v6 hi71_0 hi71_1 hm71 K71
            refine gx_iload X dX3_count_71 6 rfl ?_
            refine gx_bipush (z := 30) X dX3_count_73 (by decide) ?_
            refine gx_icmp_ge (tgt := 110) X dX3_count_75 (by decide) (by omega) (fun hc75 => ?_) (fun hc75 => ?_)
            · refine gx_sub [0, 1, 2, 3, 4, 5] rfl ?_
              exact K71 v2' ((M_count_l71_s S v5 fu v2' v6).trans (if_pos hc75)) trivial
            · refine gx_iload_n X dX3_count_78 rfl 2 rfl ?_
              refine gx_aload_n X dX3_count_79 rfl 0 rfl ?_
              refine gM_r16 X dX3_count_80 ?_
              refine gx_bipush (z := 16) X dX3_count_83 (by decide) ?_
              refine gx_iload X dX3_count_85 6 rfl ?_
              refine gx_imul X dX3_count_87 ?_
              refine gx_iload X dX3_count_88 5 rfl ?_
              refine gx_iadd X dX3_count_90 ?_
              refine gM_l16 (v := (S.2 16 ((16 * v6) + v5))) X (by omega) rfl dX3_count_91 ?_
              have hr91 := InvM_a16 hI ((16 * v6) + v5)
              refine gx_bipush (z := (-99)) X dX3_count_92 (by decide) ?_
              have J102 : ∀ (m102 : Int), m102 = (if (S.2 16 ((16 * v6) + v5)) = (-99) then 0 else 1) → GG l (rmK (0, 0)) K x (wM K q S) 102 [(0, .ref (q 0)), (1, .int (iI w)), (2, .int (iI v2')), (3, .int (iI (v3 + (S.2 2 v5)))), (4, .int (iI z37)), (5, .int (iI v5)), (6, .int (iI v6))] [.int (iI m102), .int (iI v2')] := by
                intro m102 e_m102
                refine gx_iadd X dX3_count_102 ?_
                refine gx_istore_n X dX3_count_103 rfl (by decide) rfl ?_
                refine gx_iinc X dX3_count_104 6 rfl (by decide) rfl ?_
                refine gx_goto (tgt := 71) X dX3_count_107 (by decide) ?_
                refine gx_sub [2, 3, 1, 4, 5, 6, 0] rfl ?_
                subst e_m102
                exact ih _ _ (by omega) (by omega) (by omega) (fun z e hx => K71 z ((M_count_l71_s S v5 fu v2' v6).trans ((if_neg hc75).trans e)) hx)
              refine gx_icmp_ne (tgt := 101) X dX3_count_94 (by decide) (by omega) (fun hc94 => ?_) (fun hc94 => ?_)
              · refine gx_iconst (z := 1) X dX3_count_101 rfl ?_
                refine gx_sub [0, 1, 2, 3, 4, 5, 6] rfl ?_
                exact J102 1 ((if_neg hc94).symm) 
              · refine gx_iconst (z := 0) X dX3_count_97 rfl ?_
                refine gx_goto (tgt := 102) X dX3_count_98 (by decide) ?_
                refine gx_sub [0, 1, 2, 3, 4, 5, 6] rfl ?_
                exact J102 0 ((if_pos hc94).symm) 
        refine gx_sub [1, 2, 3, 4, 5, 6, 0] rfl ?_
        refine L71 (31) v2 0 (by omega) (by omega) (by omega) (fun z71 e71 hx71 => ?_)
        refine gx_iinc X dX3_count_110 5 rfl (by decide) rfl ?_
        refine gx_goto (tgt := 15) X dX3_count_113 (by decide) ?_
        refine gx_sub [1, 2, 3, 4, 5, 0] rfl ?_
        subst e37
        subst e71
        exact ih _ _ _ _ (by omega) (by omega) (by omega) (fun z e hx => K15 z ((M_count_l15_s S fu v2 v3 v4 v5).trans ((if_neg hc21).trans e)) hx)
  refine gx_sub [4, 5, 3, 2, 1, 0] rfl ?_
  refine L15 (17) 0 0 0 0 (by omega) (by omega) (by omega) (fun z15 e15 hx15 => ?_)
  refine gx_iconst (z := 0) X dX3_count_116 rfl ?_
  refine gx_istore X dX3_count_117 (by decide) rfl ?_
  refine gx_iconst (z := 0) X dX3_count_119 rfl ?_
  refine gx_istore X dX3_count_120 (by decide) rfl ?_
  have L122 : ∀ (fu : Nat) (v5 : Int) (v6 : Int), (0 ≤ v6) → (v6 ≤ 8) → (8 - v6) < (fu : Int) → (∀ z122 : Int, M_count_l122 z15 fu v5 v6 = z122 → True → GG l (rmK (0, 0)) K x (wM K q S) 147 [(0, .ref (q 0)), (1, .int (iI w)), (2, .int (iI z15.1)), (3, .int (iI z15.2.1)), (4, .int (iI z15.2.2)), (5, .int (iI z122))] []) → GG l (rmK (0, 0)) K x (wM K q S) 122 [(0, .ref (q 0)), (1, .int (iI w)), (2, .int (iI z15.1)), (3, .int (iI z15.2.1)), (4, .int (iI z15.2.2)), (5, .int (iI v5)), (6, .int (iI v6))] [] := by
    intro fu
    induction fu with
    | zero => intro v5 v6 hi122_0 hi122_1 hm122 K122; exact absurd hm122 (by omega)
    | succ fu ih =>
      intro v5 v6 hi122_0 hi122_1 hm122 K122
      refine gx_iload X dX3_count_122 6 rfl ?_
      refine gx_bipush (z := 8) X dX3_count_124 (by decide) ?_
      refine gx_icmp_ge (tgt := 147) X dX3_count_126 (by decide) (by omega) (fun hc126 => ?_) (fun hc126 => ?_)
      · refine gx_sub [0, 1, 2, 3, 4, 5] rfl ?_
        exact K122 v5 ((M_count_l122_s z15 fu v5 v6).trans (if_pos hc126)) trivial
      · refine gx_iload X dX3_count_129 5 rfl ?_
        refine gx_iload X dX3_count_131 4 rfl ?_
        refine gx_iload X dX3_count_133 6 rfl ?_
        refine gx_ishr X dX3_count_135 ?_
        have ho135 := ok_shr z15.2.2 v6
        refine gx_iconst (z := 1) X dX3_count_136 rfl ?_
        refine gx_iand X dX3_count_137 ?_
        have ho137 := ok_and (zi_shr z15.2.2 v6) 1
        refine gx_iadd X dX3_count_138 ?_
        refine gx_istore X dX3_count_139 (by decide) rfl ?_
        refine gx_iinc X dX3_count_141 6 rfl (by decide) rfl ?_
        refine gx_goto (tgt := 122) X dX3_count_144 (by decide) ?_
        refine gx_sub [2, 3, 4, 5, 6, 1, 0] rfl ?_
        exact ih (v5 + (zi_and (zi_shr z15.2.2 v6) 1)) (v6 + 1) (by omega) (by omega) (by omega) (fun z e hx => K122 z ((M_count_l122_s z15 fu v5 v6).trans ((if_neg hc126).trans e)) hx)
  refine gx_sub [2, 3, 4, 5, 6, 1, 0] rfl ?_
  refine L122 (9) 0 0 (by omega) (by omega) (by omega) (fun z122 e122 hx122 => ?_)
  refine gx_iload_n X dX3_count_147 rfl 1 rfl ?_
  have hsw148 : ok32 w := by omega
  by_cases hc148_0 : w = 0
  · refine gx_switchIn (tgt := 184) X dX3_count_148 (k := 0) hc148_0 (by decide) (by decide) rfl (by decide) ?_
    refine gx_aload_n X dX3_count_184 rfl 0 rfl ?_
    refine gM_g1 (v := (S.1 1)) X rfl dX3_count_185 ?_
    exact gx_iret hR ((congrArg (fun z15 => M_count_r15 S w z15) e15).trans ((congrArg (fun z122 => M_count_r122 S w z15 z122) e122).trans (if_pos hc148_0))) rfl dX3_count_188
  by_cases hc148_1 : w = 1
  · refine gx_switchIn (tgt := 189) X dX3_count_148 (k := 1) hc148_1 (by decide) (by decide) rfl (by decide) ?_
    refine gx_aload_n X dX3_count_189 rfl 0 rfl ?_
    refine gM_g2 (v := (S.1 2)) X rfl dX3_count_190 ?_
    exact gx_iret hR ((congrArg (fun z15 => M_count_r15 S w z15) e15).trans ((congrArg (fun z122 => M_count_r122 S w z15 z122) e122).trans ((if_neg hc148_0).trans (if_pos hc148_1)))) rfl dX3_count_193
  by_cases hc148_2 : w = 2
  · refine gx_switchIn (tgt := 194) X dX3_count_148 (k := 2) hc148_2 (by decide) (by decide) rfl (by decide) ?_
    refine gx_iload_n X dX3_count_194 rfl 2 rfl ?_
    exact gx_iret hR ((congrArg (fun z15 => M_count_r15 S w z15) e15).trans ((congrArg (fun z122 => M_count_r122 S w z15 z122) e122).trans ((if_neg hc148_0).trans ((if_neg hc148_1).trans (if_pos hc148_2))))) rfl dX3_count_195
  by_cases hc148_3 : w = 3
  · refine gx_switchIn (tgt := 196) X dX3_count_148 (k := 3) hc148_3 (by decide) (by decide) rfl (by decide) ?_
    refine gx_iload_n X dX3_count_196 rfl 3 rfl ?_
    exact gx_iret hR ((congrArg (fun z15 => M_count_r15 S w z15) e15).trans ((congrArg (fun z122 => M_count_r122 S w z15 z122) e122).trans ((if_neg hc148_0).trans ((if_neg hc148_1).trans ((if_neg hc148_2).trans (if_pos hc148_3)))))) rfl dX3_count_197
  by_cases hc148_4 : w = 4
  · refine gx_switchIn (tgt := 198) X dX3_count_148 (k := 4) hc148_4 (by decide) (by decide) rfl (by decide) ?_
    refine gx_iload X dX3_count_198 5 rfl ?_
    exact gx_iret hR ((congrArg (fun z15 => M_count_r15 S w z15) e15).trans ((congrArg (fun z122 => M_count_r122 S w z15 z122) e122).trans ((if_neg hc148_0).trans ((if_neg hc148_1).trans ((if_neg hc148_2).trans ((if_neg hc148_3).trans (if_pos hc148_4))))))) rfl dX3_count_200
  refine gx_switchOut (tgt := 201) X dX3_count_148 hsw148 (by omega) (by decide) ?_
  refine gx_bipush (z := (-2)) X dX3_count_201 (by decide) ?_
  exact gx_iret hR ((congrArg (fun z15 => M_count_r15 S w z15) e15).trans ((congrArg (fun z122 => M_count_r122 S w z15 z122) e122).trans ((if_neg hc148_0).trans ((if_neg hc148_1).trans ((if_neg hc148_2).trans ((if_neg hc148_3).trans (if_neg hc148_4))))))) rfl dX3_count_203
end
section
def M_look_l28 (S : Sta) (c : Int) (v2 : Int) (v3 : Int) (v4 : Int) : Nat → Int → Sta → Sta
  | 0, v5, S28 => S28
  | fu + 1, v5, S28 => if 30 < v5 then S28 else M_look_l28 S c v2 v3 v4 fu (v5 + 1) (mA S28 17 (M_spot (S.1 3) v2 v3 v4 v5) (M_size ((S.2 4 c) + v5)))
theorem M_look_l28_s (S : Sta) (c : Int) (v2 : Int) (v3 : Int) (v4 : Int) (fu : Nat) (v5 : Int) (S28 : Sta) : M_look_l28 S c v2 v3 v4 (fu + 1) v5 S28 = (if 30 < v5 then S28 else M_look_l28 S c v2 v3 v4 fu (v5 + 1) (mA S28 17 (M_spot (S.1 3) v2 v3 v4 v5) (M_size ((S.2 4 c) + v5)))) := rfl
def M_look_l17 (S : Sta) (c : Int) (v2 : Int) (v3 : Int) : Nat → Int → Sta → Sta
  | 0, v4, S17 => S17
  | fu + 1, v4, S17 => if 10 ≤ v4 then S17 else (fun (z28 : Sta) => M_look_l17 S c v2 v3 fu (v4 + 1) z28) (M_look_l28 S c v2 v3 v4 (62) (-30) S17)
theorem M_look_l17_s (S : Sta) (c : Int) (v2 : Int) (v3 : Int) (fu : Nat) (v4 : Int) (S17 : Sta) : M_look_l17 S c v2 v3 (fu + 1) v4 S17 = (if 10 ≤ v4 then S17 else (fun (z28 : Sta) => M_look_l17 S c v2 v3 fu (v4 + 1) z28) (M_look_l28 S c v2 v3 v4 (62) (-30) S17)) := rfl
def M_look_l9 (S : Sta) (c : Int) (v2 : Int) : Nat → Int → Sta → Sta
  | 0, v3, S9 => S9
  | fu + 1, v3, S9 => if 4 ≤ v3 then S9 else (fun (z17 : Sta) => M_look_l9 S c v2 fu (v3 + 1) z17) (M_look_l17 S c v2 v3 (11) 0 S9)
theorem M_look_l9_s (S : Sta) (c : Int) (v2 : Int) (fu : Nat) (v3 : Int) (S9 : Sta) : M_look_l9 S c v2 (fu + 1) v3 S9 = (if 4 ≤ v3 then S9 else (fun (z17 : Sta) => M_look_l9 S c v2 fu (v3 + 1) z17) (M_look_l17 S c v2 v3 (11) 0 S9)) := rfl
def M_look_l2 (S : Sta) (c : Int) : Nat → Int → Sta → Sta
  | 0, v2, S2 => S2
  | fu + 1, v2, S2 => if 4 ≤ v2 then S2 else (fun (z9 : Sta) => M_look_l2 S c fu (v2 + 1) z9) (M_look_l9 S c v2 (5) 0 S2)
theorem M_look_l2_s (S : Sta) (c : Int) (fu : Nat) (v2 : Int) (S2 : Sta) : M_look_l2 S c (fu + 1) v2 S2 = (if 4 ≤ v2 then S2 else (fun (z9 : Sta) => M_look_l2 S c fu (v2 + 1) z9) (M_look_l9 S c v2 (5) 0 S2)) := rfl
def M_look_l143 (c : Int) (v2 : Int) (v3 : Int) (v4 : Int) (v5 : Int) (v6 : Int) (S130 : Sta) : Nat → Int → Int → Int
  | 0, v7, v8 => v7
  | fu + 1, v7, v8 => if 3 ≤ v8 then v7 else (fun (m182 : Int) => (fun (m198 : Int) => M_look_l143 c v2 v3 v4 v5 v6 S130 fu m198 (v8 + 1)) (if v7 ≤ m182 then v7 else m182)) (if v5 = 9 then if v8 = 2 then 1000000 else (M_by S130 c v2 v3 v4 v5 v6 v8) else (M_by S130 c v2 v3 v4 v5 v6 v8))
theorem M_look_l143_s (c : Int) (v2 : Int) (v3 : Int) (v4 : Int) (v5 : Int) (v6 : Int) (S130 : Sta) (fu : Nat) (v7 : Int) (v8 : Int) : M_look_l143 c v2 v3 v4 v5 v6 S130 (fu + 1) v7 v8 = (if 3 ≤ v8 then v7 else (fun (m182 : Int) => (fun (m198 : Int) => M_look_l143 c v2 v3 v4 v5 v6 S130 fu m198 (v8 + 1)) (if v7 ≤ m182 then v7 else m182)) (if v5 = 9 then if v8 = 2 then 1000000 else (M_by S130 c v2 v3 v4 v5 v6 v8) else (M_by S130 c v2 v3 v4 v5 v6 v8))) := rfl
def M_look_l130 (c : Int) (v2 : Int) (v3 : Int) (v4 : Int) (v5 : Int) : Nat → Int → Sta → Sta
  | 0, v6, S130 => S130
  | fu + 1, v6, S130 => if v2 < v6 then S130 else (fun (z143 : Int) => M_look_l130 c v2 v3 v4 v5 fu (v6 + 1) (mA S130 17 (M_spot v2 v3 v4 v5 v6) z143)) (M_look_l143 c v2 v3 v4 v5 v6 S130 (4) 1000000 0)
theorem M_look_l130_s (c : Int) (v2 : Int) (v3 : Int) (v4 : Int) (v5 : Int) (fu : Nat) (v6 : Int) (S130 : Sta) : M_look_l130 c v2 v3 v4 v5 (fu + 1) v6 S130 = (if v2 < v6 then S130 else (fun (z143 : Int) => M_look_l130 c v2 v3 v4 v5 fu (v6 + 1) (mA S130 17 (M_spot v2 v3 v4 v5 v6) z143)) (M_look_l143 c v2 v3 v4 v5 v6 S130 (4) 1000000 0)) := rfl
def M_look_l119 (c : Int) (v2 : Int) (v3 : Int) (v4 : Int) : Nat → Int → Sta → Sta
  | 0, v5, S119 => S119
  | fu + 1, v5, S119 => if 10 ≤ v5 then S119 else (fun (z130 : Sta) => M_look_l119 c v2 v3 v4 fu (v5 + 1) z130) (M_look_l130 c v2 v3 v4 v5 (62) (-v2) S119)
theorem M_look_l119_s (c : Int) (v2 : Int) (v3 : Int) (v4 : Int) (fu : Nat) (v5 : Int) (S119 : Sta) : M_look_l119 c v2 v3 v4 (fu + 1) v5 S119 = (if 10 ≤ v5 then S119 else (fun (z130 : Sta) => M_look_l119 c v2 v3 v4 fu (v5 + 1) z130) (M_look_l130 c v2 v3 v4 v5 (62) (-v2) S119)) := rfl
def M_look_l110 (c : Int) (v2 : Int) (v3 : Int) : Nat → Int → Sta → Sta
  | 0, v4, S110 => S110
  | fu + 1, v4, S110 => if 4 ≤ v4 then S110 else (fun (z119 : Sta) => M_look_l110 c v2 v3 fu (v4 + 1) z119) (M_look_l119 c v2 v3 v4 (11) 0 S110)
theorem M_look_l110_s (c : Int) (v2 : Int) (v3 : Int) (fu : Nat) (v4 : Int) (S110 : Sta) : M_look_l110 c v2 v3 (fu + 1) v4 S110 = (if 4 ≤ v4 then S110 else (fun (z119 : Sta) => M_look_l110 c v2 v3 fu (v4 + 1) z119) (M_look_l119 c v2 v3 v4 (11) 0 S110)) := rfl
def M_look_l102 (c : Int) (v2 : Int) : Nat → Int → Sta → Sta
  | 0, v3, S102 => S102
  | fu + 1, v3, S102 => if 4 ≤ v3 then S102 else (fun (z110 : Sta) => M_look_l102 c v2 fu (v3 + 1) z110) (M_look_l110 c v2 v3 (5) 0 S102)
theorem M_look_l102_s (c : Int) (v2 : Int) (fu : Nat) (v3 : Int) (S102 : Sta) : M_look_l102 c v2 (fu + 1) v3 S102 = (if 4 ≤ v3 then S102 else (fun (z110 : Sta) => M_look_l102 c v2 fu (v3 + 1) z110) (M_look_l110 c v2 v3 (5) 0 S102)) := rfl
def M_look_l96 (c : Int) : Nat → Int → Sta → Sta
  | 0, v2, S96 => S96
  | fu + 1, v2, S96 => if v2 < 0 then S96 else (fun (z102 : Sta) => M_look_l96 c fu (v2 + (-1)) z102) (M_look_l102 c v2 (5) 0 S96)
theorem M_look_l96_s (c : Int) (fu : Nat) (v2 : Int) (S96 : Sta) : M_look_l96 c (fu + 1) v2 S96 = (if v2 < 0 then S96 else (fun (z102 : Sta) => M_look_l96 c fu (v2 + (-1)) z102) (M_look_l102 c v2 (5) 0 S96)) := rfl
def M_look_l355 (c : Int) (z96 : Sta) (v2 : Int) (v3 : Int) (v4 : Int) (v5 : Int) (v7 : Int) (S336 : Sta) : Nat → Int → Int
  | 0, v8 => v8
  | fu + 1, v8 => if v8 = 2 then if v3 = 9 then M_look_l355 c z96 v2 v3 v4 v5 v7 S336 fu (v8 + 1) else if (M_by S336 c v7 v4 v2 v3 v5 v8) = (z96.2 17 (M_spot v7 v4 v2 v3 v5)) then v8 else M_look_l355 c z96 v2 v3 v4 v5 v7 S336 fu (v8 + 1) else if (M_by S336 c v7 v4 v2 v3 v5 v8) = (z96.2 17 (M_spot v7 v4 v2 v3 v5)) then v8 else M_look_l355 c z96 v2 v3 v4 v5 v7 S336 fu (v8 + 1)
theorem M_look_l355_s (c : Int) (z96 : Sta) (v2 : Int) (v3 : Int) (v4 : Int) (v5 : Int) (v7 : Int) (S336 : Sta) (fu : Nat) (v8 : Int) : M_look_l355 c z96 v2 v3 v4 v5 v7 S336 (fu + 1) v8 = (if v8 = 2 then if v3 = 9 then M_look_l355 c z96 v2 v3 v4 v5 v7 S336 fu (v8 + 1) else if (M_by S336 c v7 v4 v2 v3 v5 v8) = (z96.2 17 (M_spot v7 v4 v2 v3 v5)) then v8 else M_look_l355 c z96 v2 v3 v4 v5 v7 S336 fu (v8 + 1) else if (M_by S336 c v7 v4 v2 v3 v5 v8) = (z96.2 17 (M_spot v7 v4 v2 v3 v5)) then v8 else M_look_l355 c z96 v2 v3 v4 v5 v7 S336 fu (v8 + 1)) := rfl
def M_look_l336 (S : Sta) (c : Int) (z96 : Sta) (m288 : Int) (m311 : Int) : Nat → Int → Int → Int → Int → Int → Sta → Int × Sta
  | 0, v2, v3, v4, v5, v7, S336 => (v5, S336)
  | fu + 1, v2, v3, v4, v5, v7, S336 => if (S.1 3) ≤ v7 then (v5, S336) else if 1000000 ≤ (z96.2 17 (M_spot 0 0 m288 m311 0)) then (v5, S336) else (fun (z355 : Int) => (fun (m478a : Int) (m478b : Int) (m478c : Int) (m478d : Int) => M_look_l336 S c z96 m288 m311 fu m478a m478b m478c m478d (v7 + 1) (mA S336 18 v7 z355)) (if z355 = 2 then v2 else (M_lies (mA S336 18 v7 z355) c ((v4 + ((if z355 = 0 then 1 else 3) : Int)) % 4) z355)) (if z355 = 2 then (v3 + 1) else 0) (if z355 = 2 then v4 else ((v4 + ((if z355 = 0 then 1 else 3) : Int)) % 4)) (if z355 = 2 then v5 else (v5 + ((if z355 = (S.2 2 c) then 1 else (-1)) : Int)))) (M_look_l355 c z96 v2 v3 v4 v5 v7 S336 (3) 0)
theorem M_look_l336_s (S : Sta) (c : Int) (z96 : Sta) (m288 : Int) (m311 : Int) (fu : Nat) (v2 : Int) (v3 : Int) (v4 : Int) (v5 : Int) (v7 : Int) (S336 : Sta) : M_look_l336 S c z96 m288 m311 (fu + 1) v2 v3 v4 v5 v7 S336 = (if (S.1 3) ≤ v7 then (v5, S336) else if 1000000 ≤ (z96.2 17 (M_spot 0 0 m288 m311 0)) then (v5, S336) else (fun (z355 : Int) => (fun (m478a : Int) (m478b : Int) (m478c : Int) (m478d : Int) => M_look_l336 S c z96 m288 m311 fu m478a m478b m478c m478d (v7 + 1) (mA S336 18 v7 z355)) (if z355 = 2 then v2 else (M_lies (mA S336 18 v7 z355) c ((v4 + ((if z355 = 0 then 1 else 3) : Int)) % 4) z355)) (if z355 = 2 then (v3 + 1) else 0) (if z355 = 2 then v4 else ((v4 + ((if z355 = 0 then 1 else 3) : Int)) % 4)) (if z355 = 2 then v5 else (v5 + ((if z355 = (S.2 2 c) then 1 else (-1)) : Int)))) (M_look_l355 c z96 v2 v3 v4 v5 v7 S336 (3) 0)) := rfl
def M_look_r336 (S : Sta) (c : Int) (z96 : Sta) (m288 : Int) (m311 : Int) (z336 : Int × Sta) : Int × Sta := ((z96.2 17 (M_spot 0 0 m288 m311 0)), (mI z336.2 5 ((S.2 4 c) + z336.1)))
def M_look_m311 (S : Sta) (c : Int) (z96 : Sta) (m288 : Int) (m311 : Int) : Int × Sta := (fun z336 => M_look_r336 S c z96 m288 m311 z336) (M_look_l336 S c z96 m288 m311 (31) m288 m311 0 0 0 z96)
def M_look_m288 (S : Sta) (c : Int) (z96 : Sta) (m288 : Int) : Int × Sta := M_look_m311 S c z96 m288 (if (S.2 5 c) ≤ 9 then (S.2 5 c) else 9)
def M_look_r96 (S : Sta) (c : Int) (z96 : Sta) : Int × Sta := M_look_m288 S c z96 (if (S.1 2) = 0 then (S.2 1 (4 * c)) else (S.2 13 ((16 * ((S.1 2) - 1)) + c)))
def M_look_r2 (S : Sta) (c : Int) (z2 : Sta) : Int × Sta := (fun z96 => M_look_r96 S c z96) (M_look_l96 c (31) ((S.1 3) - 1) z2)
def M_look (S : Sta) (c : Int) : Int × Sta := (fun z2 => M_look_r2 S c z2) (M_look_l2 S c (5) 0 S)
def M_ls (S : Sta) (c r t h n u : Int) : Int := M_look_l143 c r t h n u S 4 1000000 0
def M_mn (a b : Int) : Int := if a ≤ b then a else b
theorem M_ls_eq (S : Sta) (c r t h n u : Int) : M_ls S c r t h n u = M_mn (M_mn (M_mn 1000000 (M_by S c r t h n u 0)) (M_by S c r t h n u 1)) (if n = 9 then 1000000 else M_by S c r t h n u 2) := by
  unfold M_ls
  rw [M_look_l143_s, if_neg (by decide)]
  show M_look_l143 c r t h n u S 3 (M_mn 1000000 (if n = 9 then if (0 : Int) = 2 then 1000000 else M_by S c r t h n u 0 else M_by S c r t h n u 0)) 1 = _
  rw [if_neg (show ¬ (0 : Int) = 2 by decide), ite_self, M_look_l143_s, if_neg (by decide)]
  show M_look_l143 c r t h n u S 2 (M_mn (M_mn 1000000 (M_by S c r t h n u 0)) (if n = 9 then if (1 : Int) = 2 then 1000000 else M_by S c r t h n u 1 else M_by S c r t h n u 1)) 2 = _
  rw [if_neg (show ¬ (1 : Int) = 2 by decide), ite_self, M_look_l143_s, if_neg (by decide)]
  show M_look_l143 c r t h n u S 1 (M_mn (M_mn (M_mn 1000000 (M_by S c r t h n u 0)) (M_by S c r t h n u 1)) (if n = 9 then if (2 : Int) = 2 then 1000000 else M_by S c r t h n u 2 else M_by S c r t h n u 2)) 3 = _
  rw [if_pos (show (2 : Int) = 2 by decide), M_look_l143_s, if_pos (by decide)]
def M_rg (r t h n u : Int) : Prop := (0 ≤ t ∧ t ≤ 3) ∧ (0 ≤ h ∧ h ≤ 3) ∧ (0 ≤ n ∧ n ≤ 9) ∧ (-r ≤ u ∧ u ≤ r)
def BTab (S : Sta) (c : Int) : Prop := ∀ r t h n u : Int, 0 ≤ r → r < S.1 3 → M_rg r t h n u → S.2 17 (M_spot r t h n u) = M_ls S c r t h n u
theorem BTab_ex {S : Sta} {c r t h n u : Int} (hb : BTab S c) (h1 : 0 ≤ r ∧ r < S.1 3) (h2 : 0 ≤ t ∧ t ≤ 3) (h3 : 0 ≤ h ∧ h ≤ 3) (h4 : 0 ≤ n ∧ n ≤ 9) (h5 : -r ≤ u ∧ u ≤ r) (hl : S.2 17 (M_spot r t h n u) < 1000000) : ∃ t0 : Int, (0 ≤ t0 ∧ t0 ≤ 2) ∧ (t0 = 2 → n ≤ 8) ∧ M_by S c r t h n u t0 = S.2 17 (M_spot r t h n u) := by
  have e := (hb r t h n u h1.1 h1.2 ⟨h2, h3, h4, h5⟩).trans (M_ls_eq S c r t h n u)
  unfold M_mn at e
  by_cases g0 : M_by S c r t h n u 0 = S.2 17 (M_spot r t h n u)
  · exact ⟨0, by omega, by omega, g0⟩
  · by_cases g1 : M_by S c r t h n u 1 = S.2 17 (M_spot r t h n u)
    · exact ⟨1, by omega, by omega, g1⟩
    · exact ⟨2, by omega, by intro _; omega, by omega⟩
theorem M_by_next2 {S : Sta} {c r t h n u d : Int} (hd : d = 2) (hl : M_by S c r t h n u d < 1000000) : S.2 17 (M_spot (r + 1) t h (n + 1) u) < 1000000 := by
  unfold M_by at hl
  rw [if_pos hd] at hl
  unfold M_by_m40 M_by_m72 at hl
  omega
theorem M_by_next {S : Sta} {c r t h n u d : Int} (hd : ¬ d = 2) (hl : M_by S c r t h n u d < 1000000) : S.2 17 (M_spot (r + 1) ((t + ((if d = 0 then 1 else 3) : Int)) % 4) (M_lies S c ((t + ((if d = 0 then 1 else 3) : Int)) % 4) d) 0 (u + ((if d = S.2 2 c then 1 else (-1)) : Int))) < 1000000 := by
  unfold M_by at hl
  rw [if_neg hd] at hl
  unfold M_by_m104 M_by_m138 at hl
  omega
def M_ag (r : Int) (S S' : Sta) : Prop := S'.1 = S.1 ∧ (∀ k : Nat, k ≠ 17 → S'.2 k = S.2 k) ∧ ∀ j : Int, 9760 * (r + 1) ≤ j → S'.2 17 j = S.2 17 j
theorem M_by_ag {S S' : Sta} {r : Int} (hA : M_ag r S S') (h1 : ∀ j, 0 ≤ S.2 1 j) (c t h n u d : Int) (hr : 0 ≤ r ∧ r ≤ 29) (hg : M_rg r t h n u) : M_by S' c r t h n u d = M_by S c r t h n u d := by
  obtain ⟨g1, g2, g3, g4⟩ := hg
  have e0 := hA.2.1 0 (by decide)
  have e1 := hA.2.1 1 (by decide)
  have e2 := hA.2.1 2 (by decide)
  have e16 := hA.2.1 16 (by decide)
  have x1 := M_spot_sp (r + 1) t h (n + 1) u
  have f1 : S'.2 17 (M_spot (r + 1) t h (n + 1) u) = S.2 17 (M_spot (r + 1) t h (n + 1) u) := hA.2.2 _ (by omega)
  have hl := h1 (4 * c + ((d + 8 - (t + (if d = 0 then 1 else 3)) % 4) % 4))
  have x2 := M_spot_sp (r + 1) ((t + (if d = 0 then 1 else 3)) % 4) (M_lies S c ((t + (if d = 0 then 1 else 3)) % 4) d) 0 (u + (if d = S.2 2 c then 1 else (-1)))
  have hl2 : 0 ≤ M_lies S c ((t + (if d = 0 then 1 else 3)) % 4) d := hl
  have f2 : S'.2 17 (M_spot (r + 1) ((t + (if d = 0 then 1 else 3)) % 4) (M_lies S c ((t + (if d = 0 then 1 else 3)) % 4) d) 0 (u + (if d = S.2 2 c then 1 else (-1)))) = S.2 17 (M_spot (r + 1) ((t + (if d = 0 then 1 else 3)) % 4) (M_lies S c ((t + (if d = 0 then 1 else 3)) % 4) d) 0 (u + (if d = S.2 2 c then 1 else (-1)))) := hA.2.2 _ (by omega)
  have hli : ∀ a b : Int, M_lies S' c a b = M_lies S c a b := fun a b => by unfold M_lies; rw [e1]
  have hfi : ∀ v : Int, M_fits S' r c v = M_fits S r c v := fun v => by unfold M_fits; rw [e16]
  unfold M_by M_by_m104 M_by_m138 M_by_m40
  simp only [hfi, hli, hA.1, e0, e2, f1, f2]
theorem M_ls_ag {S S' : Sta} {r : Int} (hA : M_ag r S S') (h1 : ∀ j, 0 ≤ S.2 1 j) (c t h n u : Int) (hr : 0 ≤ r ∧ r ≤ 29) (hg : M_rg r t h n u) : M_ls S' c r t h n u = M_ls S c r t h n u := by
  rw [M_ls_eq, M_ls_eq, M_by_ag hA h1 c t h n u 0 hr hg, M_by_ag hA h1 c t h n u 1 hr hg, M_by_ag hA h1 c t h n u 2 hr hg]
def M_fill (c r : Int) (P : Int → Int → Int → Int → Prop) (S S' : Sta) : Prop := S'.1 = S.1 ∧ (∀ k : Nat, k ≠ 17 → S'.2 k = S.2 k) ∧ (∀ j : Int, (∀ t h n u : Int, M_rg r t h n u → P t h n u → j ≠ M_spot r t h n u) → S'.2 17 j = S.2 17 j) ∧ (∀ t h n u : Int, M_rg r t h n u → P t h n u → S'.2 17 (M_spot r t h n u) = M_ls S c r t h n u)
theorem M_fill_nil (c r : Int) (P : Int → Int → Int → Int → Prop) (S : Sta) (hn : ∀ t h n u : Int, M_rg r t h n u → ¬ P t h n u) : M_fill c r P S S := ⟨rfl, fun _ _ => rfl, fun _ _ => rfl, fun t h n u g p => absurd p (hn t h n u g)⟩
theorem M_fill_congr {c r : Int} {P Q : Int → Int → Int → Int → Prop} {S S' : Sta} (h : M_fill c r P S S') (e : ∀ t h n u : Int, M_rg r t h n u → (P t h n u ↔ Q t h n u)) : M_fill c r Q S S' := ⟨h.1, h.2.1, fun j hj => h.2.2.1 j (fun t g n u rg p => hj t g n u rg ((e t g n u rg).mp p)), fun t g n u rg p => h.2.2.2 t g n u rg ((e t g n u rg).mpr p)⟩
theorem M_spot_inj {r t h n u t' h' n' u' : Int} (hr : 0 ≤ r ∧ r ≤ 29) (g : M_rg r t h n u) (g' : M_rg r t' h' n' u') (e : M_spot r t h n u = M_spot r t' h' n' u') : t = t' ∧ h = h' ∧ n = n' ∧ u = u' := by
  rw [M_spot_sp, M_spot_sp] at e
  obtain ⟨a1, a2, a3, a4⟩ := g
  obtain ⟨b1, b2, b3, b4⟩ := g'
  have hu : t = t' := by omega
  subst hu
  have hh : h = h' := by omega
  subst hh
  have hn : n = n' := by omega
  subst hn
  exact ⟨rfl, rfl, rfl, by omega⟩
theorem M_fill_ag {c r r' : Int} {P : Int → Int → Int → Int → Prop} {S S' : Sta} (hr : 0 ≤ r ∧ r ≤ 29) (hr' : r ≤ r') (h : M_fill c r P S S') : M_ag r' S S' := by
  refine ⟨h.1, h.2.1, fun j hj => h.2.2.1 j (fun t g n u rg _ => ?_)⟩
  rw [M_spot_sp]
  obtain ⟨a1, a2, a3, a4⟩ := rg
  omega
theorem M_fill_seq {c r : Int} {P Q : Int → Int → Int → Int → Prop} {S S1 S2 : Sta} (hr : 0 ≤ r ∧ r ≤ 29) (h1 : ∀ j, 0 ≤ S.2 1 j) (hP : M_fill c r P S S1) (hQ : M_fill c r Q S1 S2) (hd : ∀ t h n u : Int, M_rg r t h n u → P t h n u → ¬ Q t h n u) : M_fill c r (fun t h n u => P t h n u ∨ Q t h n u) S S2 := by
  refine ⟨hQ.1.trans hP.1, fun k hk => (hQ.2.1 k hk).trans (hP.2.1 k hk), fun j hj => ?_, fun t h n u rg hpq => ?_⟩
  · exact (hQ.2.2.1 j (fun t h n u rg q => hj t h n u rg (Or.inr q))).trans (hP.2.2.1 j (fun t h n u rg p => hj t h n u rg (Or.inl p)))
  · rcases hpq with p | q
    · refine (hQ.2.2.1 _ (fun t' h' n' u' rg' q' e => ?_)).trans (hP.2.2.2 t h n u rg p)
      obtain ⟨rfl, rfl, rfl, rfl⟩ := M_spot_inj hr rg rg' e
      exact hd _ _ _ _ rg p q'
    · exact (hQ.2.2.2 t h n u rg q).trans (M_ls_ag (M_fill_ag hr (Int.le_refl r) hP) h1 c t h n u hr rg)
theorem M_fill_one (c r t h n u : Int) (S : Sta) (hr : 0 ≤ r ∧ r ≤ 29) (hg : M_rg r t h n u) : M_fill c r (fun t' h' n' u' => t' = t ∧ h' = h ∧ n' = n ∧ u' = u) S (mA S 17 (M_spot r t h n u) (M_ls S c r t h n u)) := by
  refine ⟨rfl, fun k hk => mA_ne _ _ trivial hk, fun j hj => ?_, fun t' h' n' u' _ hp => ?_⟩
  · exact iu_ne _ _ (hj t h n u hg ⟨rfl, rfl, rfl, rfl⟩)
  · obtain ⟨rfl, rfl, rfl, rfl⟩ := hp
    exact iu_same _ _ _
theorem M_fill_1 {c r : Int} {P : Int → Int → Int → Int → Prop} {S S' : Sta} (h : M_fill c r P S S') (h1 : ∀ j, 0 ≤ S.2 1 j) : ∀ j, 0 ≤ S'.2 1 j := fun j => by rw [h.2.1 1 (by decide)]; exact h1 j
theorem M_look_l130_fill (c r t h n : Int) (hr : 0 ≤ r ∧ r ≤ 29) (ht : 0 ≤ t ∧ t ≤ 3) (hh : 0 ≤ h ∧ h ≤ 3) (hn : 0 ≤ n ∧ n ≤ 9) : ∀ (fu : Nat) (v : Int) (S : Sta), (∀ j, 0 ≤ S.2 1 j) → -r ≤ v → r + 1 - v < (fu : Int) → M_fill c r (fun t' h' n' u' => t' = t ∧ h' = h ∧ n' = n ∧ v ≤ u') S (M_look_l130 c r t h n fu v S) := by
  intro fu
  induction fu with
  | zero => intro v S _ _ h2; exact M_fill_nil _ _ _ _ (fun t' h' n' u' g p => by obtain ⟨a1, a2, a3, a4⟩ := g; omega)
  | succ fu ih =>
    intro v S h1 h0 h2
    rw [M_look_l130_s]
    split
    · next hlt => exact M_fill_nil _ _ _ _ (fun t' h' n' u' g p => by obtain ⟨a1, a2, a3, a4⟩ := g; omega)
    · next hlt =>
      have o := M_fill_one c r t h n v S hr ⟨ht, hh, hn, by omega⟩
      have k := ih (v + 1) _ (M_fill_1 o h1) (by omega) (by omega)
      exact M_fill_congr (M_fill_seq hr h1 o k (fun t' h' n' u' _ p q => by omega)) (fun t' h' n' u' _ => by omega)
theorem M_look_l119_fill (c r t h : Int) (hr : 0 ≤ r ∧ r ≤ 29) (ht : 0 ≤ t ∧ t ≤ 3) (hh : 0 ≤ h ∧ h ≤ 3) : ∀ (fu : Nat) (v : Int) (S : Sta), (∀ j, 0 ≤ S.2 1 j) → 0 ≤ v → 10 - v < (fu : Int) → M_fill c r (fun t' h' n' u' => t' = t ∧ h' = h ∧ v ≤ n') S (M_look_l119 c r t h fu v S) := by
  intro fu
  induction fu with
  | zero => intro v S _ _ h2; exact M_fill_nil _ _ _ _ (fun t' h' n' u' g p => by obtain ⟨a1, a2, a3, a4⟩ := g; omega)
  | succ fu ih =>
    intro v S h1 h0 h2
    rw [M_look_l119_s]
    split
    · next hlt => exact M_fill_nil _ _ _ _ (fun t' h' n' u' g p => by obtain ⟨a1, a2, a3, a4⟩ := g; omega)
    · next hlt =>
      have o : M_fill c r (fun t' h' n' u' => t' = t ∧ h' = h ∧ n' = v) S _ := M_fill_congr (M_look_l130_fill c r t h v hr ht hh (by omega) 62 (-r) S h1 (by omega) (by omega)) (fun t' h' n' u' g => by obtain ⟨a1, a2, a3, a4⟩ := g; omega)
      have k := ih (v + 1) _ (M_fill_1 o h1) (by omega) (by omega)
      exact M_fill_congr (M_fill_seq hr h1 o k (fun t' h' n' u' _ p q => by omega)) (fun t' h' n' u' _ => by omega)
theorem M_look_l110_fill (c r t : Int) (hr : 0 ≤ r ∧ r ≤ 29) (ht : 0 ≤ t ∧ t ≤ 3) : ∀ (fu : Nat) (v : Int) (S : Sta), (∀ j, 0 ≤ S.2 1 j) → 0 ≤ v → 4 - v < (fu : Int) → M_fill c r (fun t' h' n' u' => t' = t ∧ v ≤ h') S (M_look_l110 c r t fu v S) := by
  intro fu
  induction fu with
  | zero => intro v S _ _ h2; exact M_fill_nil _ _ _ _ (fun t' h' n' u' g p => by obtain ⟨a1, a2, a3, a4⟩ := g; omega)
  | succ fu ih =>
    intro v S h1 h0 h2
    rw [M_look_l110_s]
    split
    · next hlt => exact M_fill_nil _ _ _ _ (fun t' h' n' u' g p => by obtain ⟨a1, a2, a3, a4⟩ := g; omega)
    · next hlt =>
      have o : M_fill c r (fun t' h' n' u' => t' = t ∧ h' = v) S _ := M_fill_congr (M_look_l119_fill c r t v hr ht (by omega) 11 0 S h1 (by omega) (by omega)) (fun t' h' n' u' g => by obtain ⟨a1, a2, a3, a4⟩ := g; omega)
      have k := ih (v + 1) _ (M_fill_1 o h1) (by omega) (by omega)
      exact M_fill_congr (M_fill_seq hr h1 o k (fun t' h' n' u' _ p q => by omega)) (fun t' h' n' u' _ => by omega)
theorem M_look_l102_fill (c r : Int) (hr : 0 ≤ r ∧ r ≤ 29)  : ∀ (fu : Nat) (v : Int) (S : Sta), (∀ j, 0 ≤ S.2 1 j) → 0 ≤ v → 4 - v < (fu : Int) → M_fill c r (fun t' h' n' u' => v ≤ t') S (M_look_l102 c r fu v S) := by
  intro fu
  induction fu with
  | zero => intro v S _ _ h2; exact M_fill_nil _ _ _ _ (fun t' h' n' u' g p => by obtain ⟨a1, a2, a3, a4⟩ := g; omega)
  | succ fu ih =>
    intro v S h1 h0 h2
    rw [M_look_l102_s]
    split
    · next hlt => exact M_fill_nil _ _ _ _ (fun t' h' n' u' g p => by obtain ⟨a1, a2, a3, a4⟩ := g; omega)
    · next hlt =>
      have o : M_fill c r (fun t' h' n' u' => t' = v) S _ := M_fill_congr (M_look_l110_fill c r v hr (by omega) 5 0 S h1 (by omega) (by omega)) (fun t' h' n' u' g => by obtain ⟨a1, a2, a3, a4⟩ := g; omega)
      have k := ih (v + 1) _ (M_fill_1 o h1) (by omega) (by omega)
      exact M_fill_congr (M_fill_seq hr h1 o k (fun t' h' n' u' _ p q => by omega)) (fun t' h' n' u' _ => by omega)
def BTfrom (a : Int) (S : Sta) (c : Int) : Prop := ∀ r t h n u : Int, a ≤ r → r < S.1 3 → M_rg r t h n u → S.2 17 (M_spot r t h n u) = M_ls S c r t h n u
theorem M_look_l96_bt (c : Int) : ∀ (fu : Nat) (v : Int) (S : Sta), (∀ j, 0 ≤ S.2 1 j) → S.1 3 ≤ 30 → -1 ≤ v → v ≤ S.1 3 - 1 → v + 1 < (fu : Int) → BTfrom (v + 1) S c → BTab (M_look_l96 c fu v S) c := by
  intro fu
  induction fu with
  | zero => intro v S _ _ h0 _ h2; exact absurd h2 (by omega)
  | succ fu ih =>
    intro v S h1 h30 h0 hv h2 hb
    rw [M_look_l96_s]
    split
    · next hlt => exact fun r t h n u g0 => hb r t h n u (by omega)
    · next hlt =>
      have hr : 0 ≤ v ∧ v ≤ 29 := by omega
      have f := M_look_l102_fill c v hr 5 0 S h1 (by omega) (by omega)
      have s3 : (M_look_l102 c v 5 0 S).1 3 = S.1 3 := congrFun f.1 3
      refine ih (v + -1) _ (M_fill_1 f h1) (by omega) (by omega) (by omega) (by omega) ?_
      intro r t h n u g0 g1 rg
      have hrr : 0 ≤ r ∧ r ≤ 29 := by omega
      rw [M_ls_ag (M_fill_ag hr (by omega) f) h1 c t h n u hrr rg]
      by_cases e : r = v
      · subst e
        exact f.2.2.2 t h n u rg rg.1.1
      · rw [f.2.2.1 _ (fun t' h' n' u' rg' _ => ?_)]
        · exact hb r t h n u (by omega) (by omega) rg
        · rw [M_spot_sp, M_spot_sp]
          obtain ⟨a1, a2, a3, a4⟩ := rg
          obtain ⟨b1, b2, b3, b4⟩ := rg'
          omega
theorem M_look_bt (c H : Int) (S : Sta) (hH : S.1 3 = H) (h30 : 1 ≤ H ∧ H ≤ 30) (h1 : ∀ j, 0 ≤ S.2 1 j) : BTab (M_look_l96 c 31 (H - 1) S) c := M_look_l96_bt c 31 (H - 1) S h1 (by omega) (by omega) (by omega) (by omega) (fun r t h n u g0 g1 => absurd g1 (by omega))
set_option maxRecDepth 100000 in
theorem c_M_look {l : Launch} {K : KK} {N : Int} (q : Nat → Nat) (S : Sta) (c : Int) (hI : InvW N S) (hT : InvT S) (hp2 : 0 ≤ c ∧ c < 16) : CtI l yX3_look cX3_look 10 .int (2, 55) K [.ref (q 0), .int (iI c)] (wM K q S) (M_look S c).1 (wM K q ((M_look S c).2)) := by
  refine ctI_of (by decide) (Nat.le_of_ble_eq_true rfl) rfl ?_
  intro x X hD hR
  have hD : ∀ S9 : Sta, va_D (cx_A x) (wM K q S9) := fun S9 => va_D_same hD rfl
  have hs1 := InvM_s1 hI
  have hs2 := InvM_s2 hI
  have hs3 := InvM_s3 hI
  have hs4 := InvM_s4 hI
  refine gx_iconst (z := 0) X dX3_look_0 rfl ?_
  refine gx_istore_n X dX3_look_1 rfl (by decide) rfl ?_
  have L2 : ∀ (fu : Nat) (v2 : Int) (S2 : Sta), (0 ≤ v2) → (v2 ≤ 4) → (InvW N S2) → (S2.1 = S.1) → (∀ k : Nat, k ∉ [17] → S2.2 k = S.2 k) → (4 - v2) < (fu : Int) → (∀ z2 : Sta, M_look_l2 S c fu v2 S2 = z2 → (InvW N z2) ∧ (z2.1 = S.1) ∧ (∀ k : Nat, k ∉ [17] → z2.2 k = S.2 k) → GG l (rmK (2, 55)) K x (wM K q z2) 89 [(0, .ref (q 0)), (1, .int (iI c))] []) → GG l (rmK (2, 55)) K x (wM K q S2) 2 [(0, .ref (q 0)), (1, .int (iI c)), (2, .int (iI v2))] [] := by
    intro fu
    induction fu with
    | zero => intro v2 S2 hi2_0 hi2_1 hi2_2 hi2_3 hi2_4 hm2 K2; exact absurd hm2 (by omega)
    | succ fu ih =>
      intro v2 S2 hi2_0 hi2_1 hi2_2 hi2_3 hi2_4 hm2 K2
      refine gx_iload_n X dX3_look_2 rfl 2 rfl ?_
      refine gx_iconst (z := 4) X dX3_look_3 rfl ?_
      refine gx_icmp_ge (tgt := 89) X dX3_look_4 (by decide) (by omega) (fun hc4 => ?_) (fun hc4 => ?_)
      · refine gx_sub [0, 1] rfl ?_
        exact K2 S2 ((M_look_l2_s S c fu v2 S2).trans (if_pos hc4)) ⟨hi2_2, (hi2_3 ), (fun k hk => (hi2_4  k hk))⟩
      · refine gx_iconst (z := 0) X dX3_look_7 rfl ?_
        refine gx_istore_n X dX3_look_8 rfl (by decide) rfl ?_
        have L9 : ∀ (fu : Nat) (v3 : Int) (S9 : Sta), (0 ≤ v3) → (v3 ≤ 4) → (InvW N S9) → (S9.1 = S2.1) → (∀ k : Nat, k ∉ [17] → S9.2 k = S2.2 k) → (4 - v3) < (fu : Int) → (∀ z9 : Sta, M_look_l9 S c v2 fu v3 S9 = z9 → (InvW N z9) ∧ (z9.1 = S2.1) ∧ (∀ k : Nat, k ∉ [17] → z9.2 k = S2.2 k) → GG l (rmK (2, 55)) K x (wM K q z9) 83 [(0, .ref (q 0)), (1, .int (iI c)), (2, .int (iI v2))] []) → GG l (rmK (2, 55)) K x (wM K q S9) 9 [(0, .ref (q 0)), (1, .int (iI c)), (2, .int (iI v2)), (3, .int (iI v3))] [] := by
          intro fu
          induction fu with
          | zero => intro v3 S9 hi9_0 hi9_1 hi9_2 hi9_3 hi9_4 hm9 K9; exact absurd hm9 (by omega)
          | succ fu ih =>
            intro v3 S9 hi9_0 hi9_1 hi9_2 hi9_3 hi9_4 hm9 K9
            refine gx_iload_n X dX3_look_9 rfl 3 rfl ?_
            refine gx_iconst (z := 4) X dX3_look_10 rfl ?_
            refine gx_icmp_ge (tgt := 83) X dX3_look_11 (by decide) (by omega) (fun hc11 => ?_) (fun hc11 => ?_)
            · refine gx_sub [0, 1, 2] rfl ?_
              exact K9 S9 ((M_look_l9_s S c v2 fu v3 S9).trans (if_pos hc11)) ⟨hi9_2, (hi9_3 ), (fun k hk => (hi9_4  k hk))⟩
            · refine gx_iconst (z := 0) X dX3_look_14 rfl ?_
              refine gx_istore X dX3_look_15 (by decide) rfl ?_
              have L17 : ∀ (fu : Nat) (v4 : Int) (S17 : Sta), (0 ≤ v4) → (v4 ≤ 10) → (InvW N S17) → (S17.1 = S9.1) → (∀ k : Nat, k ∉ [17] → S17.2 k = S9.2 k) → (10 - v4) < (fu : Int) → (∀ z17 : Sta, M_look_l17 S c v2 v3 fu v4 S17 = z17 → (InvW N z17) ∧ (z17.1 = S9.1) ∧ (∀ k : Nat, k ∉ [17] → z17.2 k = S9.2 k) → GG l (rmK (2, 55)) K x (wM K q z17) 77 [(0, .ref (q 0)), (1, .int (iI c)), (2, .int (iI v2)), (3, .int (iI v3))] []) → GG l (rmK (2, 55)) K x (wM K q S17) 17 [(0, .ref (q 0)), (1, .int (iI c)), (2, .int (iI v2)), (3, .int (iI v3)), (4, .int (iI v4))] [] := by
                intro fu
                induction fu with
                | zero => intro v4 S17 hi17_0 hi17_1 hi17_2 hi17_3 hi17_4 hm17 K17; exact absurd hm17 (by omega)
                | succ fu ih =>
                  intro v4 S17 hi17_0 hi17_1 hi17_2 hi17_3 hi17_4 hm17 K17
                  refine gx_iload X dX3_look_17 4 rfl ?_
                  refine gx_bipush (z := 10) X dX3_look_19 (by decide) ?_
                  refine gx_icmp_ge (tgt := 77) X dX3_look_21 (by decide) (by omega) (fun hc21 => ?_) (fun hc21 => ?_)
                  · refine gx_sub [0, 1, 2, 3] rfl ?_
                    exact K17 S17 ((M_look_l17_s S c v2 v3 fu v4 S17).trans (if_pos hc21)) ⟨hi17_2, (hi17_3 ), (fun k hk => (hi17_4  k hk))⟩
                  · refine gx_bipush (z := (-30)) X dX3_look_24 (by decide) ?_
                    refine gx_istore X dX3_look_26 (by decide) rfl ?_
                    have L28 : ∀ (fu : Nat) (v5 : Int) (S28 : Sta), (-30 ≤ v5) → (v5 ≤ 31) → (InvW N S28) → (S28.1 = S17.1) → (∀ k : Nat, k ∉ [17] → S28.2 k = S17.2 k) → (31 - v5) < (fu : Int) → (∀ z28 : Sta, M_look_l28 S c v2 v3 v4 fu v5 S28 = z28 → (InvW N z28) ∧ (z28.1 = S17.1) ∧ (∀ k : Nat, k ∉ [17] → z28.2 k = S17.2 k) → GG l (rmK (2, 55)) K x (wM K q z28) 71 [(0, .ref (q 0)), (1, .int (iI c)), (2, .int (iI v2)), (3, .int (iI v3)), (4, .int (iI v4))] []) → GG l (rmK (2, 55)) K x (wM K q S28) 28 [(0, .ref (q 0)), (1, .int (iI c)), (2, .int (iI v2)), (3, .int (iI v3)), (4, .int (iI v4)), (5, .int (iI v5))] [] := by
                      intro fu
                      induction fu with
                      | zero => intro v5 S28 hi28_0 hi28_1 hi28_2 hi28_3 hi28_4 hm28 K28; exact absurd hm28 (by omega)
                      | succ fu ih =>
                        intro v5 S28 hi28_0 hi28_1 hi28_2 hi28_3 hi28_4 hm28 K28
                        refine gx_iload X dX3_look_28 5 rfl ?_
                        refine gx_bipush (z := 30) X dX3_look_30 (by decide) ?_
                        refine gx_icmp_gt (tgt := 71) X dX3_look_32 (by decide) (by omega) (fun hc32 => ?_) (fun hc32 => ?_)
                        · refine gx_sub [0, 1, 2, 3, 4] rfl ?_
                          exact K28 S28 ((M_look_l28_s S c v2 v3 v4 fu v5 S28).trans (if_pos hc32)) ⟨hi28_2, (hi28_3 ), (fun k hk => (hi28_4  k hk))⟩
                        · refine gx_aload_n X dX3_look_35 rfl 0 rfl ?_
                          refine gM_r17 X dX3_look_36 ?_
                          refine gx_aload_n X dX3_look_39 rfl 0 rfl ?_
                          refine gM_g3 (v := (S.1 3)) X ((congrFun (hi28_3 ) 3).trans ((congrFun (hi17_3 ) 3).trans ((congrFun (hi9_3 ) 3).trans (congrFun (hi2_3 ) 3)))) dX3_look_40 ?_
                          refine gx_iload_n X dX3_look_43 rfl 2 rfl ?_
                          refine gx_iload_n X dX3_look_44 rfl 3 rfl ?_
                          refine gx_iload X dX3_look_45 4 rfl ?_
                          refine gx_iload X dX3_look_47 5 rfl ?_
                          refine gx_callSI (As := [.int (iI (S.1 3)), .int (iI v2), .int (iI v3), .int (iI v4), .int (iI v5)]) (rest := [.ref (q 18)]) X (hD _) lk_M_157 (c_M_spot (S.1 3) v2 v3 v4 v5 ) jn_nil rfl ⟨by decide, by decide⟩ (Nat.le_of_ble_eq_true rfl) dX3_look_49 ?_
                          have hq49_0 := M_spot_sp (S.1 3) v2 v3 v4 v5
                          refine gx_aload_n X dX3_look_52 rfl 0 rfl ?_
                          refine gM_r4 X dX3_look_53 ?_
                          refine gx_iload_n X dX3_look_56 rfl 1 rfl ?_
                          refine gM_l4 (v := (S.2 4 c)) X (by omega) ((congrFun (hi28_4  4 (by decide)) c).trans ((congrFun (hi17_4  4 (by decide)) c).trans ((congrFun (hi9_4  4 (by decide)) c).trans (congrFun (hi2_4  4 (by decide)) c)))) dX3_look_57 ?_
                          have hr57 := InvM_a4 hT c
                          refine gx_iload X dX3_look_58 5 rfl ?_
                          refine gx_iadd X dX3_look_60 ?_
                          refine gx_callSI (As := [.int (iI ((S.2 4 c) + v5))]) (rest := [.int (iI (M_spot (S.1 3) v2 v3 v4 v5)), .ref (q 18)]) X (hD _) lk_M_131 (c_M_size ((S.2 4 c) + v5) (by omega)) jn_nil rfl ⟨by decide, by decide⟩ (Nat.le_of_ble_eq_true rfl) dX3_look_61 ?_
                          have hq61_0 := M_size_sp ((S.2 4 c) + v5)
                          refine gM_s17 X (hD _) (by omega) dX3_look_64 ?_
                          refine gx_iinc X dX3_look_65 5 rfl (by decide) rfl ?_
                          refine gx_goto (tgt := 28) X dX3_look_68 (by decide) ?_
                          refine gx_sub [1, 2, 3, 4, 5, 0] rfl ?_
                          exact ih (v5 + 1) (mA S28 17 (M_spot (S.1 3) v2 v3 v4 v5) (M_size ((S.2 4 c) + v5))) (by omega) (by omega) (InvW.mA hi28_2 (show 0 ≤ _ ∧ _ ≤ 1000000 from by omega)) (hi28_3 ) (fun k hk => (mA_nin hk (by decide)).trans ((hi28_4  k hk))) (by omega) (fun z e hx => K28 z ((M_look_l28_s S c v2 v3 v4 fu v5 S28).trans ((if_neg hc32).trans e)) hx)
                    refine gx_sub [1, 2, 3, 4, 5, 0] rfl ?_
                    refine L28 (62) (-30) S17 (by omega) (by omega) hi17_2 rfl (fun _ _ => rfl) (by omega) (fun z28 e28 hx28 => ?_)
                    refine gx_iinc X dX3_look_71 4 rfl (by decide) rfl ?_
                    refine gx_goto (tgt := 17) X dX3_look_74 (by decide) ?_
                    refine gx_sub [1, 2, 3, 4, 0] rfl ?_
                    subst e28
                    exact ih _ _ (by omega) (by omega) hx28.1 (((hx28.2.1 )).trans (hi17_3 )) (fun k hk => ((hx28.2.2  k hk)).trans ((fun k hk => (hi17_4  k hk)) k hk)) (by omega) (fun z e hx => K17 z ((M_look_l17_s S c v2 v3 fu v4 S17).trans ((if_neg hc21).trans e)) hx)
              refine gx_sub [1, 2, 3, 4, 0] rfl ?_
              refine L17 (11) 0 S9 (by omega) (by omega) hi9_2 rfl (fun _ _ => rfl) (by omega) (fun z17 e17 hx17 => ?_)
              refine gx_iinc X dX3_look_77 3 rfl (by decide) rfl ?_
              refine gx_goto (tgt := 9) X dX3_look_80 (by decide) ?_
              refine gx_sub [1, 2, 3, 0] rfl ?_
              subst e17
              exact ih _ _ (by omega) (by omega) hx17.1 (((hx17.2.1 )).trans (hi9_3 )) (fun k hk => ((hx17.2.2  k hk)).trans ((fun k hk => (hi9_4  k hk)) k hk)) (by omega) (fun z e hx => K9 z ((M_look_l9_s S c v2 fu v3 S9).trans ((if_neg hc11).trans e)) hx)
        refine gx_sub [1, 2, 3, 0] rfl ?_
        refine L9 (5) 0 S2 (by omega) (by omega) hi2_2 rfl (fun _ _ => rfl) (by omega) (fun z9 e9 hx9 => ?_)
        refine gx_iinc X dX3_look_83 2 rfl (by decide) rfl ?_
        refine gx_goto (tgt := 2) X dX3_look_86 (by decide) ?_
        refine gx_sub [1, 2, 0] rfl ?_
        subst e9
        exact ih _ _ (by omega) (by omega) hx9.1 (((hx9.2.1 )).trans (hi2_3 )) (fun k hk => ((hx9.2.2  k hk)).trans ((fun k hk => (hi2_4  k hk)) k hk)) (by omega) (fun z e hx => K2 z ((M_look_l2_s S c fu v2 S2).trans ((if_neg hc4).trans e)) hx)
  refine gx_sub [1, 2, 0] rfl ?_
  refine L2 (5) 0 S (by omega) (by omega) hI rfl (fun _ _ => rfl) (by omega) (fun z2 e2 hx2 => ?_)
  refine gx_aload_n X dX3_look_89 rfl 0 rfl ?_
  refine gM_g3 (v := (S.1 3)) X (congrFun (hx2.2.1 ) 3) dX3_look_90 ?_
  refine gx_iconst (z := 1) X dX3_look_93 rfl ?_
  refine gx_isub X dX3_look_94 ?_
  refine gx_istore_n X dX3_look_95 rfl (by decide) rfl ?_
  have L96 : ∀ (fu : Nat) (v2 : Int) (S96 : Sta), (-1 ≤ v2) → (v2 ≤ (S.1 3) - 1) → (InvW N S96) → (S96.1 = z2.1) → (∀ k : Nat, k ∉ [17] → S96.2 k = z2.2 k) → (v2 + 1) < (fu : Int) → (∀ z96 : Sta, M_look_l96 c fu v2 S96 = z96 → (InvW N z96) ∧ (z96.1 = z2.1) ∧ (∀ k : Nat, k ∉ [17] → z96.2 k = z2.2 k) → GG l (rmK (2, 55)) K x (wM K q z96) 254 [(0, .ref (q 0)), (1, .int (iI c))] []) → GG l (rmK (2, 55)) K x (wM K q S96) 96 [(0, .ref (q 0)), (1, .int (iI c)), (2, .int (iI v2))] [] := by
    intro fu
    induction fu with
    | zero => intro v2 S96 hi96_0 hi96_1 hi96_2 hi96_3 hi96_4 hm96 K96; exact absurd hm96 (by omega)
    | succ fu ih =>
      intro v2 S96 hi96_0 hi96_1 hi96_2 hi96_3 hi96_4 hm96 K96
      refine gx_iload_n X dX3_look_96 rfl 2 rfl ?_
      refine gx_if_lt (tgt := 254) X dX3_look_97 (by decide) (by omega) (fun hc97 => ?_) (fun hc97 => ?_)
      · refine gx_sub [0, 1] rfl ?_
        exact K96 S96 ((M_look_l96_s c fu v2 S96).trans (if_pos hc97)) ⟨hi96_2, (hi96_3 ), (fun k hk => (hi96_4  k hk))⟩
      · refine gx_iconst (z := 0) X dX3_look_100 rfl ?_
        refine gx_istore_n X dX3_look_101 rfl (by decide) rfl ?_
        have L102 : ∀ (fu : Nat) (v3 : Int) (S102 : Sta), (0 ≤ v3) → (v3 ≤ 4) → (InvW N S102) → (S102.1 = S96.1) → (∀ k : Nat, k ∉ [17] → S102.2 k = S96.2 k) → (4 - v3) < (fu : Int) → (∀ z102 : Sta, M_look_l102 c v2 fu v3 S102 = z102 → (InvW N z102) ∧ (z102.1 = S96.1) ∧ (∀ k : Nat, k ∉ [17] → z102.2 k = S96.2 k) → GG l (rmK (2, 55)) K x (wM K q z102) 248 [(0, .ref (q 0)), (1, .int (iI c)), (2, .int (iI v2))] []) → GG l (rmK (2, 55)) K x (wM K q S102) 102 [(0, .ref (q 0)), (1, .int (iI c)), (2, .int (iI v2)), (3, .int (iI v3))] [] := by
          intro fu
          induction fu with
          | zero => intro v3 S102 hi102_0 hi102_1 hi102_2 hi102_3 hi102_4 hm102 K102; exact absurd hm102 (by omega)
          | succ fu ih =>
            intro v3 S102 hi102_0 hi102_1 hi102_2 hi102_3 hi102_4 hm102 K102
            refine gx_iload_n X dX3_look_102 rfl 3 rfl ?_
            refine gx_iconst (z := 4) X dX3_look_103 rfl ?_
            refine gx_icmp_ge (tgt := 248) X dX3_look_104 (by decide) (by omega) (fun hc104 => ?_) (fun hc104 => ?_)
            · refine gx_sub [0, 1, 2] rfl ?_
              exact K102 S102 ((M_look_l102_s c v2 fu v3 S102).trans (if_pos hc104)) ⟨hi102_2, (hi102_3 ), (fun k hk => (hi102_4  k hk))⟩
            · refine gx_iconst (z := 0) X dX3_look_107 rfl ?_
              refine gx_istore X dX3_look_108 (by decide) rfl ?_
              have L110 : ∀ (fu : Nat) (v4 : Int) (S110 : Sta), (0 ≤ v4) → (v4 ≤ 4) → (InvW N S110) → (S110.1 = S102.1) → (∀ k : Nat, k ∉ [17] → S110.2 k = S102.2 k) → (4 - v4) < (fu : Int) → (∀ z110 : Sta, M_look_l110 c v2 v3 fu v4 S110 = z110 → (InvW N z110) ∧ (z110.1 = S102.1) ∧ (∀ k : Nat, k ∉ [17] → z110.2 k = S102.2 k) → GG l (rmK (2, 55)) K x (wM K q z110) 242 [(0, .ref (q 0)), (1, .int (iI c)), (2, .int (iI v2)), (3, .int (iI v3))] []) → GG l (rmK (2, 55)) K x (wM K q S110) 110 [(0, .ref (q 0)), (1, .int (iI c)), (2, .int (iI v2)), (3, .int (iI v3)), (4, .int (iI v4))] [] := by
                intro fu
                induction fu with
                | zero => intro v4 S110 hi110_0 hi110_1 hi110_2 hi110_3 hi110_4 hm110 K110; exact absurd hm110 (by omega)
                | succ fu ih =>
                  intro v4 S110 hi110_0 hi110_1 hi110_2 hi110_3 hi110_4 hm110 K110
                  refine gx_iload X dX3_look_110 4 rfl ?_
                  refine gx_iconst (z := 4) X dX3_look_112 rfl ?_
                  refine gx_icmp_ge (tgt := 242) X dX3_look_113 (by decide) (by omega) (fun hc113 => ?_) (fun hc113 => ?_)
                  · refine gx_sub [0, 1, 2, 3] rfl ?_
                    exact K110 S110 ((M_look_l110_s c v2 v3 fu v4 S110).trans (if_pos hc113)) ⟨hi110_2, (hi110_3 ), (fun k hk => (hi110_4  k hk))⟩
                  · refine gx_iconst (z := 0) X dX3_look_116 rfl ?_
                    refine gx_istore X dX3_look_117 (by decide) rfl ?_
                    have L119 : ∀ (fu : Nat) (v5 : Int) (S119 : Sta), (0 ≤ v5) → (v5 ≤ 10) → (InvW N S119) → (S119.1 = S110.1) → (∀ k : Nat, k ∉ [17] → S119.2 k = S110.2 k) → (10 - v5) < (fu : Int) → (∀ z119 : Sta, M_look_l119 c v2 v3 v4 fu v5 S119 = z119 → (InvW N z119) ∧ (z119.1 = S110.1) ∧ (∀ k : Nat, k ∉ [17] → z119.2 k = S110.2 k) → GG l (rmK (2, 55)) K x (wM K q z119) 236 [(0, .ref (q 0)), (1, .int (iI c)), (2, .int (iI v2)), (3, .int (iI v3)), (4, .int (iI v4))] []) → GG l (rmK (2, 55)) K x (wM K q S119) 119 [(0, .ref (q 0)), (1, .int (iI c)), (2, .int (iI v2)), (3, .int (iI v3)), (4, .int (iI v4)), (5, .int (iI v5))] [] := by
                      intro fu
                      induction fu with
                      | zero => intro v5 S119 hi119_0 hi119_1 hi119_2 hi119_3 hi119_4 hm119 K119; exact absurd hm119 (by omega)
                      | succ fu ih =>
                        intro v5 S119 hi119_0 hi119_1 hi119_2 hi119_3 hi119_4 hm119 K119
                        refine gx_iload X dX3_look_119 5 rfl ?_
                        refine gx_bipush (z := 10) X dX3_look_121 (by decide) ?_
                        refine gx_icmp_ge (tgt := 236) X dX3_look_123 (by decide) (by omega) (fun hc123 => ?_) (fun hc123 => ?_)
                        · refine gx_sub [0, 1, 2, 3, 4] rfl ?_
                          exact K119 S119 ((M_look_l119_s c v2 v3 v4 fu v5 S119).trans (if_pos hc123)) ⟨hi119_2, (hi119_3 ), (fun k hk => (hi119_4  k hk))⟩
                        · refine gx_iload_n X dX3_look_126 rfl 2 rfl ?_
                          refine gx_ineg X dX3_look_127 ?_
                          refine gx_istore X dX3_look_128 (by decide) rfl ?_
                          have L130 : ∀ (fu : Nat) (v6 : Int) (S130 : Sta), (-v2 ≤ v6) → (v6 ≤ v2 + 1) → (InvW N S130) → (S130.1 = S119.1) → (∀ k : Nat, k ∉ [17] → S130.2 k = S119.2 k) → (v2 + 1 - v6) < (fu : Int) → (∀ z130 : Sta, M_look_l130 c v2 v3 v4 v5 fu v6 S130 = z130 → (InvW N z130) ∧ (z130.1 = S119.1) ∧ (∀ k : Nat, k ∉ [17] → z130.2 k = S119.2 k) → GG l (rmK (2, 55)) K x (wM K q z130) 230 [(0, .ref (q 0)), (1, .int (iI c)), (2, .int (iI v2)), (3, .int (iI v3)), (4, .int (iI v4)), (5, .int (iI v5))] []) → GG l (rmK (2, 55)) K x (wM K q S130) 130 [(0, .ref (q 0)), (1, .int (iI c)), (2, .int (iI v2)), (3, .int (iI v3)), (4, .int (iI v4)), (5, .int (iI v5)), (6, .int (iI v6))] [] := by
                            intro fu
                            induction fu with
                            | zero => intro v6 S130 hi130_0 hi130_1 hi130_2 hi130_3 hi130_4 hm130 K130; exact absurd hm130 (by omega)
                            | succ fu ih =>
                              intro v6 S130 hi130_0 hi130_1 hi130_2 hi130_3 hi130_4 hm130 K130
                              refine gx_iload X dX3_look_130 6 rfl ?_
                              refine gx_iload_n X dX3_look_132 rfl 2 rfl ?_
                              refine gx_icmp_gt (tgt := 230) X dX3_look_133 (by decide) (by omega) (fun hc133 => ?_) (fun hc133 => ?_)
                              · refine gx_sub [0, 1, 2, 3, 4, 5] rfl ?_
                                exact K130 S130 ((M_look_l130_s c v2 v3 v4 v5 fu v6 S130).trans (if_pos hc133)) ⟨hi130_2, (hi130_3 ), (fun k hk => (hi130_4  k hk))⟩
                              · refine gx_ldc (z := 1000000) X t_M_161 dX3_look_136 (by decide) ?_
                                refine gx_istore X dX3_look_138 (by decide) rfl ?_
                                refine gx_iconst (z := 0) X dX3_look_140 rfl ?_
                                refine gx_istore X dX3_look_141 (by decide) rfl ?_
                                have L143 : ∀ (fu : Nat) (v7 : Int) (v8 : Int), (0 ≤ v8) → (v8 ≤ 3) → (0 ≤ v7 ∧ v7 ≤ 1000000) → (3 - v8) < (fu : Int) → (∀ z143 : Int, M_look_l143 c v2 v3 v4 v5 v6 S130 fu v7 v8 = z143 → (0 ≤ z143 ∧ z143 ≤ 1000000) → GG l (rmK (2, 55)) K x (wM K q S130) 206 [(0, .ref (q 0)), (1, .int (iI c)), (2, .int (iI v2)), (3, .int (iI v3)), (4, .int (iI v4)), (5, .int (iI v5)), (6, .int (iI v6)), (7, .int (iI z143))] []) → GG l (rmK (2, 55)) K x (wM K q S130) 143 [(0, .ref (q 0)), (1, .int (iI c)), (2, .int (iI v2)), (3, .int (iI v3)), (4, .int (iI v4)), (5, .int (iI v5)), (6, .int (iI v6)), (7, .int (iI v7)), (8, .int (iI v8))] [] := by
                                  intro fu
                                  induction fu with
                                  | zero => intro v7 v8 hi143_0 hi143_1 hi143_2 hm143 K143; exact absurd hm143 (by omega)
                                  | succ fu ih =>
                                    intro v7 v8 hi143_0 hi143_1 hi143_2 hm143 K143
                                    refine gx_iload X dX3_look_143 8 rfl ?_
                                    refine gx_iconst (z := 3) X dX3_look_145 rfl ?_
                                    refine gx_icmp_ge (tgt := 206) X dX3_look_146 (by decide) (by omega) (fun hc146 => ?_) (fun hc146 => ?_)
                                    · refine gx_sub [0, 1, 2, 3, 4, 5, 6, 7] rfl ?_
                                      exact K143 v7 ((M_look_l143_s c v2 v3 v4 v5 v6 S130 fu v7 v8).trans (if_pos hc146)) (by omega)
                                    · refine gx_iload X dX3_look_149 5 rfl ?_
                                      refine gx_bipush (z := 9) X dX3_look_151 (by decide) ?_
                                      have J182 : ∀ (m182 : Int), m182 = (if v5 = 9 then if v8 = 2 then 1000000 else (M_by S130 c v2 v3 v4 v5 v6 v8) else (M_by S130 c v2 v3 v4 v5 v6 v8)) → (0 ≤ m182 ∧ m182 ≤ 1000999) → GG l (rmK (2, 55)) K x (wM K q S130) 182 [(0, .ref (q 0)), (1, .int (iI c)), (2, .int (iI v2)), (3, .int (iI v3)), (4, .int (iI v4)), (5, .int (iI v5)), (6, .int (iI v6)), (7, .int (iI v7)), (8, .int (iI v8))] [.int (iI m182)] := by
                                        intro m182 e_m182 hf182_0
                                        refine gx_istore X dX3_look_182 (by decide) rfl ?_
                                        refine gx_iload X dX3_look_184 0 rfl ?_
                                        refine gx_iload X dX3_look_186 8 rfl ?_
                                        have J198 : ∀ (m198 : Int), m198 = (if v7 ≤ m182 then v7 else m182) → GG l (rmK (2, 55)) K x (wM K q S130) 198 [(0, .ref (q 0)), (1, .int (iI c)), (2, .int (iI v2)), (3, .int (iI v3)), (4, .int (iI v4)), (5, .int (iI v5)), (6, .int (iI v6)), (7, .int (iI v7)), (8, .int (iI v8)), (9, .int (iI m182))] [.int (iI m198)] := by
                                          intro m198 e_m198
                                          refine gx_istore X dX3_look_198 (by decide) rfl ?_
                                          refine gx_iinc X dX3_look_200 8 rfl (by decide) rfl ?_
                                          refine gx_goto (tgt := 143) X dX3_look_203 (by decide) ?_
                                          refine gx_sub [2, 3, 4, 5, 6, 7, 8, 1, 0] rfl ?_
                                          subst e_m182
                                          subst e_m198
                                          exact ih _ _ (by omega) (by omega) (by omega) (by omega) (fun z e hx => K143 z ((M_look_l143_s c v2 v3 v4 v5 v6 S130 fu v7 v8).trans ((if_neg hc146).trans e)) hx)
                                        refine gx_icmp_ge (tgt := 196) X dX3_look_188 (by decide) (by omega) (fun hc188 => ?_) (fun hc188 => ?_)
                                        · refine gx_iload X dX3_look_196 8 rfl ?_
                                          refine gx_sub [1, 2, 3, 4, 5, 6, 7, 8, 9, 0] rfl ?_
                                          exact J198 v7 ((if_pos hc188).symm) 
                                        · refine gx_iload X dX3_look_191 0 rfl ?_
                                          refine gx_goto (tgt := 198) X dX3_look_193 (by decide) ?_
                                          refine gx_sub [1, 2, 3, 4, 5, 6, 7, 8, 9, 0] rfl ?_
                                          exact J198 m182 ((if_neg hc188).symm) 
                                      refine gx_icmp_ne (tgt := 167) X dX3_look_153 (by decide) (by omega) (fun hc153 => ?_) (fun hc153 => ?_)
                                      · refine gx_aload_n X dX3_look_167 rfl 0 rfl ?_
                                        refine gx_iload_n X dX3_look_168 rfl 1 rfl ?_
                                        refine gx_iload_n X dX3_look_169 rfl 2 rfl ?_
                                        refine gx_iload_n X dX3_look_170 rfl 3 rfl ?_
                                        refine gx_iload X dX3_look_171 4 rfl ?_
                                        refine gx_iload X dX3_look_173 5 rfl ?_
                                        refine gx_iload X dX3_look_175 6 rfl ?_
                                        refine gx_iload X dX3_look_177 8 rfl ?_
                                        refine gx_callVI (As := [.int (iI c), .int (iI v2), .int (iI v3), .int (iI v4), .int (iI v5), .int (iI v6), .int (iI v8)]) (rest := []) X (hD _) lk_M_168 (ci := 3) rfl rfl 0 rfl (c_M_by q S130 c v2 v3 v4 v5 v6 v8 hi130_2 (by omega) (by omega) (by omega) (by omega) (by omega) (by omega) (by omega)) jn_all rfl ⟨by decide, by decide⟩ (Nat.le_of_ble_eq_true rfl) dX3_look_179 ?_
                                        have hp179_0 := M_by_rg S130 c v2 v3 v4 v5 v6 v8 hi130_2 (by omega) (by omega) (by omega) (by omega) (by omega) (by omega) (by omega)
                                        refine gx_sub [0, 1, 2, 3, 4, 5, 6, 7, 8] rfl ?_
                                        exact J182 (M_by S130 c v2 v3 v4 v5 v6 v8) ((if_neg hc153).symm) (by omega)
                                      · refine gx_iload X dX3_look_156 8 rfl ?_
                                        refine gx_iconst (z := 2) X dX3_look_158 rfl ?_
                                        refine gx_icmp_ne (tgt := 167) X dX3_look_159 (by decide) (by omega) (fun hc159 => ?_) (fun hc159 => ?_)
                                        · refine gx_aload_n X dX3_look_167 rfl 0 rfl ?_
                                          refine gx_iload_n X dX3_look_168 rfl 1 rfl ?_
                                          refine gx_iload_n X dX3_look_169 rfl 2 rfl ?_
                                          refine gx_iload_n X dX3_look_170 rfl 3 rfl ?_
                                          refine gx_iload X dX3_look_171 4 rfl ?_
                                          refine gx_iload X dX3_look_173 5 rfl ?_
                                          refine gx_iload X dX3_look_175 6 rfl ?_
                                          refine gx_iload X dX3_look_177 8 rfl ?_
                                          refine gx_callVI (As := [.int (iI c), .int (iI v2), .int (iI v3), .int (iI v4), .int (iI v5), .int (iI v6), .int (iI v8)]) (rest := []) X (hD _) lk_M_168 (ci := 3) rfl rfl 0 rfl (c_M_by q S130 c v2 v3 v4 v5 v6 v8 hi130_2 (by omega) (by omega) (by omega) (by omega) (by omega) (by omega) (by omega)) jn_all rfl ⟨by decide, by decide⟩ (Nat.le_of_ble_eq_true rfl) dX3_look_179 ?_
                                          have hp179_0 := M_by_rg S130 c v2 v3 v4 v5 v6 v8 hi130_2 (by omega) (by omega) (by omega) (by omega) (by omega) (by omega) (by omega)
                                          refine gx_sub [0, 1, 2, 3, 4, 5, 6, 7, 8] rfl ?_
                                          exact J182 (M_by S130 c v2 v3 v4 v5 v6 v8) (((if_pos hc153).trans (if_neg hc159)).symm) (by omega)
                                        · refine gx_ldc (z := 1000000) X t_M_161 dX3_look_162 (by decide) ?_
                                          refine gx_goto (tgt := 182) X dX3_look_164 (by decide) ?_
                                          refine gx_sub [0, 1, 2, 3, 4, 5, 6, 7, 8] rfl ?_
                                          exact J182 1000000 (((if_pos hc153).trans (if_pos hc159)).symm) (by omega)
                                refine gx_sub [2, 3, 4, 5, 6, 7, 8, 1, 0] rfl ?_
                                refine L143 (4) 1000000 0 (by omega) (by omega) (by omega) (by omega) (fun z143 e143 hx143 => ?_)
                                refine gx_aload_n X dX3_look_206 rfl 0 rfl ?_
                                refine gM_r17 X dX3_look_207 ?_
                                refine gx_iload_n X dX3_look_210 rfl 2 rfl ?_
                                refine gx_iload_n X dX3_look_211 rfl 3 rfl ?_
                                refine gx_iload X dX3_look_212 4 rfl ?_
                                refine gx_iload X dX3_look_214 5 rfl ?_
                                refine gx_iload X dX3_look_216 6 rfl ?_
                                refine gx_callSI (As := [.int (iI v2), .int (iI v3), .int (iI v4), .int (iI v5), .int (iI v6)]) (rest := [.ref (q 18)]) X (hD _) lk_M_157 (c_M_spot v2 v3 v4 v5 v6 ) jn_nil rfl ⟨by decide, by decide⟩ (Nat.le_of_ble_eq_true rfl) dX3_look_218 ?_
                                have hq218_0 := M_spot_sp v2 v3 v4 v5 v6
                                refine gx_iload X dX3_look_221 7 rfl ?_
                                refine gM_s17 X (hD _) (by omega) dX3_look_223 ?_
                                refine gx_iinc X dX3_look_224 6 rfl (by decide) rfl ?_
                                refine gx_goto (tgt := 130) X dX3_look_227 (by decide) ?_
                                refine gx_sub [1, 2, 3, 4, 5, 6, 0] rfl ?_
                                subst e143
                                exact ih _ _ (by omega) (by omega) (InvW.mA hi130_2 (show 0 ≤ _ ∧ _ ≤ 1000000 from hx143)) (hi130_3 ) (fun k hk => (mA_nin hk (by decide)).trans ((hi130_4  k hk))) (by omega) (fun z e hx => K130 z ((M_look_l130_s c v2 v3 v4 v5 fu v6 S130).trans ((if_neg hc133).trans e)) hx)
                          refine gx_sub [1, 2, 3, 4, 5, 6, 0] rfl ?_
                          refine L130 (62) (-v2) S119 (by omega) (by omega) hi119_2 rfl (fun _ _ => rfl) (by omega) (fun z130 e130 hx130 => ?_)
                          refine gx_iinc X dX3_look_230 5 rfl (by decide) rfl ?_
                          refine gx_goto (tgt := 119) X dX3_look_233 (by decide) ?_
                          refine gx_sub [1, 2, 3, 4, 5, 0] rfl ?_
                          subst e130
                          exact ih _ _ (by omega) (by omega) hx130.1 (((hx130.2.1 )).trans (hi119_3 )) (fun k hk => ((hx130.2.2  k hk)).trans ((fun k hk => (hi119_4  k hk)) k hk)) (by omega) (fun z e hx => K119 z ((M_look_l119_s c v2 v3 v4 fu v5 S119).trans ((if_neg hc123).trans e)) hx)
                    refine gx_sub [1, 2, 3, 4, 5, 0] rfl ?_
                    refine L119 (11) 0 S110 (by omega) (by omega) hi110_2 rfl (fun _ _ => rfl) (by omega) (fun z119 e119 hx119 => ?_)
                    refine gx_iinc X dX3_look_236 4 rfl (by decide) rfl ?_
                    refine gx_goto (tgt := 110) X dX3_look_239 (by decide) ?_
                    refine gx_sub [1, 2, 3, 4, 0] rfl ?_
                    subst e119
                    exact ih _ _ (by omega) (by omega) hx119.1 (((hx119.2.1 )).trans (hi110_3 )) (fun k hk => ((hx119.2.2  k hk)).trans ((fun k hk => (hi110_4  k hk)) k hk)) (by omega) (fun z e hx => K110 z ((M_look_l110_s c v2 v3 fu v4 S110).trans ((if_neg hc113).trans e)) hx)
              refine gx_sub [1, 2, 3, 4, 0] rfl ?_
              refine L110 (5) 0 S102 (by omega) (by omega) hi102_2 rfl (fun _ _ => rfl) (by omega) (fun z110 e110 hx110 => ?_)
              refine gx_iinc X dX3_look_242 3 rfl (by decide) rfl ?_
              refine gx_goto (tgt := 102) X dX3_look_245 (by decide) ?_
              refine gx_sub [1, 2, 3, 0] rfl ?_
              subst e110
              exact ih _ _ (by omega) (by omega) hx110.1 (((hx110.2.1 )).trans (hi102_3 )) (fun k hk => ((hx110.2.2  k hk)).trans ((fun k hk => (hi102_4  k hk)) k hk)) (by omega) (fun z e hx => K102 z ((M_look_l102_s c v2 fu v3 S102).trans ((if_neg hc104).trans e)) hx)
        refine gx_sub [1, 2, 3, 0] rfl ?_
        refine L102 (5) 0 S96 (by omega) (by omega) hi96_2 rfl (fun _ _ => rfl) (by omega) (fun z102 e102 hx102 => ?_)
        refine gx_iinc X dX3_look_248 2 rfl (by decide) rfl ?_
        refine gx_goto (tgt := 96) X dX3_look_251 (by decide) ?_
        refine gx_sub [1, 2, 0] rfl ?_
        subst e102
        exact ih _ _ (by omega) (by omega) hx102.1 (((hx102.2.1 )).trans (hi96_3 )) (fun k hk => ((hx102.2.2  k hk)).trans ((fun k hk => (hi96_4  k hk)) k hk)) (by omega) (fun z e hx => K96 z ((M_look_l96_s c fu v2 S96).trans ((if_neg hc97).trans e)) hx)
  refine gx_sub [1, 2, 0] rfl ?_
  refine L96 (31) ((S.1 3) - 1) z2 (by omega) (by omega) hx2.1 rfl (fun _ _ => rfl) (by omega) (fun z96 e96 hx96 => ?_)
  have hBT : BTab z96 c := by
    rw [← e96]
    exact M_look_bt c (S.1 3) z2 (congrFun hx2.2.1 3) (by omega) (fun j => (InvM_a1 hx2.1 j).1)
  refine gx_aload_n X dX3_look_254 rfl 0 rfl ?_
  refine gM_g2 (v := (S.1 2)) X ((congrFun (hx96.2.1 ) 2).trans (congrFun (hx2.2.1 ) 2)) dX3_look_255 ?_
  have J288 : ∀ (m288 : Int), m288 = (if (S.1 2) = 0 then (S.2 1 (4 * c)) else (S.2 13 ((16 * ((S.1 2) - 1)) + c))) → (0 ≤ m288 ∧ m288 ≤ 3) → GG l (rmK (2, 55)) K x (wM K q z96) 288 [(0, .ref (q 0)), (1, .int (iI c))] [.int (iI m288)] := by
    intro m288 e_m288 hf288_0
    refine gx_istore_n X dX3_look_288 rfl (by decide) rfl ?_
    refine gx_aload_n X dX3_look_289 rfl 1 rfl ?_
    refine gM_r5 X dX3_look_290 ?_
    refine gx_iload_n X dX3_look_293 rfl 2 rfl ?_
    refine gM_l5 (v := (S.2 5 c)) X (by omega) ((congrFun (hx96.2.2  5 (by decide)) c).trans (congrFun (hx2.2.2  5 (by decide)) c)) dX3_look_294 ?_
    have hr294 := InvM_a5 hT c
    refine gx_bipush (z := 9) X dX3_look_295 (by decide) ?_
    have J311 : ∀ (m311 : Int), m311 = (if (S.2 5 c) ≤ 9 then (S.2 5 c) else 9) → (0 ≤ m311 ∧ m311 ≤ 9) → GG l (rmK (2, 55)) K x (wM K q z96) 311 [(0, .ref (q 0)), (1, .int (iI c)), (2, .int (iI m288))] [.int (iI m311)] := by
      intro m311 e_m311 hf311_0
      refine gx_istore_n X dX3_look_311 rfl (by decide) rfl ?_
      refine gx_iconst (z := 0) X dX3_look_312 rfl ?_
      refine gx_istore X dX3_look_313 (by decide) rfl ?_
      refine gx_iconst (z := 0) X dX3_look_315 rfl ?_
      refine gx_istore X dX3_look_316 (by decide) rfl ?_
      refine gx_aload_n X dX3_look_318 rfl 3 rfl ?_
      refine gM_r17 X dX3_look_319 ?_
      refine gx_iconst (z := 0) X dX3_look_322 rfl ?_
      refine gx_iconst (z := 0) X dX3_look_323 rfl ?_
      refine gx_iload_n X dX3_look_324 rfl 5 rfl ?_
      refine gx_iload_n X dX3_look_325 rfl 2 rfl ?_
      refine gx_iconst (z := 0) X dX3_look_326 rfl ?_
      refine gx_callSI (As := [.int (iI 0), .int (iI 0), .int (iI m288), .int (iI m311), .int (iI 0)]) (rest := [.ref (q 18)]) X (hD _) lk_M_157 (c_M_spot 0 0 m288 m311 0 ) jn_nil rfl ⟨by decide, by decide⟩ (Nat.le_of_ble_eq_true rfl) dX3_look_327 ?_
      have hq327_0 := M_spot_sp 0 0 m288 m311 0
      refine gM_l17 (v := (z96.2 17 (M_spot 0 0 m288 m311 0))) X (by omega) rfl dX3_look_330 ?_
      have hr330 := InvM_a17 hx96.1 (M_spot 0 0 m288 m311 0)
      refine gx_istore X dX3_look_331 (by decide) rfl ?_
      refine gx_iconst (z := 0) X dX3_look_333 rfl ?_
      refine gx_istore X dX3_look_334 (by decide) rfl ?_
      have L336 : ∀ (fu : Nat) (v2 : Int) (v3 : Int) (v4 : Int) (v5 : Int) (v7 : Int) (S336 : Sta), (0 ≤ v7 ∧ v7 ≤ (S.1 3)) → (0 ≤ v2 ∧ v2 ≤ 3) → (0 ≤ v3 ∧ v3 ≤ 9) → (0 ≤ v4 ∧ v4 ≤ 3) → (-v7 ≤ v5 ∧ v5 ≤ v7) → (InvW N S336) → (BTab S336 c) → ((z96.2 17 (M_spot 0 0 m288 m311 0)) < 1000000 → z96.2 17 (M_spot v7 v4 v2 v3 v5) < 1000000) → (S336.1 = z96.1) → (∀ k : Nat, k ∉ [18] → S336.2 k = z96.2 k) → ((S.1 3) - v7) < (fu : Int) → (∀ z336 : Int × Sta, M_look_l336 S c z96 m288 m311 fu v2 v3 v4 v5 v7 S336 = z336 → (z336.2.1 = z96.1) ∧ (∀ k : Nat, k ∉ [18] → z336.2.2 k = z96.2 k) → GG l (rmK (2, 55)) K x (wM K q z336.2) 484 [(0, .ref (q 0)), (1, .int (iI c)), (5, .int (iI z336.1)), (6, .int (iI (z96.2 17 (M_spot 0 0 m288 m311 0))))] []) → GG l (rmK (2, 55)) K x (wM K q S336) 336 [(0, .ref (q 0)), (1, .int (iI c)), (2, .int (iI v2)), (3, .int (iI v3)), (4, .int (iI v4)), (5, .int (iI v5)), (6, .int (iI (z96.2 17 (M_spot 0 0 m288 m311 0)))), (7, .int (iI v7))] [] := by
        intro fu
        induction fu with
        | zero => intro v2 v3 v4 v5 v7 S336 hi336_0 hi336_1 hi336_2 hi336_3 hi336_4 hi336_5 hi336_6 hi336_7 hi336_8 hi336_9 hm336 K336; exact absurd hm336 (by omega)
        | succ fu ih =>
          intro v2 v3 v4 v5 v7 S336 hi336_0 hi336_1 hi336_2 hi336_3 hi336_4 hi336_5 hi336_6 hi336_7 hi336_8 hi336_9 hm336 K336
          refine gx_iload X dX3_look_336 7 rfl ?_
          refine gx_aload_n X dX3_look_338 rfl 0 rfl ?_
          refine gM_g3 (v := (S.1 3)) X ((congrFun (hi336_8 ) 3).trans ((congrFun (hx96.2.1 ) 3).trans (congrFun (hx2.2.1 ) 3))) dX3_look_339 ?_
          refine gx_icmp_ge (tgt := 484) X dX3_look_342 (by decide) (by omega) (fun hc342 => ?_) (fun hc342 => ?_)
          · refine gx_sub [0, 1, 5, 6] rfl ?_
            exact K336 (v5, S336) ((M_look_l336_s S c z96 m288 m311 fu v2 v3 v4 v5 v7 S336).trans (if_pos hc342)) ⟨(hi336_8 ), (fun k hk => (hi336_9  k hk))⟩
          · refine gx_iload X dX3_look_345 6 rfl ?_
            refine gx_ldc (z := 1000000) X t_M_161 dX3_look_347 (by decide) ?_
            refine gx_icmp_ge (tgt := 484) X dX3_look_349 (by decide) (by omega) (fun hc349 => ?_) (fun hc349 => ?_)
            · refine gx_sub [0, 1, 5, 6] rfl ?_
              exact K336 (v5, S336) ((M_look_l336_s S c z96 m288 m311 fu v2 v3 v4 v5 v7 S336).trans ((if_neg hc342).trans (if_pos hc349))) ⟨(hi336_8 ), (fun k hk => (hi336_9  k hk))⟩
            · have hg := hi336_7 (by omega)
              have hk3 : S336.1 3 = S.1 3 := ((congrFun (hi336_8 ) 3).trans ((congrFun (hx96.2.1 ) 3).trans (congrFun (hx2.2.1 ) 3)))
              have hka := hi336_9 17 (by decide)
              have hk2 : S336.2 2 c = S.2 2 c := ((congrFun (hi336_9  2 (by decide)) c).trans ((congrFun (hx96.2.2  2 (by decide)) c).trans (congrFun (hx2.2.2  2 (by decide)) c)))
              obtain ⟨t0, ht0, ht1, ht2⟩ := BTab_ex (t := v4) (h := v2) (n := v3) (u := v5) hi336_6 (r := v7) (by omega) (by omega) (by omega) (by omega) (by omega) (by rw [hka]; exact hg)
              rw [hka] at ht2
              refine gx_iconst (z := 0) X dX3_look_352 rfl ?_
              refine gx_istore X dX3_look_353 (by decide) rfl ?_
              have L355 : ∀ (fu : Nat) (v8 : Int), (0 ≤ v8) → (v8 ≤ t0) → (t0 - v8) < (fu : Int) → (∀ z355 : Int, M_look_l355 c z96 v2 v3 v4 v5 v7 S336 fu v8 = z355 → (0 ≤ z355 ∧ z355 ≤ 2) ∧ (z355 = 2 → v3 ≤ 8) ∧ (M_by S336 c v7 v4 v2 v3 v5 z355 = z96.2 17 (M_spot v7 v4 v2 v3 v5)) → GG l (rmK (2, 55)) K x (wM K q S336) 407 [(0, .ref (q 0)), (1, .int (iI c)), (2, .int (iI v2)), (3, .int (iI v3)), (4, .int (iI v4)), (5, .int (iI v5)), (6, .int (iI (z96.2 17 (M_spot 0 0 m288 m311 0)))), (7, .int (iI v7)), (8, .int (iI z355))] []) → GG l (rmK (2, 55)) K x (wM K q S336) 355 [(0, .ref (q 0)), (1, .int (iI c)), (2, .int (iI v2)), (3, .int (iI v3)), (4, .int (iI v4)), (5, .int (iI v5)), (6, .int (iI (z96.2 17 (M_spot 0 0 m288 m311 0)))), (7, .int (iI v7)), (8, .int (iI v8))] [] := by
                intro fu
                induction fu with
                | zero => intro v8 hi355_0 hi355_1 hm355 K355; exact absurd hm355 (by omega)
                | succ fu ih =>
                  intro v8 hi355_0 hi355_1 hm355 K355
                  refine gx_iload X dX3_look_355 8 rfl ?_
                  refine gx_iconst (z := 2) X dX3_look_357 rfl ?_
                  refine gx_icmp_ne (tgt := 367) X dX3_look_358 (by decide) (by omega) (fun hc358 => ?_) (fun hc358 => ?_)
                  · refine gx_aload_n X dX3_look_367 rfl 0 rfl ?_
                    refine gx_iload_n X dX3_look_368 rfl 1 rfl ?_
                    refine gx_iload X dX3_look_369 7 rfl ?_
                    refine gx_iload X dX3_look_371 4 rfl ?_
                    refine gx_iload_n X dX3_look_373 rfl 2 rfl ?_
                    refine gx_iload_n X dX3_look_374 rfl 3 rfl ?_
                    refine gx_iload X dX3_look_375 5 rfl ?_
                    refine gx_iload X dX3_look_377 8 rfl ?_
                    refine gx_callVI (As := [.int (iI c), .int (iI v7), .int (iI v4), .int (iI v2), .int (iI v3), .int (iI v5), .int (iI v8)]) (rest := []) X (hD _) lk_M_168 (ci := 3) rfl rfl 0 rfl (c_M_by q S336 c v7 v4 v2 v3 v5 v8 hi336_5 (by omega) (by omega) (by omega) (by omega) (by omega) (by omega) (by omega)) jn_all rfl ⟨by decide, by decide⟩ (Nat.le_of_ble_eq_true rfl) dX3_look_379 ?_
                    have hp379_0 := M_by_rg S336 c v7 v4 v2 v3 v5 v8 hi336_5 (by omega) (by omega) (by omega) (by omega) (by omega) (by omega) (by omega)
                    refine gx_aload_n X dX3_look_382 rfl 0 rfl ?_
                    refine gM_r17 X dX3_look_383 ?_
                    refine gx_iload X dX3_look_386 7 rfl ?_
                    refine gx_iload X dX3_look_388 4 rfl ?_
                    refine gx_iload_n X dX3_look_390 rfl 2 rfl ?_
                    refine gx_iload_n X dX3_look_391 rfl 3 rfl ?_
                    refine gx_iload X dX3_look_392 5 rfl ?_
                    refine gx_callSI (As := [.int (iI v7), .int (iI v4), .int (iI v2), .int (iI v3), .int (iI v5)]) (rest := [.ref (q 18), .int (iI (M_by S336 c v7 v4 v2 v3 v5 v8))]) X (hD _) lk_M_157 (c_M_spot v7 v4 v2 v3 v5 ) jn_nil rfl ⟨by decide, by decide⟩ (Nat.le_of_ble_eq_true rfl) dX3_look_394 ?_
                    have hq394_0 := M_spot_sp v7 v4 v2 v3 v5
                    refine gM_l17 (v := (z96.2 17 (M_spot v7 v4 v2 v3 v5))) X (by omega) (congrFun (hi336_9  17 (by decide)) (M_spot v7 v4 v2 v3 v5)) dX3_look_397 ?_
                    have hr397 := InvM_a17 hx96.1 (M_spot v7 v4 v2 v3 v5)
                    refine gx_icmp_eq (tgt := 407) X dX3_look_398 (by decide) (by omega) (fun hc398 => ?_) (fun hc398 => ?_)
                    · refine gx_sub [0, 1, 2, 3, 4, 5, 6, 7, 8] rfl ?_
                      exact K355 v8 ((M_look_l355_s c z96 v2 v3 v4 v5 v7 S336 fu v8).trans ((if_neg hc358).trans (if_pos hc398))) ⟨by omega, by omega, hc398⟩
                    · refine gx_iinc X dX3_look_401 8 rfl (by decide) rfl ?_
                      refine gx_goto (tgt := 355) X dX3_look_404 (by decide) ?_
                      refine gx_sub [1, 2, 3, 4, 5, 6, 7, 8, 0] rfl ?_
                      exact ih (v8 + 1) (by omega) (by first | omega | exact (Int.lt_or_eq_of_le hi355_1).elim (fun h9 => by omega) (fun h9 => absurd (by rw [h9]; exact ht2) hc398)) (by omega) (fun z e hx => K355 z ((M_look_l355_s c z96 v2 v3 v4 v5 v7 S336 fu v8).trans (((if_neg hc358).trans (if_neg hc398)).trans e)) hx)
                  · refine gx_iload_n X dX3_look_361 rfl 3 rfl ?_
                    refine gx_bipush (z := 9) X dX3_look_362 (by decide) ?_
                    refine gx_icmp_eq (tgt := 401) X dX3_look_364 (by decide) (by omega) (fun hc364 => ?_) (fun hc364 => ?_)
                    · refine gx_iinc X dX3_look_401 8 rfl (by decide) rfl ?_
                      refine gx_goto (tgt := 355) X dX3_look_404 (by decide) ?_
                      refine gx_sub [1, 2, 3, 4, 5, 6, 7, 8, 0] rfl ?_
                      exact ih (v8 + 1) (by omega) (by first | omega | exact (Int.lt_or_eq_of_le hi355_1).elim (fun h9 => by omega) (fun h9 => absurd (by rw [h9]; exact ht2) hc398)) (by omega) (fun z e hx => K355 z ((M_look_l355_s c z96 v2 v3 v4 v5 v7 S336 fu v8).trans (((if_pos hc358).trans (if_pos hc364)).trans e)) hx)
                    · refine gx_aload_n X dX3_look_367 rfl 0 rfl ?_
                      refine gx_iload_n X dX3_look_368 rfl 1 rfl ?_
                      refine gx_iload X dX3_look_369 7 rfl ?_
                      refine gx_iload X dX3_look_371 4 rfl ?_
                      refine gx_iload_n X dX3_look_373 rfl 2 rfl ?_
                      refine gx_iload_n X dX3_look_374 rfl 3 rfl ?_
                      refine gx_iload X dX3_look_375 5 rfl ?_
                      refine gx_iload X dX3_look_377 8 rfl ?_
                      refine gx_callVI (As := [.int (iI c), .int (iI v7), .int (iI v4), .int (iI v2), .int (iI v3), .int (iI v5), .int (iI v8)]) (rest := []) X (hD _) lk_M_168 (ci := 3) rfl rfl 0 rfl (c_M_by q S336 c v7 v4 v2 v3 v5 v8 hi336_5 (by omega) (by omega) (by omega) (by omega) (by omega) (by omega) (by omega)) jn_all rfl ⟨by decide, by decide⟩ (Nat.le_of_ble_eq_true rfl) dX3_look_379 ?_
                      have hp379_0 := M_by_rg S336 c v7 v4 v2 v3 v5 v8 hi336_5 (by omega) (by omega) (by omega) (by omega) (by omega) (by omega) (by omega)
                      refine gx_aload_n X dX3_look_382 rfl 0 rfl ?_
                      refine gM_r17 X dX3_look_383 ?_
                      refine gx_iload X dX3_look_386 7 rfl ?_
                      refine gx_iload X dX3_look_388 4 rfl ?_
                      refine gx_iload_n X dX3_look_390 rfl 2 rfl ?_
                      refine gx_iload_n X dX3_look_391 rfl 3 rfl ?_
                      refine gx_iload X dX3_look_392 5 rfl ?_
                      refine gx_callSI (As := [.int (iI v7), .int (iI v4), .int (iI v2), .int (iI v3), .int (iI v5)]) (rest := [.ref (q 18), .int (iI (M_by S336 c v7 v4 v2 v3 v5 v8))]) X (hD _) lk_M_157 (c_M_spot v7 v4 v2 v3 v5 ) jn_nil rfl ⟨by decide, by decide⟩ (Nat.le_of_ble_eq_true rfl) dX3_look_394 ?_
                      have hq394_0 := M_spot_sp v7 v4 v2 v3 v5
                      refine gM_l17 (v := (z96.2 17 (M_spot v7 v4 v2 v3 v5))) X (by omega) (congrFun (hi336_9  17 (by decide)) (M_spot v7 v4 v2 v3 v5)) dX3_look_397 ?_
                      have hr397 := InvM_a17 hx96.1 (M_spot v7 v4 v2 v3 v5)
                      refine gx_icmp_eq (tgt := 407) X dX3_look_398 (by decide) (by omega) (fun hc398 => ?_) (fun hc398 => ?_)
                      · refine gx_sub [0, 1, 2, 3, 4, 5, 6, 7, 8] rfl ?_
                        exact K355 v8 ((M_look_l355_s c z96 v2 v3 v4 v5 v7 S336 fu v8).trans ((if_pos hc358).trans ((if_neg hc364).trans (if_pos hc398)))) ⟨by omega, by omega, hc398⟩
                      · refine gx_iinc X dX3_look_401 8 rfl (by decide) rfl ?_
                        refine gx_goto (tgt := 355) X dX3_look_404 (by decide) ?_
                        refine gx_sub [1, 2, 3, 4, 5, 6, 7, 8, 0] rfl ?_
                        exact ih (v8 + 1) (by omega) (by first | omega | exact (Int.lt_or_eq_of_le hi355_1).elim (fun h9 => by omega) (fun h9 => absurd (by rw [h9]; exact ht2) hc398)) (by omega) (fun z e hx => K355 z ((M_look_l355_s c z96 v2 v3 v4 v5 v7 S336 fu v8).trans (((if_pos hc358).trans ((if_neg hc364).trans (if_neg hc398))).trans e)) hx)
              refine gx_sub [1, 2, 3, 4, 5, 6, 7, 8, 0] rfl ?_
              refine L355 (3) 0 (by omega) (by omega) (by omega) (fun z355 e355 hx355 => ?_)
              refine gx_aload_n X dX3_look_407 rfl 0 rfl ?_
              refine gM_r18 X dX3_look_408 ?_
              refine gx_iload X dX3_look_411 7 rfl ?_
              refine gx_iload X dX3_look_413 8 rfl ?_
              refine gM_s18 X (hD _) (by omega) dX3_look_415 ?_
              refine gx_iload X dX3_look_416 8 rfl ?_
              refine gx_iconst (z := 2) X dX3_look_418 rfl ?_
              have J478 : ∀ (m478a : Int) (m478b : Int) (m478c : Int) (m478d : Int), m478a = (if z355 = 2 then v2 else (M_lies (mA S336 18 v7 z355) c ((v4 + ((if z355 = 0 then 1 else 3) : Int)) % 4) z355)) → m478b = (if z355 = 2 then (v3 + 1) else 0) → m478c = (if z355 = 2 then v4 else ((v4 + ((if z355 = 0 then 1 else 3) : Int)) % 4)) → m478d = (if z355 = 2 then v5 else (v5 + ((if z355 = (S.2 2 c) then 1 else (-1)) : Int))) → (0 ≤ m478a ∧ m478a ≤ 3) → (0 ≤ m478b ∧ m478b ≤ 9) → (0 ≤ m478c ∧ m478c ≤ 3) → (-(v7 + 1) ≤ m478d ∧ m478d ≤ v7 + 1) → (z96.2 17 (M_spot (v7 + 1) m478c m478a m478b m478d) < 1000000) → GG l (rmK (2, 55)) K x (wM K q (mA S336 18 v7 z355)) 478 [(0, .ref (q 0)), (1, .int (iI c)), (2, .int (iI m478a)), (3, .int (iI m478b)), (4, .int (iI m478c)), (5, .int (iI m478d)), (6, .int (iI (z96.2 17 (M_spot 0 0 m288 m311 0)))), (7, .int (iI v7)), (8, .int (iI z355))] [] := by
                intro m478a m478b m478c m478d e_m478a e_m478b e_m478c e_m478d hf478_0 hf478_1 hf478_2 hf478_3 hf478_4
                refine gx_iinc X dX3_look_478 7 rfl (by decide) rfl ?_
                refine gx_goto (tgt := 336) X dX3_look_481 (by decide) ?_
                refine gx_sub [1, 2, 3, 4, 5, 6, 7, 0] rfl ?_
                subst e355
                subst e_m478a
                subst e_m478b
                subst e_m478c
                subst e_m478d
                exact ih _ _ _ _ _ _ (by omega) hf478_0 hf478_1 hf478_2 hf478_3 (InvW.mA hi336_5 (show 0 ≤ _ ∧ _ ≤ 2 from hx355.1)) hi336_6 (fun _ => hf478_4) (hi336_8 ) (fun k hk => (mA_nin hk (by decide)).trans ((hi336_9  k hk))) (by omega) (fun z e hx => K336 z ((M_look_l336_s S c z96 m288 m311 fu v2 v3 v4 v5 v7 S336).trans (((if_neg hc342).trans (if_neg hc349)).trans e)) hx)
              refine gx_icmp_ne (tgt := 428) X dX3_look_419 (by decide) (by omega) (fun hc419 => ?_) (fun hc419 => ?_)
              · refine gx_iload X dX3_look_428 4 rfl ?_
                refine gx_iload X dX3_look_430 8 rfl ?_
                have J440 : ∀ (m440 : Int), m440 = (if z355 = 0 then 1 else 3) → GG l (rmK (2, 55)) K x (wM K q (mA S336 18 v7 z355)) 440 [(0, .ref (q 0)), (1, .int (iI c)), (2, .int (iI v2)), (3, .int (iI v3)), (4, .int (iI v4)), (5, .int (iI v5)), (6, .int (iI (z96.2 17 (M_spot 0 0 m288 m311 0)))), (7, .int (iI v7)), (8, .int (iI z355))] [.int (iI m440), .int (iI v4)] := by
                  intro m440 e_m440
                  refine gx_iadd X dX3_look_440 ?_
                  refine gx_iconst (z := 4) X dX3_look_441 rfl ?_
                  refine gx_irem X dX3_look_442 (by omega) ?_
                  refine gx_istore X dX3_look_443 (by decide) rfl ?_
                  refine gx_aload_n X dX3_look_445 rfl 1 rfl ?_
                  refine gx_iload_n X dX3_look_446 rfl 2 rfl ?_
                  refine gx_iload X dX3_look_447 0 rfl ?_
                  refine gx_iload X dX3_look_449 8 rfl ?_
                  refine gx_callVI (As := [.int (iI c), .int (iI ((v4 + m440) % 4)), .int (iI z355)]) (rest := []) X (hD _) lk_M_162 (ci := 3) rfl rfl 0 rfl (c_M_lies q (mA S336 18 v7 z355) c ((v4 + m440) % 4) z355 (InvW.mA hi336_5 (show 0 ≤ _ ∧ _ ≤ 2 from hx355.1)) (by omega) (by omega) (by omega)) jn_all rfl ⟨by decide, by decide⟩ (Nat.le_of_ble_eq_true rfl) dX3_look_451 ?_
                  have hp451_0 := M_lies_rg (mA S336 18 v7 z355) c ((v4 + m440) % 4) z355 (InvW.mA hi336_5 (show 0 ≤ _ ∧ _ ≤ 2 from hx355.1)) (by omega) (by omega) (by omega)
                  refine gx_istore_n X dX3_look_454 rfl (by decide) rfl ?_
                  refine gx_iconst (z := 0) X dX3_look_455 rfl ?_
                  refine gx_istore_n X dX3_look_456 rfl (by decide) rfl ?_
                  refine gx_iload X dX3_look_457 5 rfl ?_
                  refine gx_iload X dX3_look_459 8 rfl ?_
                  refine gx_aload_n X dX3_look_461 rfl 3 rfl ?_
                  refine gM_r2 X dX3_look_462 ?_
                  refine gx_iload_n X dX3_look_465 rfl 4 rfl ?_
                  refine gM_l2 (v := (S.2 2 c)) X (by omega) ((congrFun (hi336_9  2 (by decide)) c).trans ((congrFun (hx96.2.2  2 (by decide)) c).trans (congrFun (hx2.2.2  2 (by decide)) c))) dX3_look_466 ?_
                  have hr466 := InvM_a2 hI c
                  have J475 : ∀ (m475 : Int), m475 = (if z355 = (S.2 2 c) then 1 else (-1)) → GG l (rmK (2, 55)) K x (wM K q (mA S336 18 v7 z355)) 475 [(0, .ref (q 0)), (1, .int (iI c)), (2, .int (iI (M_lies (mA S336 18 v7 z355) c ((v4 + m440) % 4) z355))), (3, .int (iI 0)), (4, .int (iI ((v4 + m440) % 4))), (5, .int (iI v5)), (6, .int (iI (z96.2 17 (M_spot 0 0 m288 m311 0)))), (7, .int (iI v7)), (8, .int (iI z355))] [.int (iI m475), .int (iI v5)] := by
                    intro m475 e_m475
                    refine gx_iadd X dX3_look_475 ?_
                    refine gx_istore X dX3_look_476 (by decide) rfl ?_
                    refine gx_sub [1, 2, 3, 4, 5, 0, 6, 7, 8] rfl ?_
                    subst e_m440
                    subst e_m475
                    exact J478 _ _ _ _ ((if_neg hc419).symm) ((if_neg hc419).symm) ((if_neg hc419).symm) ((if_neg hc419).symm) (by omega) (by omega) (by omega) (by omega) (by rw [← hka]; first | (have nx := M_by_next2 hc419 (by rw [hx355.2.2]; exact hg); exact nx) | (have nx := M_by_next hc419 (by rw [hx355.2.2]; exact hg); rw [hk2] at nx; exact nx))
                  refine gx_icmp_ne (tgt := 474) X dX3_look_467 (by decide) (by omega) (fun hc467 => ?_) (fun hc467 => ?_)
                  · refine gx_iconst (z := (-1)) X dX3_look_474 rfl ?_
                    refine gx_sub [3, 4, 1, 0, 2, 5, 6, 7, 8] rfl ?_
                    exact J475 (-1) ((if_neg hc467).symm) 
                  · refine gx_iconst (z := 1) X dX3_look_470 rfl ?_
                    refine gx_goto (tgt := 475) X dX3_look_471 (by decide) ?_
                    refine gx_sub [3, 4, 1, 0, 2, 5, 6, 7, 8] rfl ?_
                    exact J475 1 ((if_pos hc467).symm) 
                refine gx_if_ne (tgt := 439) X dX3_look_432 (by decide) (by omega) (fun hc432 => ?_) (fun hc432 => ?_)
                · refine gx_iconst (z := 3) X dX3_look_439 rfl ?_
                  refine gx_sub [0, 1, 2, 3, 4, 5, 6, 7, 8] rfl ?_
                  exact J440 3 ((if_neg hc432).symm) 
                · refine gx_iconst (z := 1) X dX3_look_435 rfl ?_
                  refine gx_goto (tgt := 440) X dX3_look_436 (by decide) ?_
                  refine gx_sub [0, 1, 2, 3, 4, 5, 6, 7, 8] rfl ?_
                  exact J440 1 ((if_pos hc432).symm) 
              · refine gx_iinc X dX3_look_422 3 rfl (by decide) rfl ?_
                refine gx_goto (tgt := 478) X dX3_look_425 (by decide) ?_
                refine gx_sub [1, 2, 3, 0, 4, 5, 6, 7, 8] rfl ?_
                exact J478 v2 (v3 + 1) v4 v5 ((if_pos hc419).symm) ((if_pos hc419).symm) ((if_pos hc419).symm) ((if_pos hc419).symm) (by omega) (by omega) (by omega) (by omega) (by rw [← hka]; first | (have nx := M_by_next2 hc419 (by rw [hx355.2.2]; exact hg); exact nx) | (have nx := M_by_next hc419 (by rw [hx355.2.2]; exact hg); rw [hk2] at nx; exact nx))
      refine gx_sub [5, 6, 7, 4, 3, 2, 1, 0] rfl ?_
      refine L336 (31) m288 m311 0 0 0 z96 (by omega) (by omega) (by omega) (by omega) (by omega) hx96.1 hBT (fun h9 => h9) rfl (fun _ _ => rfl) (by omega) (fun z336 e336 hx336 => ?_)
      refine gx_aload_n X dX3_look_484 rfl 0 rfl ?_
      refine gx_aload_n X dX3_look_485 rfl 0 rfl ?_
      refine gM_r4 X dX3_look_486 ?_
      refine gx_iload_n X dX3_look_489 rfl 1 rfl ?_
      refine gM_l4 (v := (S.2 4 c)) X (by omega) ((congrFun (hx336.2  4 (by decide)) c).trans ((congrFun (hx96.2.2  4 (by decide)) c).trans (congrFun (hx2.2.2  4 (by decide)) c))) dX3_look_490 ?_
      have hr490 := InvM_a4 hT c
      refine gx_iload X dX3_look_491 2 rfl ?_
      refine gx_iadd X dX3_look_493 ?_
      refine gM_p5 X (hD _) dX3_look_494 ?_
      refine gx_iload X dX3_look_497 3 rfl ?_
      exact gx_iret hR (congrArg Prod.fst ((show M_look S c = ((z96.2 17 (M_spot 0 0 m288 m311 0)), (mI z336.2 5 ((S.2 4 c) + z336.1))) from (congrArg (fun z2 => M_look_r2 S c z2) e2).trans ((congrArg (fun z96 => M_look_r96 S c z96) e96).trans ((congrArg (fun z0 => M_look_m288 S c z96 z0) e_m288.symm).trans ((congrArg (fun z0 => M_look_m311 S c z96 m288 z0) e_m311.symm).trans (congrArg (fun z336 => M_look_r336 S c z96 m288 m311 z336) e336))))))) (ret2 (fun z => (wM K q z)) ((show M_look S c = ((z96.2 17 (M_spot 0 0 m288 m311 0)), (mI z336.2 5 ((S.2 4 c) + z336.1))) from (congrArg (fun z2 => M_look_r2 S c z2) e2).trans ((congrArg (fun z96 => M_look_r96 S c z96) e96).trans ((congrArg (fun z0 => M_look_m288 S c z96 z0) e_m288.symm).trans ((congrArg (fun z0 => M_look_m311 S c z96 m288 z0) e_m311.symm).trans (congrArg (fun z336 => M_look_r336 S c z96 m288 m311 z336) e336))))))) dX3_look_499
    refine gx_icmp_le (tgt := 305) X dX3_look_297 (by decide) (by omega) (fun hc297 => ?_) (fun hc297 => ?_)
    · refine gx_aload_n X dX3_look_305 rfl 1 rfl ?_
      refine gM_r5 X dX3_look_306 ?_
      refine gx_iload_n X dX3_look_309 rfl 2 rfl ?_
      refine gM_l5 (v := (S.2 5 c)) X (by omega) ((congrFun (hx96.2.2  5 (by decide)) c).trans (congrFun (hx2.2.2  5 (by decide)) c)) dX3_look_310 ?_
      refine gx_sub [1, 2, 0] rfl ?_
      exact J311 (S.2 5 c) ((if_pos hc297).symm) (by omega)
    · refine gx_bipush (z := 9) X dX3_look_300 (by decide) ?_
      refine gx_goto (tgt := 311) X dX3_look_302 (by decide) ?_
      refine gx_sub [1, 2, 0] rfl ?_
      exact J311 9 ((if_neg hc297).symm) (by omega)
  refine gx_if_ne (tgt := 272) X dX3_look_258 (by decide) (by omega) (fun hc258 => ?_) (fun hc258 => ?_)
  · refine gx_aload_n X dX3_look_272 rfl 0 rfl ?_
    refine gM_r13 X dX3_look_273 ?_
    refine gx_bipush (z := 16) X dX3_look_276 (by decide) ?_
    refine gx_aload_n X dX3_look_278 rfl 0 rfl ?_
    refine gM_g2 (v := (S.1 2)) X ((congrFun (hx96.2.1 ) 2).trans (congrFun (hx2.2.1 ) 2)) dX3_look_279 ?_
    refine gx_iconst (z := 1) X dX3_look_282 rfl ?_
    refine gx_isub X dX3_look_283 ?_
    refine gx_imul X dX3_look_284 ?_
    refine gx_iload_n X dX3_look_285 rfl 1 rfl ?_
    refine gx_iadd X dX3_look_286 ?_
    refine gM_l13 (v := (S.2 13 ((16 * ((S.1 2) - 1)) + c))) X (by omega) ((congrFun (hx96.2.2  13 (by decide)) ((16 * ((S.1 2) - 1)) + c)).trans (congrFun (hx2.2.2  13 (by decide)) ((16 * ((S.1 2) - 1)) + c))) dX3_look_287 ?_
    have hr287 := InvM_a13 hI ((16 * ((S.1 2) - 1)) + c)
    refine gx_sub [0, 1] rfl ?_
    exact J288 (S.2 13 ((16 * ((S.1 2) - 1)) + c)) ((if_neg hc258).symm) (by omega)
  · refine gx_aload_n X dX3_look_261 rfl 0 rfl ?_
    refine gM_r1 X dX3_look_262 ?_
    refine gx_iconst (z := 4) X dX3_look_265 rfl ?_
    refine gx_iload_n X dX3_look_266 rfl 1 rfl ?_
    refine gx_imul X dX3_look_267 ?_
    refine gM_l1 (v := (S.2 1 (4 * c))) X (by omega) ((congrFun (hx96.2.2  1 (by decide)) (4 * c)).trans (congrFun (hx2.2.2  1 (by decide)) (4 * c))) dX3_look_268 ?_
    have hr268 := InvM_a1 hI (4 * c)
    refine gx_goto (tgt := 288) X dX3_look_269 (by decide) ?_
    refine gx_sub [0, 1] rfl ?_
    exact J288 (S.2 1 (4 * c)) ((if_pos hc258).symm) (by omega)
end
section
theorem M_look_l28_fr {N : Int} (S : Sta) (c a b d : Int) (hT : InvT S) : ∀ (fu : Nat) (v : Int) (Z : Sta), -30 ≤ v → InvW N Z → (InvW N (M_look_l28 S c a b d fu v Z) ∧ (M_look_l28 S c a b d fu v Z).1 = Z.1 ∧ ∀ k : Nat, k ∉ [17] → (M_look_l28 S c a b d fu v Z).2 k = Z.2 k) := by
  intro fu
  induction fu with
  | zero => intro v Z _ h; exact ⟨h, rfl, fun _ _ => rfl⟩
  | succ fu ih =>
    intro v Z hv h
    rw [M_look_l28_s]
    split
    · exact ⟨h, rfl, fun _ _ => rfl⟩
    · have t4 := InvM_a4 hT c
      have sz := M_size_sp (S.2 4 c + v)
      have k := ih (v + 1) (mA Z 17 (M_spot (S.1 3) a b d v) (M_size (S.2 4 c + v))) (by omega) (InvW.mA h (show 0 ≤ _ ∧ _ ≤ 1000000 from by omega))
      exact ⟨k.1, k.2.1, fun i hi => (k.2.2 i hi).trans (mA_nin hi (by decide))⟩
theorem M_look_l17_fr {N : Int} (S : Sta) (c a b : Int) (hT : InvT S) : ∀ (fu : Nat) (v : Int) (Z : Sta), InvW N Z → (InvW N (M_look_l17 S c a b fu v Z) ∧ (M_look_l17 S c a b fu v Z).1 = Z.1 ∧ ∀ k : Nat, k ∉ [17] → (M_look_l17 S c a b fu v Z).2 k = Z.2 k) := by
  intro fu
  induction fu with
  | zero => intro v Z h; exact ⟨h, rfl, fun _ _ => rfl⟩
  | succ fu ih =>
    intro v Z h
    rw [M_look_l17_s]
    split
    · exact ⟨h, rfl, fun _ _ => rfl⟩
    · have o := M_look_l28_fr S c a b v hT 62 (-30) Z (by omega) h
      have k := ih (v + 1) _ o.1
      exact ⟨k.1, k.2.1.trans o.2.1, fun i hi => (k.2.2 i hi).trans (o.2.2 i hi)⟩
theorem M_look_l9_fr {N : Int} (S : Sta) (c a : Int) (hT : InvT S) : ∀ (fu : Nat) (v : Int) (Z : Sta), InvW N Z → (InvW N (M_look_l9 S c a fu v Z) ∧ (M_look_l9 S c a fu v Z).1 = Z.1 ∧ ∀ k : Nat, k ∉ [17] → (M_look_l9 S c a fu v Z).2 k = Z.2 k) := by
  intro fu
  induction fu with
  | zero => intro v Z h; exact ⟨h, rfl, fun _ _ => rfl⟩
  | succ fu ih =>
    intro v Z h
    rw [M_look_l9_s]
    split
    · exact ⟨h, rfl, fun _ _ => rfl⟩
    · have o := M_look_l17_fr S c a v hT 11 0 Z h
      have k := ih (v + 1) _ o.1
      exact ⟨k.1, k.2.1.trans o.2.1, fun i hi => (k.2.2 i hi).trans (o.2.2 i hi)⟩
theorem M_look_l2_fr {N : Int} (S : Sta) (c : Int) (hT : InvT S) : ∀ (fu : Nat) (v : Int) (Z : Sta), InvW N Z → (InvW N (M_look_l2 S c fu v Z) ∧ (M_look_l2 S c fu v Z).1 = Z.1 ∧ ∀ k : Nat, k ∉ [17] → (M_look_l2 S c fu v Z).2 k = Z.2 k) := by
  intro fu
  induction fu with
  | zero => intro v Z h; exact ⟨h, rfl, fun _ _ => rfl⟩
  | succ fu ih =>
    intro v Z h
    rw [M_look_l2_s]
    split
    · exact ⟨h, rfl, fun _ _ => rfl⟩
    · have o := M_look_l9_fr S c v hT 5 0 Z h
      have k := ih (v + 1) _ o.1
      exact ⟨k.1, k.2.1.trans o.2.1, fun i hi => (k.2.2 i hi).trans (o.2.2 i hi)⟩
theorem M_ls_rg {N : Int} (S : Sta) (c r t h n u : Int) (hI : InvW N S) (hc : 0 ≤ c ∧ c < 16) (hr : 0 ≤ r ∧ r < 30) (g : M_rg r t h n u) : 0 ≤ M_ls S c r t h n u ∧ M_ls S c r t h n u ≤ 1000000 := by
  obtain ⟨g1, g2, g3, g4⟩ := g
  have b0 := M_by_rg S c r t h n u 0 hI hc hr g1 g2 g3 g4 (by omega)
  have b1 := M_by_rg S c r t h n u 1 hI hc hr g1 g2 g3 g4 (by omega)
  rw [M_ls_eq]
  unfold M_mn
  by_cases hn : n = 9
  · rw [if_pos hn]
    omega
  · have b2 := M_by_rg S c r t h n u 2 hI hc hr g1 g2 g3 g4 (by omega)
    rw [if_neg hn]
    omega
theorem M_fill_inv {N c r : Int} {P : Int → Int → Int → Int → Prop} {S S' : Sta} (hr : 0 ≤ r ∧ r ≤ 29) (hc : 0 ≤ c ∧ c < 16) (h : M_fill c r P S S') (hI : InvW N S) : InvW N S' := by
  refine ⟨by rw [h.1]; exact hI.1, fun k j => ?_⟩
  by_cases hk : k = 17
  · subst hk
    by_cases e : ∃ t g n u : Int, M_rg r t g n u ∧ P t g n u ∧ j = M_spot r t g n u
    · obtain ⟨t, g, n, u, rg, p, rfl⟩ := e
      rw [h.2.2.2 t g n u rg p]
      exact M_ls_rg S c r t g n u hI hc (by omega) rg
    · rw [h.2.2.1 j (fun t g n u rg p q => e ⟨t, g, n, u, rg, p, q⟩)]
      exact hI.2 17 j
  · rw [h.2.1 k hk]
    exact hI.2 k j
theorem M_look_l96_fr {N : Int} (c : Int) (hc : 0 ≤ c ∧ c < 16) : ∀ (fu : Nat) (v : Int) (Z : Sta), v ≤ 29 → InvW N Z → (InvW N (M_look_l96 c fu v Z) ∧ (M_look_l96 c fu v Z).1 = Z.1 ∧ ∀ k : Nat, k ∉ [17] → (M_look_l96 c fu v Z).2 k = Z.2 k) := by
  intro fu
  induction fu with
  | zero => intro v Z _ h; exact ⟨h, rfl, fun _ _ => rfl⟩
  | succ fu ih =>
    intro v Z hv h
    rw [M_look_l96_s]
    split
    · exact ⟨h, rfl, fun _ _ => rfl⟩
    · have f := M_look_l102_fill c v (by omega) 5 0 Z (fun j => (InvM_a1 h j).1) (by omega) (by omega)
      have k := ih (v + -1) _ (by omega) (M_fill_inv (by omega) hc f h)
      exact ⟨k.1, k.2.1.trans f.1, fun i hi => (k.2.2 i hi).trans (f.2.1 i (fun e => hi (by rw [e]; decide)))⟩
theorem M_look_l355_sp {c : Int} {Z : Sta} {v2 v3 v4 v5 v7 : Int} {Y : Sta} {t0 : Int} (ht0 : 0 ≤ t0 ∧ t0 ≤ 2) (ht1 : t0 = 2 → v3 ≤ 8) (hv : v3 ≤ 9) (ht2 : M_by Y c v7 v4 v2 v3 v5 t0 = Z.2 17 (M_spot v7 v4 v2 v3 v5)) : ∀ (fu : Nat) (v8 : Int), 0 ≤ v8 → v8 ≤ t0 → t0 - v8 < (fu : Int) → ((0 ≤ M_look_l355 c Z v2 v3 v4 v5 v7 Y fu v8 ∧ M_look_l355 c Z v2 v3 v4 v5 v7 Y fu v8 ≤ 2) ∧ (M_look_l355 c Z v2 v3 v4 v5 v7 Y fu v8 = 2 → v3 ≤ 8) ∧ M_by Y c v7 v4 v2 v3 v5 (M_look_l355 c Z v2 v3 v4 v5 v7 Y fu v8) = Z.2 17 (M_spot v7 v4 v2 v3 v5)) ∧ v8 ≤ M_look_l355 c Z v2 v3 v4 v5 v7 Y fu v8 ∧ ∀ d : Int, v8 ≤ d → d < M_look_l355 c Z v2 v3 v4 v5 v7 Y fu v8 → ¬ M_by Y c v7 v4 v2 v3 v5 d = Z.2 17 (M_spot v7 v4 v2 v3 v5) := by
  intro fu
  induction fu with
  | zero => intro v8 h0 h1 h2; exact absurd h2 (by omega)
  | succ fu ih =>
    intro v8 h0 h1 h2
    have step : ∀ (hne : ¬ (M_by Y c v7 v4 v2 v3 v5 v8 = Z.2 17 (M_spot v7 v4 v2 v3 v5))), ((0 ≤ M_look_l355 c Z v2 v3 v4 v5 v7 Y fu (v8 + 1) ∧ M_look_l355 c Z v2 v3 v4 v5 v7 Y fu (v8 + 1) ≤ 2) ∧ (M_look_l355 c Z v2 v3 v4 v5 v7 Y fu (v8 + 1) = 2 → v3 ≤ 8) ∧ M_by Y c v7 v4 v2 v3 v5 (M_look_l355 c Z v2 v3 v4 v5 v7 Y fu (v8 + 1)) = Z.2 17 (M_spot v7 v4 v2 v3 v5)) ∧ v8 ≤ M_look_l355 c Z v2 v3 v4 v5 v7 Y fu (v8 + 1) ∧ ∀ d : Int, v8 ≤ d → d < M_look_l355 c Z v2 v3 v4 v5 v7 Y fu (v8 + 1) → ¬ M_by Y c v7 v4 v2 v3 v5 d = Z.2 17 (M_spot v7 v4 v2 v3 v5) := by
      intro hne
      have hlt : v8 ≠ t0 := fun e => hne (by rw [e]; exact ht2)
      have k := ih (v8 + 1) (by omega) (by omega) (by omega)
      refine ⟨k.1, by omega, fun d hd hd2 => ?_⟩
      by_cases e : d = v8
      · rw [e]; exact hne
      · exact k.2.2 d (by omega) hd2
    rw [M_look_l355_s]
    split
    · split
      · next e2 e9 => exact absurd (ht1 (by omega)) (by omega)
      · split
        · next e2 e9 e => exact ⟨⟨by omega, fun _ => by omega, e⟩, by omega, fun d hd hd2 => absurd hd2 (by omega)⟩
        · next e2 e9 e => exact step e
    · split
      · next e2 e => exact ⟨⟨by omega, fun q => absurd q e2, e⟩, by omega, fun d hd hd2 => absurd hd2 (by omega)⟩
      · next e2 e => exact step e
theorem M_look_l336_inv {N : Int} {S : Sta} {c : Int} {Z : Sta} {a b : Int} (hc : 0 ≤ c ∧ c < 16) (h3 : Z.1 3 = S.1 3) (h2 : Z.2 2 = S.2 2) : ∀ (fu : Nat) (v2 v3 v4 v5 v7 : Int) (Y : Sta), (0 ≤ v7) → (0 ≤ v2 ∧ v2 ≤ 3) → (0 ≤ v3 ∧ v3 ≤ 9) → (0 ≤ v4 ∧ v4 ≤ 3) → (-v7 ≤ v5 ∧ v5 ≤ v7) → InvW N Y → BTab Y c → (Z.2 17 (M_spot 0 0 a b 0) < 1000000 → Z.2 17 (M_spot v7 v4 v2 v3 v5) < 1000000) → Y.1 = Z.1 → (∀ k : Nat, k ∉ [18] → Y.2 k = Z.2 k) → InvW N (M_look_l336 S c Z a b fu v2 v3 v4 v5 v7 Y).2 ∧ (M_look_l336 S c Z a b fu v2 v3 v4 v5 v7 Y).2.1 = Z.1 ∧ (∀ k : Nat, k ∉ [18] → (M_look_l336 S c Z a b fu v2 v3 v4 v5 v7 Y).2.2 k = Z.2 k) := by
  intro fu
  induction fu with
  | zero => intro v2 v3 v4 v5 v7 Y _ _ _ _ _ hI _ _ e1 e2; exact ⟨hI, e1, e2⟩
  | succ fu ih =>
    intro v2 v3 v4 v5 v7 Y g7 g2 g3 g4 g5 hI hB hg e1 e2
    rw [M_look_l336_s]
    split
    · exact ⟨hI, e1, e2⟩
    · split
      · exact ⟨hI, e1, e2⟩
      · next n1 n2 =>
        have hka := e2 17 (by decide)
        have hk3 : Y.1 3 = S.1 3 := (congrFun e1 3).trans h3
        have hg2 := hg (by omega)
        obtain ⟨t0, ht0, ht1, ht2⟩ := BTab_ex (t := v4) (h := v2) (n := v3) (u := v5) hB (r := v7) (by omega) g4 g2 g3 g5 (by rw [hka]; exact hg2)
        rw [hka] at ht2
        have q := M_look_l355_sp ht0 ht1 g3.2 ht2 3 0 (by omega) ht0.1 (by omega)
        generalize M_look_l355 c Z v2 v3 v4 v5 v7 Y 3 0 = z at q ⊢
        obtain ⟨⟨q1, q2, q3⟩, -, -⟩ := q
        have hI' : InvW N (mA Y 18 v7 z) := InvW.mA hI (show 0 ≤ _ ∧ _ ≤ 2 from q1)
        have hli := M_lies_rg (mA Y 18 v7 z) c ((v4 + ((if z = 0 then 1 else 3) : Int)) % 4) z hI' hc (by omega)
        have e1' : (mA Y 18 v7 z).1 = Z.1 := e1
        have e2' : ∀ k : Nat, k ∉ [18] → (mA Y 18 v7 z).2 k = Z.2 k := fun k hk => (mA_nin hk (by decide)).trans (e2 k hk)
        by_cases d2 : z = 2
        · have nx := M_by_next2 (S := Y) d2 (by rw [q3]; exact hg2)
          rw [hka] at nx
          have k := ih v2 (v3 + 1) v4 v5 (v7 + 1) (mA Y 18 v7 z) (by omega) g2 (by omega) g4 (by omega) hI' hB (fun _ => nx) e1' e2'
          simp only [if_pos d2]
          exact k
        · have nx := M_by_next (S := Y) d2 (by rw [q3]; exact hg2)
          rw [hka] at nx
          rw [show Y.2 2 c = S.2 2 c from congrFun ((e2 2 (by decide)).trans h2) c] at nx
          have k := ih (M_lies (mA Y 18 v7 z) c ((v4 + ((if z = 0 then 1 else 3) : Int)) % 4) z) 0 ((v4 + ((if z = 0 then 1 else 3) : Int)) % 4) (v5 + ((if z = S.2 2 c then 1 else (-1)) : Int)) (v7 + 1) (mA Y 18 v7 z) (by omega) (hli (by omega)) (by omega) (by omega) (by omega) hI' hB (fun _ => nx) e1' e2'
          simp only [if_neg d2]
          exact k
theorem M_look_z96 {N : Int} (S : Sta) (c : Int) (hI : InvW N S) (hT : InvT S) (hc : 0 ≤ c ∧ c < 16) : InvW N (M_look_l96 c 31 (S.1 3 - 1) (M_look_l2 S c 5 0 S)) ∧ (M_look_l96 c 31 (S.1 3 - 1) (M_look_l2 S c 5 0 S)).1 = S.1 ∧ (∀ k : Nat, k ∉ [17] → (M_look_l96 c 31 (S.1 3 - 1) (M_look_l2 S c 5 0 S)).2 k = S.2 k) ∧ BTab (M_look_l96 c 31 (S.1 3 - 1) (M_look_l2 S c 5 0 S)) c := by
  have a := M_look_l2_fr S c hT 5 0 S hI
  have s3 := InvM_s3 hI
  have b := M_look_l96_fr c hc 31 (S.1 3 - 1) _ (by omega) a.1
  exact ⟨b.1, b.2.1.trans a.2.1, fun k hk => (b.2.2 k hk).trans (a.2.2 k hk), M_look_bt c (S.1 3) _ (congrFun a.2.1 3) s3 (fun j => (InvM_a1 a.1 j).1)⟩
theorem M_look_all {N : Int} (S : Sta) (c : Int) (hI : InvW N S) (hT : InvT S) (hc : 0 ≤ c ∧ c < 16) : InvW N (M_look S c).2 ∧ (∀ j : Nat, j ≠ 5 → (M_look S c).2.1 j = S.1 j) ∧ (∀ k : Nat, k ∉ [17, 18] → (M_look S c).2.2 k = S.2 k) ∧ (0 ≤ (M_look S c).1 ∧ (M_look S c).1 ≤ 1000000) := by
  have z := M_look_z96 S c hI hT hc
  have s2 := InvM_s2 hI
  have i5 := InvM_a5 hT c
  have a1 := InvM_a1 hI (4 * c)
  have a13 := InvM_a13 hI (16 * (S.1 2 - 1) + c)
  obtain ⟨zI, z1, z2, zB⟩ := z
  unfold M_look M_look_r2 M_look_r96 M_look_m288 M_look_m311 M_look_r336
  dsimp only
  generalize M_look_l96 c 31 (S.1 3 - 1) (M_look_l2 S c 5 0 S) = Z at zI z1 z2 zB ⊢
  generalize hm : (if S.1 2 = 0 then S.2 1 (4 * c) else S.2 13 (16 * (S.1 2 - 1) + c)) = m
  generalize hn : (if S.2 5 c ≤ 9 then S.2 5 c else 9) = n
  have k := M_look_l336_inv (N := N) (S := S) (c := c) (Z := Z) (a := m) (b := n) hc (congrFun z1 3) (z2 2 (by decide)) 31 m n 0 0 0 Z (by omega) (by omega) (by omega) (by omega) (by omega) zI zB (fun h => h) rfl (fun _ _ => rfl)
  refine ⟨⟨?_, fun i j => ?_⟩, fun j hj => ?_, fun i hi => ?_, ?_⟩
  · exact k.1.1
  · exact k.1.2 i j
  · exact (if_neg hj).trans ((congrFun k.2.1 j).trans (congrFun z1 j))
  · exact (k.2.2 i (fun h => hi (by simp at h ⊢; exact Or.inr h))).trans (z2 i (fun h => hi (by simp at h ⊢; exact Or.inl h)))
  · exact InvM_a17 zI _
theorem M_look_rg {N : Int} (S : Sta) (c : Int) (hI : InvW N S) (hT : InvT S) (hc : 0 ≤ c ∧ c < 16) : 0 ≤ (M_look S c).1 ∧ (M_look S c).1 ≤ 1000000 := (M_look_all S c hI hT hc).2.2.2
theorem InvT_of {S S' : Sta} (hT : InvT S) (h4 : S'.2 4 = S.2 4) (h5 : S'.2 5 = S.2 5) : InvT S' := ⟨fun j => by rw [h4]; exact hT.1 j, fun j => by rw [h5]; exact hT.2 j⟩
def M_idles_m37 (S : Sta) (c : Int) (m37 : Int) : Int × Sta := (m37, (M_look S c).2)
def M_idles (S : Sta) (c : Int) : Int × Sta := if (M_noCard S c) = 0 then M_idles_m37 S c (if 1000000 ≤ (M_look S c).1 then (-99) else (((M_look S c).1) / 1000)) else ((-1), S)
set_option maxRecDepth 100000 in
theorem c_M_idles {l : Launch} {K : KK} {N : Int} (q : Nat → Nat) (S : Sta) (c : Int) (hI : InvW N S) (hT : InvT S) (hp2 : ok32 c) : CtI l yX3_idles cX3_idles 3 .int (3, 84) K [.ref (q 0), .int (iI c)] (wM K q S) (M_idles S c).1 (wM K q ((M_idles S c).2)) := by
  refine ctI_of (by decide) (Nat.le_of_ble_eq_true rfl) rfl ?_
  intro x X hD hR
  have hD : ∀ S9 : Sta, va_D (cx_A x) (wM K q S9) := fun S9 => va_D_same hD rfl
  have hs1 := InvM_s1 hI
  have hs2 := InvM_s2 hI
  have hs3 := InvM_s3 hI
  have hs4 := InvM_s4 hI
  refine gx_aload_n X dX3_idles_0 rfl 0 rfl ?_
  refine gx_iconst (z := 0) X dX3_idles_1 rfl ?_
  refine gM_t0 X (hD _) (InvM_t hI) dX3_idles_2 ?_
  refine gx_aload_n X dX3_idles_5 rfl 0 rfl ?_
  refine gx_iload_n X dX3_idles_6 rfl 1 rfl ?_
  refine gx_callVI (As := [.int (iI c)]) (rest := []) X (hD _) lk_M_97 (ci := 3) rfl rfl 0 rfl (c_M_noCard q S c hI (by omega)) jn_all rfl ⟨by decide, by decide⟩ (Nat.le_of_ble_eq_true rfl) dX3_idles_7 ?_
  have hq7_0 := M_noCard_sp S c
  refine gx_if_eq (tgt := 15) X dX3_idles_10 (by decide) (by omega) (fun hc10 => ?_) (fun hc10 => ?_)
  · refine gx_aload_n X dX3_idles_15 rfl 0 rfl ?_
    refine gx_iload_n X dX3_idles_16 rfl 1 rfl ?_
    refine gx_callVI (As := [.int (iI c)]) (rest := []) X (hD _) lk_M_175 (ci := 3) rfl rfl 0 rfl (c_M_look q S c hI hT (by omega)) jn_all rfl ⟨by decide, by decide⟩ (Nat.le_of_ble_eq_true rfl) dX3_idles_17 ?_
    have hp17_0 := M_look_rg S c hI hT (by omega)
    refine gx_istore_n X dX3_idles_20 rfl (by decide) rfl ?_
    refine gx_iload_n X dX3_idles_21 rfl 0 rfl ?_
    refine gx_ldc (z := 1000000) X t_M_161 dX3_idles_22 (by decide) ?_
    have J37 : ∀ (m37 : Int), m37 = (if 1000000 ≤ (M_look S c).1 then (-99) else (((M_look S c).1) / 1000)) → GG l (rmK (3, 84)) K x (wM K q ((M_look S c).2)) 37 [(0, .ref (q 0)), (1, .int (iI c)), (2, .int (iI (M_look S c).1))] [.int (iI m37)] := by
      intro m37 e_m37
      exact gx_iret hR (congrArg Prod.fst ((show M_idles S c = (m37, (M_look S c).2) from (if_pos hc10).trans (congrArg (fun z0 => M_idles_m37 S c z0) e_m37.symm)))) (ret2 (fun z => (wM K q z)) ((show M_idles S c = (m37, (M_look S c).2) from (if_pos hc10).trans (congrArg (fun z0 => M_idles_m37 S c z0) e_m37.symm)))) dX3_idles_37
    refine gx_icmp_ge (tgt := 35) X dX3_idles_24 (by decide) (by omega) (fun hc24 => ?_) (fun hc24 => ?_)
    · refine gx_bipush (z := (-99)) X dX3_idles_35 (by decide) ?_
      refine gx_sub [1, 2, 0] rfl ?_
      exact J37 (-99) ((if_pos hc24).symm) 
    · refine gx_iload_n X dX3_idles_27 rfl 0 rfl ?_
      refine gx_sipush (z := 1000) X dX3_idles_28 (by decide) ?_
      refine gx_idiv X dX3_idles_31 (by omega) ?_
      refine gx_goto (tgt := 37) X dX3_idles_32 (by decide) ?_
      refine gx_sub [1, 2, 0] rfl ?_
      exact J37 (((M_look S c).1) / 1000) ((if_neg hc24).symm) 
  · refine gx_iconst (z := (-1)) X dX3_idles_13 rfl ?_
    exact gx_iret hR (congrArg Prod.fst ((show M_idles S c = ((-1), S) from if_neg hc10))) (ret2 (fun z => (wM K q z)) ((show M_idles S c = ((-1), S) from if_neg hc10))) dX3_idles_14
def M_turning_m55 (S : Sta) (c : Int) (m55 : Int) : Int × Sta := (m55, (M_look S c).2)
def M_turning (S : Sta) (c : Int) (i : Int) : Int × Sta := if (M_noCard S c) = 0 then if (M_in i 0 ((S.1 3) - 1)) = 0 then ((-2), S) else M_turning_m55 S c (if 1000000 ≤ (M_look S c).1 then (-99) else ((M_look S c).2.2 18 i)) else ((-1), S)
set_option maxRecDepth 100000 in
theorem c_M_turning {l : Launch} {K : KK} {N : Int} (q : Nat → Nat) (S : Sta) (c : Int) (i : Int) (hI : InvW N S) (hT : InvT S) (hp2 : ok32 c) (hp3 : ok32 i) : CtI l yX3_turning cX3_turning 3 .int (3, 84) K [.ref (q 0), .int (iI c), .int (iI i)] (wM K q S) (M_turning S c i).1 (wM K q ((M_turning S c i).2)) := by
  refine ctI_of (by decide) (Nat.le_of_ble_eq_true rfl) rfl ?_
  intro x X hD hR
  have hD : ∀ S9 : Sta, va_D (cx_A x) (wM K q S9) := fun S9 => va_D_same hD rfl
  have hs1 := InvM_s1 hI
  have hs2 := InvM_s2 hI
  have hs3 := InvM_s3 hI
  have hs4 := InvM_s4 hI
  refine gx_aload_n X dX3_turning_0 rfl 0 rfl ?_
  refine gx_iconst (z := 0) X dX3_turning_1 rfl ?_
  refine gM_t0 X (hD _) (InvM_t hI) dX3_turning_2 ?_
  refine gx_aload_n X dX3_turning_5 rfl 0 rfl ?_
  refine gx_iload_n X dX3_turning_6 rfl 1 rfl ?_
  refine gx_callVI (As := [.int (iI c)]) (rest := []) X (hD _) lk_M_97 (ci := 3) rfl rfl 0 rfl (c_M_noCard q S c hI (by omega)) jn_all rfl ⟨by decide, by decide⟩ (Nat.le_of_ble_eq_true rfl) dX3_turning_7 ?_
  have hq7_0 := M_noCard_sp S c
  refine gx_if_eq (tgt := 15) X dX3_turning_10 (by decide) (by omega) (fun hc10 => ?_) (fun hc10 => ?_)
  · refine gx_iload_n X dX3_turning_15 rfl 2 rfl ?_
    refine gx_i2l X dX3_turning_16 (by omega) ?_
    refine gx_lconst (v := lI 0) X dX3_turning_17 rfl ?_
    refine gx_aload_n X dX3_turning_18 rfl 0 rfl ?_
    refine gM_g3 (v := (S.1 3)) X rfl dX3_turning_19 ?_
    refine gx_iconst (z := 1) X dX3_turning_22 rfl ?_
    refine gx_isub X dX3_turning_23 ?_
    refine gx_i2l X dX3_turning_24 (by omega) ?_
    refine gx_callSI (As := [.long (lI i), .long (lI 0), .long (lI ((S.1 3) - 1))]) (rest := []) X (hD _) lk_M_88 (c_M_in i 0 ((S.1 3) - 1) (by omega) (by omega) (by omega)) jn_nil rfl ⟨by decide, by decide⟩ (Nat.le_of_ble_eq_true rfl) dX3_turning_25 ?_
    have hq25_0 := M_in_sp i 0 ((S.1 3) - 1)
    refine gx_if_ne (tgt := 34) X dX3_turning_28 (by decide) (by omega) (fun hc28 => ?_) (fun hc28 => ?_)
    · refine gx_aload_n X dX3_turning_34 rfl 0 rfl ?_
      refine gx_iload_n X dX3_turning_35 rfl 1 rfl ?_
      refine gx_callVI (As := [.int (iI c)]) (rest := []) X (hD _) lk_M_175 (ci := 3) rfl rfl 0 rfl (c_M_look q S c hI hT (by omega)) jn_all rfl ⟨by decide, by decide⟩ (Nat.le_of_ble_eq_true rfl) dX3_turning_36 ?_
      have hp36_0 := M_look_rg S c hI hT (by omega)
      refine gx_ldc (z := 1000000) X t_M_161 dX3_turning_39 (by decide) ?_
      have J55 : ∀ (m55 : Int), m55 = (if 1000000 ≤ (M_look S c).1 then (-99) else ((M_look S c).2.2 18 i)) → GG l (rmK (3, 84)) K x (wM K q ((M_look S c).2)) 55 [(0, .ref (q 0)), (1, .int (iI c)), (2, .int (iI i))] [.int (iI m55)] := by
        intro m55 e_m55
        exact gx_iret hR (congrArg Prod.fst ((show M_turning S c i = (m55, (M_look S c).2) from (if_pos hc10).trans ((if_neg hc28).trans (congrArg (fun z0 => M_turning_m55 S c z0) e_m55.symm))))) (ret2 (fun z => (wM K q z)) ((show M_turning S c i = (m55, (M_look S c).2) from (if_pos hc10).trans ((if_neg hc28).trans (congrArg (fun z0 => M_turning_m55 S c z0) e_m55.symm))))) dX3_turning_55
      refine gx_icmp_ge (tgt := 53) X dX3_turning_41 (by decide) (by omega) (fun hc41 => ?_) (fun hc41 => ?_)
      · refine gx_bipush (z := (-99)) X dX3_turning_53 (by decide) ?_
        refine gx_sub [0, 1, 2] rfl ?_
        exact J55 (-99) ((if_pos hc41).symm) 
      · refine gx_aload_n X dX3_turning_44 rfl 0 rfl ?_
        refine gM_r18 X dX3_turning_45 ?_
        refine gx_iload_n X dX3_turning_48 rfl 2 rfl ?_
        refine gM_l18 (v := ((M_look S c).2.2 18 i)) X (by omega) rfl dX3_turning_49 ?_
        refine gx_goto (tgt := 55) X dX3_turning_50 (by decide) ?_
        refine gx_sub [0, 1, 2] rfl ?_
        exact J55 ((M_look S c).2.2 18 i) ((if_neg hc41).symm) 
    · refine gx_bipush (z := (-2)) X dX3_turning_31 (by decide) ?_
      exact gx_iret hR (congrArg Prod.fst ((show M_turning S c i = ((-2), S) from (if_pos hc10).trans (if_pos hc28)))) (ret2 (fun z => (wM K q z)) ((show M_turning S c i = ((-2), S) from (if_pos hc10).trans (if_pos hc28)))) dX3_turning_33
  · refine gx_iconst (z := (-1)) X dX3_turning_13 rfl ?_
    exact gx_iret hR (congrArg Prod.fst ((show M_turning S c i = ((-1), S) from if_neg hc10))) (ret2 (fun z => (wM K q z)) ((show M_turning S c i = ((-1), S) from if_neg hc10))) dX3_turning_14
def M_behind_m37 (S : Sta) (c : Int) (m37 : Int) : Int × Sta := (m37, (M_look S c).2)
def M_behind (S : Sta) (c : Int) : Int × Sta := if (M_noCard S c) = 0 then M_behind_m37 S c (if 1000000 ≤ (M_look S c).1 then (-99) else (((M_look S c).2.1 5) + 100)) else ((-1), S)
set_option maxRecDepth 100000 in
theorem c_M_behind {l : Launch} {K : KK} {N : Int} (q : Nat → Nat) (S : Sta) (c : Int) (hI : InvW N S) (hT : InvT S) (hp2 : ok32 c) : CtI l yX3_behind cX3_behind 2 .int (3, 84) K [.ref (q 0), .int (iI c)] (wM K q S) (M_behind S c).1 (wM K q ((M_behind S c).2)) := by
  refine ctI_of (by decide) (Nat.le_of_ble_eq_true rfl) rfl ?_
  intro x X hD hR
  have hD : ∀ S9 : Sta, va_D (cx_A x) (wM K q S9) := fun S9 => va_D_same hD rfl
  have hs1 := InvM_s1 hI
  have hs2 := InvM_s2 hI
  have hs3 := InvM_s3 hI
  have hs4 := InvM_s4 hI
  refine gx_aload_n X dX3_behind_0 rfl 0 rfl ?_
  refine gx_iconst (z := 0) X dX3_behind_1 rfl ?_
  refine gM_t0 X (hD _) (InvM_t hI) dX3_behind_2 ?_
  refine gx_aload_n X dX3_behind_5 rfl 0 rfl ?_
  refine gx_iload_n X dX3_behind_6 rfl 1 rfl ?_
  refine gx_callVI (As := [.int (iI c)]) (rest := []) X (hD _) lk_M_97 (ci := 3) rfl rfl 0 rfl (c_M_noCard q S c hI (by omega)) jn_all rfl ⟨by decide, by decide⟩ (Nat.le_of_ble_eq_true rfl) dX3_behind_7 ?_
  have hq7_0 := M_noCard_sp S c
  refine gx_if_eq (tgt := 15) X dX3_behind_10 (by decide) (by omega) (fun hc10 => ?_) (fun hc10 => ?_)
  · refine gx_aload_n X dX3_behind_15 rfl 0 rfl ?_
    refine gx_iload_n X dX3_behind_16 rfl 1 rfl ?_
    refine gx_callVI (As := [.int (iI c)]) (rest := []) X (hD _) lk_M_175 (ci := 3) rfl rfl 0 rfl (c_M_look q S c hI hT (by omega)) jn_all rfl ⟨by decide, by decide⟩ (Nat.le_of_ble_eq_true rfl) dX3_behind_17 ?_
    have hp17_0 := M_look_rg S c hI hT (by omega)
    refine gx_ldc (z := 1000000) X t_M_161 dX3_behind_20 (by decide) ?_
    have J37 : ∀ (m37 : Int), m37 = (if 1000000 ≤ (M_look S c).1 then (-99) else (((M_look S c).2.1 5) + 100)) → GG l (rmK (3, 84)) K x (wM K q ((M_look S c).2)) 37 [(0, .ref (q 0)), (1, .int (iI c))] [.int (iI m37)] := by
      intro m37 e_m37
      exact gx_iret hR (congrArg Prod.fst ((show M_behind S c = (m37, (M_look S c).2) from (if_pos hc10).trans (congrArg (fun z0 => M_behind_m37 S c z0) e_m37.symm)))) (ret2 (fun z => (wM K q z)) ((show M_behind S c = (m37, (M_look S c).2) from (if_pos hc10).trans (congrArg (fun z0 => M_behind_m37 S c z0) e_m37.symm)))) dX3_behind_37
    refine gx_icmp_ge (tgt := 35) X dX3_behind_22 (by decide) (by omega) (fun hc22 => ?_) (fun hc22 => ?_)
    · refine gx_bipush (z := (-99)) X dX3_behind_35 (by decide) ?_
      refine gx_sub [0, 1] rfl ?_
      exact J37 (-99) ((if_pos hc22).symm) 
    · refine gx_aload_n X dX3_behind_25 rfl 0 rfl ?_
      refine gM_g5 (v := ((M_look S c).2.1 5)) X rfl dX3_behind_26 ?_
      refine gx_bipush (z := 100) X dX3_behind_29 (by decide) ?_
      refine gx_iadd X dX3_behind_31 ?_
      refine gx_goto (tgt := 37) X dX3_behind_32 (by decide) ?_
      refine gx_sub [0, 1] rfl ?_
      exact J37 (((M_look S c).2.1 5) + 100) ((if_neg hc22).symm) 
  · refine gx_iconst (z := (-1)) X dX3_behind_13 rfl ?_
    exact gx_iret hR (congrArg Prod.fst ((show M_behind S c = ((-1), S) from if_neg hc10))) (ret2 (fun z => (wM K q z)) ((show M_behind S c = ((-1), S) from if_neg hc10))) dX3_behind_14
end
section
/-! BASE 2: signed remainder, array length, copies within an array, one cell of a world -/
def zi_rem (a b : Int) : Int := if 0 ≤ a then a % b else -((-a) % b)
theorem iI_remT {a b : Int} (ha : -2147483647 ≤ a ∧ a ≤ 2147483647) (hb : 0 < b ∧ b ≤ 2147483647) : iI a - iI a / iI b * iI b = iI (zi_rem a b) := by
  unfold zi_rem
  by_cases h : 0 ≤ a
  · rw [if_pos h]
    exact iI_rem h ha.2 hb.1 hb.2
  · rw [if_neg h]
    have hd : iI a / iI b = iI (-((-a) / b)) := by
      apply Int32.toInt_inj.mp
      have h1 : (-a) / b ≤ -a := Int.ediv_le_self b (by omega)
      have h2 : 0 ≤ (-a) / b := Int.ediv_nonneg (by omega) (by omega)
      rw [Int32.toInt_div_of_ne_left, iI_toInt ⟨by omega, by omega⟩, iI_toInt ⟨by omega, by omega⟩, iI_toInt ⟨by omega, by omega⟩]
      · have h3 : a.tdiv b = -((-a).tdiv b) := by rw [Int.neg_tdiv, Int.neg_neg]
        rw [h3, Int.tdiv_eq_ediv_of_nonneg (by omega)]
      · intro h4
        have h5 := congrArg Int32.toInt h4
        rw [iI_toInt ⟨by omega, by omega⟩] at h5
        have h6 : Int32.minValue.toInt = -2147483648 := by decide
        omega
    rw [hd, iI_mul, iI_sub]
    congr 1
    have h7 := Int.emod_add_mul_ediv (-a) b
    have h8 : -((-a) / b) * b = -(b * ((-a) / b)) := by rw [Int.neg_mul, Int.mul_comm]
    omega
def icpy (g : Int → Int) (sp dp n : Int) : Int → Int := fun k => if dp ≤ k ∧ k < dp + n then g (sp + (k - dp)) else g k
theorem ia_cpy (g : Int → Int) (sp dp n : Nat) : va_cpy (ia g) (ia g) sp dp n = ia (icpy g sp dp n) := by
  funext k
  unfold va_cpy ia icpy
  by_cases h : dp ≤ k ∧ k < dp + n
  · rw [if_pos h, if_pos ⟨by omega, by omega⟩]
    congr 2
    omega
  · rw [if_neg h, if_neg (fun q => h ⟨by omega, by omega⟩)]
section GG2
variable {l : Launch} {R : Room} {K : KK} {x : Cx} {cc : ByteArray} {nL : Nat} {own : String} {ws : va_W} {pc : Nat} {lv : List (Nat × Value)} {st : List Value}
theorem gx_iremT (X : OK l R K x cc nL own) {a b : Int} (hdg : decode cc pc = .ok (.irem, 1)) (h : (-2147483647 ≤ a ∧ a ≤ 2147483647) ∧ (0 < b ∧ b ≤ 2147483647)) (kk : GG l R K x ws (pc + 1) lv (.int (iI (zi_rem a b)) :: st)) : GG l R K x ws pc lv (.int (iI b) :: .int (iI a) :: st) := by
  intro H locs ls hP hS hl
  exact lv_irem X.1.1.1 X.1.1.2.1 hdg (iI_ne0 h.2.1 h.2.2) (by rw [iI_remT h.1 h.2]; exact kk H locs ls hP hS hl)
theorem gx_alen (X : OK l R K x cc nL own) {a n : Nat} {g : Int → Int} (q0 : Nat) (ha : ws[q0]? = some (a, zA K n g)) (hdg : decode cc pc = .ok (.arraylength, 1)) (kk : GG l R K x ws (pc + 1) lv (.int (iI (n : Int)) :: st)) : GG l R K x ws pc lv (.ref a :: st) := by
  intro H locs ls hP hS hl
  refine va_alen X.1.1.1 X.1.1.2.1 X.1.2 hP q0 0 ha rfl (v := iI (n : Int)) ?_ hdg (kk H locs ls hP hS hl)
  show Int32.ofNat n = Int32.ofInt n
  rfl
theorem gx_alenL (X : OK l R K x cc nL own) {a n : Nat} {g : Int → Int64} (q0 : Nat) (ha : ws[q0]? = some (a, zL K n g)) (hdg : decode cc pc = .ok (.arraylength, 1)) (kk : GG l R K x ws (pc + 1) lv (.int (iI (n : Int)) :: st)) : GG l R K x ws pc lv (.ref a :: st) := by
  intro H locs ls hP hS hl
  refine va_alen X.1.1.1 X.1.1.2.1 X.1.2 hP q0 1 ha rfl (v := iI (n : Int)) ?_ hdg (kk H locs ls hP hS hl)
  show Int32.ofNat n = Int32.ofInt n
  rfl
theorem gx_copy (X : OK l R K x cc nL own) (hD : va_D (cx_A x) ws) {a n i : Nat} {g : Int → Int} (sp dp m : Nat) {zs zd zm : Int} (es : zs = sp) (ed : zd = dp) (em : zm = m) (q0 : Nat) (ha : ws[q0]? = some (a, zA K n g)) (h4 : sp + m ≤ n ∧ dp + m ≤ n ∧ n < 2147483648) (hlink : Cond.methodLink own i arraycopyName ∈ TT) (hnat : Cond.native arraycopyName ∈ TT) (hstat : Cond.static arraycopyName ∈ TT) (hini : Cond.initialized "java/lang/System" ∈ TT) (hR : 1 ≤ R.frames ∧ (st.map fun v => v.category).sum + (nativeFrameWords "java/lang/System" "arraycopy" 5 + 11) ≤ R.locals) {ws' : va_W} (hset : ws.set q0 (a, zA K n (icpy g sp dp m)) = ws') (hdg : decode cc pc = .ok (.invokestatic i, 3)) (kk : GG l R K x ws' (pc + 3) lv st) : GG l R K x ws pc lv (.int (iI zm) :: .int (iI zd) :: .ref a :: .int (iI zs) :: .ref a :: st) := by
  subst es; subst ed; subst em; subst hset
  intro H locs ls hP hS hl
  have c1 : (iI (sp : Int)).toNatClampNeg = sp := by rw [iI_clamp ⟨by omega, by omega⟩]; omega
  have c2 : (iI (dp : Int)).toNatClampNeg = dp := by rw [iI_clamp ⟨by omega, by omega⟩]; omega
  have c3 : (iI (m : Int)).toNatClampNeg = m := by rw [iI_clamp ⟨by omega, by omega⟩]; omega
  have nn : ∀ k : Nat, k < 2147483648 → ¬ iI (k : Int) < 0 := fun k hk => by rw [← iI_z, iI_lt ⟨by omega, by omega⟩ ok_z]; omega
  refine va_copyi (ty := .int) X.1.1.1 X.1.1.2.1 (by rw [hl.1]) X.1.1.2.2.2.1 (X.1.1.2.2.2.2 _ hlink) (X.1.1.2.2.2.2 _ hnat) (X.1.1.2.2.2.2 _ hstat) (X.1.1.2.2.2.2 _ hini) X.1.2 hP hD hS q0 q0 0 0 ha ha rfl rfl rfl (nn sp (by omega)) (nn dp (by omega)) (nn m (by omega)) (by rw [c1, c3]; exact h4.1) (by rw [c2, c3]; exact h4.2.1) (fun _ _ => rfl) hR.1 hR.2 hdg (fun H1 locs1 hP1 _ hS1 => ?_)
  rw [c1, c2, c3, ia_cpy] at hP1
  exact kk H1 locs1 ls hP1 hS1 hl
end GG2
theorem jn_cell {A : Nat → Prop} {ws : va_W} {i : Nat} {a : Nat} {e e' : va_E} (hi : ws[i]? = some (a, e)) (hD : va_D A ws) : Jn ws [(a, e)] [(a, e')] (ws.set i (a, e')) := by
  have hl := (List.getElem?_eq_some_iff.mp hi).1
  refine ⟨fun q h => ?_, fun q h => ?_, fun A' _ => ?_⟩
  · rw [List.mem_singleton.mp h]
    exact List.mem_of_getElem? hi
  · obtain ⟨k, hk⟩ := List.getElem?_of_mem h
    by_cases e1 : k = i
    · subst e1
      rw [List.getElem?_set_self hl] at hk
      left
      rw [← Option.some.inj hk]
      exact List.mem_singleton.mpr rfl
    · rw [List.getElem?_set_ne (Ne.symm e1)] at hk
      right
      refine ⟨List.mem_of_getElem? hk, fun h2 => e1 (hD.1 k i q (a, e) hk hi ?_)⟩
      simpa using h2
  · refine ⟨fun i j p q h1 h2 _ => ?_, fun k q h => trivial⟩
    have a1 := (List.getElem?_eq_some_iff.mp h1).1
    have a2 := (List.getElem?_eq_some_iff.mp h2).1
    simp at a1 a2
    omega
/-- a whole array of a state is another one -/
def mW (S : Sta) (k : Nat) (g : Int → Int) : Sta := (S.1, fun i => if i = k then g else S.2 i)
end
section
theorem ctI_ofF {l : Launch} {y : MethodName} {b : ByteArray} {mL : Nat} {rt : FieldType} {z : Int} {k : Nat × Nat} {K : KK} {av : List Value} {ws ws' : va_W} (hy : plainFor y = true) (hlen : (lg_sl av).length ≤ mL) (hn9 : narrow rt (.int (iI z)) = .int (iI z))
    (body : ∀ x : Cx, OK l (rmK k) K x b mL y.cls → va_D (cx_A x) ws → ReI l (rmK k) K x b z ws' → GG l (rmK k) K x ws 0 (lv_args 0 av) []) : CtI l y b mL rt k K av ws z ws' := by
  intro sz
  refine va_MetF (cc := b) (maxL := mL) (ret := some rt) hy rfl ?_
  intro p e s m args below meth c s₁ B hml hv
  obtain ⟨rfl, hsz, hP, hK, hD0⟩ := hv
  have hlocks := B.notSynchronized
  have hts0 := atoms_spec (ws := .code y b mL (some rt) :: TT) B.pre
  have hts : ∀ w ∈ TT, w.before av.toArray s = true := fun w hw => hts0 w (List.mem_cons_of_mem _ hw)
  have hown : s.vm.findClass y.cls = some m.cls := findClass_of_methodNamed B.named
  have hr := B.returns
  subst hsz
  rw [lg_entry_eq]
  refine body (p, e, s, m, av.toArray, below, meth, c, MQ below _ av.toArray s 0 0 (va_A ws s.heap.size), va_A ws s.heap.size, 0, 0) ⟨⟨⟨B.exec, B.bytes, hml, hown, hts⟩, hK⟩, fun q h => Or.inr h, Nat.zero_le _, Nat.zero_le _, rfl⟩ hD0.self ?_ s.heap [] _ hP va_S.rf (by rw [show (cx_c (p, e, s, m, av.toArray, below, meth, c, _, _, _, _)).maxLocals = mL from hml]; exact lv_entry av hlen)
  intro H locs ls pc hP9 hS9 hdg
  exact W.zret B.exec B.bytes hr hn9 (fun t ht hW => ⟨⟨iI z, (), rfl, rfl, by show va_P _ _ _ t.heap; rw [ht]; exact hP9⟩, hS9.F ht⟩) hS9.2.2 hdg
theorem ctV_ofF {l : Launch} {y : MethodName} {b : ByteArray} {mL : Nat}  {k : Nat × Nat} {K : KK} {av : List Value} {ws ws' : va_W} (hy : plainFor y = true) (hlen : (lg_sl av).length ≤ mL) 
    (body : ∀ x : Cx, OK l (rmK k) K x b mL y.cls → va_D (cx_A x) ws → ReV l (rmK k) K x b ws' → GG l (rmK k) K x ws 0 (lv_args 0 av) []) : CtV l y b mL k K av ws ws' := by
  intro sz
  refine va_MetF (cc := b) (maxL := mL) (ret := none) hy rfl ?_
  intro p e s m args below meth c s₁ B hml hv
  obtain ⟨rfl, hsz, hP, hK, hD0⟩ := hv
  have hlocks := B.notSynchronized
  have hts0 := atoms_spec (ws := .code y b mL (none) :: TT) B.pre
  have hts : ∀ w ∈ TT, w.before av.toArray s = true := fun w hw => hts0 w (List.mem_cons_of_mem _ hw)
  have hown : s.vm.findClass y.cls = some m.cls := findClass_of_methodNamed B.named
  have hr := B.returns
  subst hsz
  rw [lg_entry_eq]
  refine body (p, e, s, m, av.toArray, below, meth, c, MQ below _ av.toArray s 0 0 (va_A ws s.heap.size), va_A ws s.heap.size, 0, 0) ⟨⟨⟨B.exec, B.bytes, hml, hown, hts⟩, hK⟩, fun q h => Or.inr h, Nat.zero_le _, Nat.zero_le _, rfl⟩ hD0.self ?_ s.heap [] _ hP va_S.rf (by rw [show (cx_c (p, e, s, m, av.toArray, below, meth, c, _, _, _, _)).maxLocals = mL from hml]; exact lv_entry av hlen)
  intro H locs ls pc hP9 hS9 hdg
  exact W.vret B.exec B.bytes hr (fun t ht hW => ⟨⟨(), rfl, trivial, by show va_P _ _ _ t.heap; rw [ht]; exact hP9⟩, hS9.F ht⟩) hS9.2.2 hdg
theorem ctL_ofF {l : Launch} {y : MethodName} {b : ByteArray} {mL : Nat} {z : Int64} {k : Nat × Nat} {K : KK} {av : List Value} {ws ws' : va_W} (hy : plainFor y = true) (hlen : (lg_sl av).length ≤ mL) 
    (body : ∀ x : Cx, OK l (rmK k) K x b mL y.cls → va_D (cx_A x) ws → ReL l (rmK k) K x b z ws' → GG l (rmK k) K x ws 0 (lv_args 0 av) []) : CtL l y b mL k K av ws z ws' := by
  intro sz
  refine va_MetF (cc := b) (maxL := mL) (ret := some .long) hy rfl ?_
  intro p e s m args below meth c s₁ B hml hv
  obtain ⟨rfl, hsz, hP, hK, hD0⟩ := hv
  have hlocks := B.notSynchronized
  have hts0 := atoms_spec (ws := .code y b mL (some .long) :: TT) B.pre
  have hts : ∀ w ∈ TT, w.before av.toArray s = true := fun w hw => hts0 w (List.mem_cons_of_mem _ hw)
  have hown : s.vm.findClass y.cls = some m.cls := findClass_of_methodNamed B.named
  have hr := B.returns
  subst hsz
  rw [lg_entry_eq]
  refine body (p, e, s, m, av.toArray, below, meth, c, MQ below _ av.toArray s 0 0 (va_A ws s.heap.size), va_A ws s.heap.size, 0, 0) ⟨⟨⟨B.exec, B.bytes, hml, hown, hts⟩, hK⟩, fun q h => Or.inr h, Nat.zero_le _, Nat.zero_le _, rfl⟩ hD0.self ?_ s.heap [] _ hP va_S.rf (by rw [show (cx_c (p, e, s, m, av.toArray, below, meth, c, _, _, _, _)).maxLocals = mL from hml]; exact lv_entry av hlen)
  intro H locs ls pc hP9 hS9 hdg
  exact W.lret B.exec B.bytes hr (fun t ht hW => ⟨⟨z, (), rfl, rfl, by show va_P _ _ _ t.heap; rw [ht]; exact hP9⟩, hS9.F ht⟩) hS9.2.2 hdg
end
section
theorem dX0_init_0 : decode cX0_init 0 = .ok (.aload_n 0, 1) := by decide +kernel
theorem dX0_init_1 : decode cX0_init 1 = .ok (.invokespecial 3, 3) := by decide +kernel
theorem dX0_init_4 : decode cX0_init 4 = .ok (.aload_n 0, 1) := by decide +kernel
theorem dX0_init_5 : decode cX0_init 5 = .ok (.iconst 4, 1) := by decide +kernel
theorem dX0_init_6 : decode cX0_init 6 = .ok (.newarray .int, 2) := by decide +kernel
theorem dX0_init_8 : decode cX0_init 8 = .ok (.putfield 9, 3) := by decide +kernel
theorem dX0_init_11 : decode cX0_init 11 = .ok (.aload_n 0, 1) := by decide +kernel
theorem dX0_init_12 : decode cX0_init 12 = .ok (.iconst 4, 1) := by decide +kernel
theorem dX0_init_13 : decode cX0_init 13 = .ok (.newarray .int, 2) := by decide +kernel
theorem dX0_init_15 : decode cX0_init 15 = .ok (.putfield 15, 3) := by decide +kernel
theorem dX0_init_18 : decode cX0_init 18 = .ok (.aload_n 0, 1) := by decide +kernel
theorem dX0_init_19 : decode cX0_init 19 = .ok (.bipush 60, 2) := by decide +kernel
theorem dX0_init_21 : decode cX0_init 21 = .ok (.newarray .int, 2) := by decide +kernel
theorem dX0_init_23 : decode cX0_init 23 = .ok (.putfield 18, 3) := by decide +kernel
theorem dX0_init_26 : decode cX0_init 26 = .ok (.aload_n 0, 1) := by decide +kernel
theorem dX0_init_27 : decode cX0_init 27 = .ok (.bipush 60, 2) := by decide +kernel
theorem dX0_init_29 : decode cX0_init 29 = .ok (.newarray .int, 2) := by decide +kernel
theorem dX0_init_31 : decode cX0_init 31 = .ok (.putfield 21, 3) := by decide +kernel
theorem dX0_init_34 : decode cX0_init 34 = .ok (.aload_n 0, 1) := by decide +kernel
theorem dX0_init_35 : decode cX0_init 35 = .ok (.bipush 60, 2) := by decide +kernel
theorem dX0_init_37 : decode cX0_init 37 = .ok (.newarray .int, 2) := by decide +kernel
theorem dX0_init_39 : decode cX0_init 39 = .ok (.putfield 24, 3) := by decide +kernel
theorem dX0_init_42 : decode cX0_init 42 = .ok (.aload_n 0, 1) := by decide +kernel
theorem dX0_init_43 : decode cX0_init 43 = .ok (.bipush 60, 2) := by decide +kernel
theorem dX0_init_45 : decode cX0_init 45 = .ok (.newarray .int, 2) := by decide +kernel
theorem dX0_init_47 : decode cX0_init 47 = .ok (.putfield 27, 3) := by decide +kernel
theorem dX0_init_50 : decode cX0_init 50 = .ok (.aload_n 0, 1) := by decide +kernel
theorem dX0_init_51 : decode cX0_init 51 = .ok (.bipush 30, 2) := by decide +kernel
theorem dX0_init_53 : decode cX0_init 53 = .ok (.newarray .int, 2) := by decide +kernel
theorem dX0_init_55 : decode cX0_init 55 = .ok (.putfield 30, 3) := by decide +kernel
theorem dX0_init_58 : decode cX0_init 58 = .ok (.aload_n 0, 1) := by decide +kernel
theorem dX0_init_59 : decode cX0_init 59 = .ok (.bipush 30, 2) := by decide +kernel
theorem dX0_init_61 : decode cX0_init 61 = .ok (.newarray .int, 2) := by decide +kernel
theorem dX0_init_63 : decode cX0_init 63 = .ok (.putfield 33, 3) := by decide +kernel
theorem dX0_init_66 : decode cX0_init 66 = .ok (.return_, 1) := by decide +kernel
theorem dX0_reset_0 : decode cX0_reset 0 = .ok (.iconst 0, 1) := by decide +kernel
theorem dX0_reset_1 : decode cX0_reset 1 = .ok (.istore_n 1, 1) := by decide +kernel
theorem dX0_reset_2 : decode cX0_reset 2 = .ok (.iload_n 1, 1) := by decide +kernel
theorem dX0_reset_3 : decode cX0_reset 3 = .ok (.iconst 4, 1) := by decide +kernel
theorem dX0_reset_4 : decode cX0_reset 4 = .ok (.if_icmp .ge 23, 3) := by decide +kernel
theorem dX0_reset_7 : decode cX0_reset 7 = .ok (.aload_n 0, 1) := by decide +kernel
theorem dX0_reset_8 : decode cX0_reset 8 = .ok (.getfield 9, 3) := by decide +kernel
theorem dX0_reset_11 : decode cX0_reset 11 = .ok (.iload_n 1, 1) := by decide +kernel
theorem dX0_reset_12 : decode cX0_reset 12 = .ok (.iload_n 1, 1) := by decide +kernel
theorem dX0_reset_13 : decode cX0_reset 13 = .ok (.iastore, 1) := by decide +kernel
theorem dX0_reset_14 : decode cX0_reset 14 = .ok (.aload_n 0, 1) := by decide +kernel
theorem dX0_reset_15 : decode cX0_reset 15 = .ok (.getfield 15, 3) := by decide +kernel
theorem dX0_reset_18 : decode cX0_reset 18 = .ok (.iload_n 1, 1) := by decide +kernel
theorem dX0_reset_19 : decode cX0_reset 19 = .ok (.iload_n 1, 1) := by decide +kernel
theorem dX0_reset_20 : decode cX0_reset 20 = .ok (.iastore, 1) := by decide +kernel
theorem dX0_reset_21 : decode cX0_reset 21 = .ok (.iinc 1 1, 3) := by decide +kernel
theorem dX0_reset_24 : decode cX0_reset 24 = .ok (.goto (-22), 3) := by decide +kernel
theorem dX0_reset_27 : decode cX0_reset 27 = .ok (.aload_n 0, 1) := by decide +kernel
theorem dX0_reset_28 : decode cX0_reset 28 = .ok (.getfield 30, 3) := by decide +kernel
theorem dX0_reset_31 : decode cX0_reset 31 = .ok (.bipush (-99), 2) := by decide +kernel
theorem dX0_reset_33 : decode cX0_reset 33 = .ok (.invokestatic 36, 3) := by decide +kernel
theorem dX0_reset_36 : decode cX0_reset 36 = .ok (.aload_n 0, 1) := by decide +kernel
theorem dX0_reset_37 : decode cX0_reset 37 = .ok (.iconst 0, 1) := by decide +kernel
theorem dX0_reset_38 : decode cX0_reset 38 = .ok (.putfield 42, 3) := by decide +kernel
theorem dX0_reset_41 : decode cX0_reset 41 = .ok (.aload_n 0, 1) := by decide +kernel
theorem dX0_reset_42 : decode cX0_reset 42 = .ok (.iconst 0, 1) := by decide +kernel
theorem dX0_reset_43 : decode cX0_reset 43 = .ok (.putfield 46, 3) := by decide +kernel
theorem dX0_reset_46 : decode cX0_reset 46 = .ok (.aload_n 0, 1) := by decide +kernel
theorem dX0_reset_47 : decode cX0_reset 47 = .ok (.iconst 0, 1) := by decide +kernel
theorem dX0_reset_48 : decode cX0_reset 48 = .ok (.putfield 49, 3) := by decide +kernel
theorem dX0_reset_51 : decode cX0_reset 51 = .ok (.aload_n 0, 1) := by decide +kernel
theorem dX0_reset_52 : decode cX0_reset 52 = .ok (.iconst 0, 1) := by decide +kernel
theorem dX0_reset_53 : decode cX0_reset 53 = .ok (.putfield 52, 3) := by decide +kernel
theorem dX0_reset_56 : decode cX0_reset 56 = .ok (.aload_n 0, 1) := by decide +kernel
theorem dX0_reset_57 : decode cX0_reset 57 = .ok (.iconst 0, 1) := by decide +kernel
theorem dX0_reset_58 : decode cX0_reset 58 = .ok (.putfield 55, 3) := by decide +kernel
theorem dX0_reset_61 : decode cX0_reset 61 = .ok (.return_, 1) := by decide +kernel
theorem dX0_sense_0 : decode cX0_sense 0 = .ok (.aload_n 0, 1) := by decide +kernel
theorem dX0_sense_1 : decode cX0_sense 1 = .ok (.getfield 42, 3) := by decide +kernel
theorem dX0_sense_4 : decode cX0_sense 4 = .ok (.ifCond .ne 7, 3) := by decide +kernel
theorem dX0_sense_7 : decode cX0_sense 7 = .ok (.iconst 1, 1) := by decide +kernel
theorem dX0_sense_8 : decode cX0_sense 8 = .ok (.goto 4, 3) := by decide +kernel
theorem dX0_sense_11 : decode cX0_sense 11 = .ok (.iconst (-1), 1) := by decide +kernel
theorem dX0_sense_12 : decode cX0_sense 12 = .ok (.ireturn, 1) := by decide +kernel
theorem dX0_twistOf_0 : decode cX0_twistOf 0 = .ok (.iload_n 1, 1) := by decide +kernel
theorem dX0_twistOf_1 : decode cX0_twistOf 1 = .ok (.iconst 2, 1) := by decide +kernel
theorem dX0_twistOf_2 : decode cX0_twistOf 2 = .ok (.if_icmp .ne 5, 3) := by decide +kernel
theorem dX0_twistOf_5 : decode cX0_twistOf 5 = .ok (.iconst 0, 1) := by decide +kernel
theorem dX0_twistOf_6 : decode cX0_twistOf 6 = .ok (.ireturn, 1) := by decide +kernel
theorem dX0_twistOf_7 : decode cX0_twistOf 7 = .ok (.iload_n 1, 1) := by decide +kernel
theorem dX0_twistOf_8 : decode cX0_twistOf 8 = .ok (.ifCond .ne 10, 3) := by decide +kernel
theorem dX0_twistOf_11 : decode cX0_twistOf 11 = .ok (.aload_n 0, 1) := by decide +kernel
theorem dX0_twistOf_12 : decode cX0_twistOf 12 = .ok (.invokevirtual 59, 3) := by decide +kernel
theorem dX0_twistOf_15 : decode cX0_twistOf 15 = .ok (.goto 8, 3) := by decide +kernel
theorem dX0_twistOf_18 : decode cX0_twistOf 18 = .ok (.aload_n 0, 1) := by decide +kernel
theorem dX0_twistOf_19 : decode cX0_twistOf 19 = .ok (.invokevirtual 59, 3) := by decide +kernel
theorem dX0_twistOf_22 : decode cX0_twistOf 22 = .ok (.ineg, 1) := by decide +kernel
theorem dX0_twistOf_23 : decode cX0_twistOf 23 = .ok (.ireturn, 1) := by decide +kernel
theorem dX0_turnOver_0 : decode cX0_turnOver 0 = .ok (.aload_n 0, 1) := by decide +kernel
theorem dX0_turnOver_1 : decode cX0_turnOver 1 = .ok (.iconst 0, 1) := by decide +kernel
theorem dX0_turnOver_2 : decode cX0_turnOver 2 = .ok (.iconst 1, 1) := by decide +kernel
theorem dX0_turnOver_3 : decode cX0_turnOver 3 = .ok (.invokevirtual 63, 3) := by decide +kernel
theorem dX0_turnOver_6 : decode cX0_turnOver 6 = .ok (.aload_n 0, 1) := by decide +kernel
theorem dX0_turnOver_7 : decode cX0_turnOver 7 = .ok (.iconst 2, 1) := by decide +kernel
theorem dX0_turnOver_8 : decode cX0_turnOver 8 = .ok (.iconst 3, 1) := by decide +kernel
theorem dX0_turnOver_9 : decode cX0_turnOver 9 = .ok (.invokevirtual 63, 3) := by decide +kernel
theorem dX0_turnOver_12 : decode cX0_turnOver 12 = .ok (.aload_n 0, 1) := by decide +kernel
theorem dX0_turnOver_13 : decode cX0_turnOver 13 = .ok (.iconst 1, 1) := by decide +kernel
theorem dX0_turnOver_14 : decode cX0_turnOver 14 = .ok (.aload_n 0, 1) := by decide +kernel
theorem dX0_turnOver_15 : decode cX0_turnOver 15 = .ok (.getfield 42, 3) := by decide +kernel
theorem dX0_turnOver_18 : decode cX0_turnOver 18 = .ok (.isub, 1) := by decide +kernel
theorem dX0_turnOver_19 : decode cX0_turnOver 19 = .ok (.putfield 42, 3) := by decide +kernel
theorem dX0_turnOver_22 : decode cX0_turnOver 22 = .ok (.aload_n 0, 1) := by decide +kernel
theorem dX0_turnOver_23 : decode cX0_turnOver 23 = .ok (.iconst 0, 1) := by decide +kernel
theorem dX0_turnOver_24 : decode cX0_turnOver 24 = .ok (.putfield 55, 3) := by decide +kernel
theorem dX0_turnOver_27 : decode cX0_turnOver 27 = .ok (.return_, 1) := by decide +kernel
theorem dX0_exchange_0 : decode cX0_exchange 0 = .ok (.aload_n 0, 1) := by decide +kernel
theorem dX0_exchange_1 : decode cX0_exchange 1 = .ok (.getfield 9, 3) := by decide +kernel
theorem dX0_exchange_4 : decode cX0_exchange 4 = .ok (.iload_n 1, 1) := by decide +kernel
theorem dX0_exchange_5 : decode cX0_exchange 5 = .ok (.iaload, 1) := by decide +kernel
theorem dX0_exchange_6 : decode cX0_exchange 6 = .ok (.istore_n 3, 1) := by decide +kernel
theorem dX0_exchange_7 : decode cX0_exchange 7 = .ok (.aload_n 0, 1) := by decide +kernel
theorem dX0_exchange_8 : decode cX0_exchange 8 = .ok (.getfield 9, 3) := by decide +kernel
theorem dX0_exchange_11 : decode cX0_exchange 11 = .ok (.iload_n 1, 1) := by decide +kernel
theorem dX0_exchange_12 : decode cX0_exchange 12 = .ok (.aload_n 0, 1) := by decide +kernel
theorem dX0_exchange_13 : decode cX0_exchange 13 = .ok (.getfield 9, 3) := by decide +kernel
theorem dX0_exchange_16 : decode cX0_exchange 16 = .ok (.iload_n 2, 1) := by decide +kernel
theorem dX0_exchange_17 : decode cX0_exchange 17 = .ok (.iaload, 1) := by decide +kernel
theorem dX0_exchange_18 : decode cX0_exchange 18 = .ok (.iastore, 1) := by decide +kernel
theorem dX0_exchange_19 : decode cX0_exchange 19 = .ok (.aload_n 0, 1) := by decide +kernel
theorem dX0_exchange_20 : decode cX0_exchange 20 = .ok (.getfield 9, 3) := by decide +kernel
theorem dX0_exchange_23 : decode cX0_exchange 23 = .ok (.iload_n 2, 1) := by decide +kernel
theorem dX0_exchange_24 : decode cX0_exchange 24 = .ok (.iload_n 3, 1) := by decide +kernel
theorem dX0_exchange_25 : decode cX0_exchange 25 = .ok (.iastore, 1) := by decide +kernel
theorem dX0_exchange_26 : decode cX0_exchange 26 = .ok (.return_, 1) := by decide +kernel
theorem dX0_turnIn_0 : decode cX0_turnIn 0 = .ok (.aload_n 0, 1) := by decide +kernel
theorem dX0_turnIn_1 : decode cX0_turnIn 1 = .ok (.getfield 27, 3) := by decide +kernel
theorem dX0_turnIn_4 : decode cX0_turnIn 4 = .ok (.iload_n 1, 1) := by decide +kernel
theorem dX0_turnIn_5 : decode cX0_turnIn 5 = .ok (.aload_n 0, 1) := by decide +kernel
theorem dX0_turnIn_6 : decode cX0_turnIn 6 = .ok (.getfield 52, 3) := by decide +kernel
theorem dX0_turnIn_9 : decode cX0_turnIn 9 = .ok (.iastore, 1) := by decide +kernel
theorem dX0_turnIn_10 : decode cX0_turnIn 10 = .ok (.aload_n 0, 1) := by decide +kernel
theorem dX0_turnIn_11 : decode cX0_turnIn 11 = .ok (.getfield 18, 3) := by decide +kernel
theorem dX0_turnIn_14 : decode cX0_turnIn 14 = .ok (.iload_n 1, 1) := by decide +kernel
theorem dX0_turnIn_15 : decode cX0_turnIn 15 = .ok (.iload_n 2, 1) := by decide +kernel
theorem dX0_turnIn_16 : decode cX0_turnIn 16 = .ok (.iastore, 1) := by decide +kernel
theorem dX0_turnIn_17 : decode cX0_turnIn 17 = .ok (.aload_n 0, 1) := by decide +kernel
theorem dX0_turnIn_18 : decode cX0_turnIn 18 = .ok (.getfield 24, 3) := by decide +kernel
theorem dX0_turnIn_21 : decode cX0_turnIn 21 = .ok (.iload_n 1, 1) := by decide +kernel
theorem dX0_turnIn_22 : decode cX0_turnIn 22 = .ok (.aload_n 0, 1) := by decide +kernel
theorem dX0_turnIn_23 : decode cX0_turnIn 23 = .ok (.iload_n 1, 1) := by decide +kernel
theorem dX0_turnIn_24 : decode cX0_turnIn 24 = .ok (.iload_n 2, 1) := by decide +kernel
theorem dX0_turnIn_25 : decode cX0_turnIn 25 = .ok (.invokevirtual 67, 3) := by decide +kernel
theorem dX0_turnIn_28 : decode cX0_turnIn 28 = .ok (.iastore, 1) := by decide +kernel
theorem dX0_turnIn_29 : decode cX0_turnIn 29 = .ok (.aload_n 0, 1) := by decide +kernel
theorem dX0_turnIn_30 : decode cX0_turnIn 30 = .ok (.iload_n 2, 1) := by decide +kernel
theorem dX0_turnIn_31 : decode cX0_turnIn 31 = .ok (.invokevirtual 71, 3) := by decide +kernel
theorem dX0_turnIn_34 : decode cX0_turnIn 34 = .ok (.aload_n 0, 1) := by decide +kernel
theorem dX0_turnIn_35 : decode cX0_turnIn 35 = .ok (.getfield 21, 3) := by decide +kernel
theorem dX0_turnIn_38 : decode cX0_turnIn 38 = .ok (.iload_n 1, 1) := by decide +kernel
theorem dX0_turnIn_39 : decode cX0_turnIn 39 = .ok (.iload_n 2, 1) := by decide +kernel
theorem dX0_turnIn_40 : decode cX0_turnIn 40 = .ok (.iconst 2, 1) := by decide +kernel
theorem dX0_turnIn_41 : decode cX0_turnIn 41 = .ok (.if_icmp .ne 11, 3) := by decide +kernel
theorem dX0_turnIn_44 : decode cX0_turnIn 44 = .ok (.aload_n 0, 1) := by decide +kernel
theorem dX0_turnIn_45 : decode cX0_turnIn 45 = .ok (.iload_n 1, 1) := by decide +kernel
theorem dX0_turnIn_46 : decode cX0_turnIn 46 = .ok (.invokevirtual 75, 3) := by decide +kernel
theorem dX0_turnIn_49 : decode cX0_turnIn 49 = .ok (.goto 9, 3) := by decide +kernel
theorem dX0_turnIn_52 : decode cX0_turnIn 52 = .ok (.aload_n 0, 1) := by decide +kernel
theorem dX0_turnIn_53 : decode cX0_turnIn 53 = .ok (.getfield 9, 3) := by decide +kernel
theorem dX0_turnIn_56 : decode cX0_turnIn 56 = .ok (.iload_n 2, 1) := by decide +kernel
theorem dX0_turnIn_57 : decode cX0_turnIn 57 = .ok (.iaload, 1) := by decide +kernel
theorem dX0_turnIn_58 : decode cX0_turnIn 58 = .ok (.iastore, 1) := by decide +kernel
theorem dX0_turnIn_59 : decode cX0_turnIn 59 = .ok (.return_, 1) := by decide +kernel
theorem dX0_takeBack_0 : decode cX0_takeBack 0 = .ok (.aload_n 0, 1) := by decide +kernel
theorem dX0_takeBack_1 : decode cX0_takeBack 1 = .ok (.getfield 52, 3) := by decide +kernel
theorem dX0_takeBack_4 : decode cX0_takeBack 4 = .ok (.aload_n 0, 1) := by decide +kernel
theorem dX0_takeBack_5 : decode cX0_takeBack 5 = .ok (.getfield 27, 3) := by decide +kernel
theorem dX0_takeBack_8 : decode cX0_takeBack 8 = .ok (.iload_n 1, 1) := by decide +kernel
theorem dX0_takeBack_9 : decode cX0_takeBack 9 = .ok (.iaload, 1) := by decide +kernel
theorem dX0_takeBack_10 : decode cX0_takeBack 10 = .ok (.isub, 1) := by decide +kernel
theorem dX0_takeBack_11 : decode cX0_takeBack 11 = .ok (.iconst 2, 1) := by decide +kernel
theorem dX0_takeBack_12 : decode cX0_takeBack 12 = .ok (.irem, 1) := by decide +kernel
theorem dX0_takeBack_13 : decode cX0_takeBack 13 = .ok (.ifCond .eq 7, 3) := by decide +kernel
theorem dX0_takeBack_16 : decode cX0_takeBack 16 = .ok (.aload_n 0, 1) := by decide +kernel
theorem dX0_takeBack_17 : decode cX0_takeBack 17 = .ok (.invokevirtual 79, 3) := by decide +kernel
theorem dX0_takeBack_20 : decode cX0_takeBack 20 = .ok (.aload_n 0, 1) := by decide +kernel
theorem dX0_takeBack_21 : decode cX0_takeBack 21 = .ok (.aload_n 0, 1) := by decide +kernel
theorem dX0_takeBack_22 : decode cX0_takeBack 22 = .ok (.getfield 27, 3) := by decide +kernel
theorem dX0_takeBack_25 : decode cX0_takeBack 25 = .ok (.iload_n 1, 1) := by decide +kernel
theorem dX0_takeBack_26 : decode cX0_takeBack 26 = .ok (.iaload, 1) := by decide +kernel
theorem dX0_takeBack_27 : decode cX0_takeBack 27 = .ok (.putfield 52, 3) := by decide +kernel
theorem dX0_takeBack_30 : decode cX0_takeBack 30 = .ok (.aload_n 0, 1) := by decide +kernel
theorem dX0_takeBack_31 : decode cX0_takeBack 31 = .ok (.aload_n 0, 1) := by decide +kernel
theorem dX0_takeBack_32 : decode cX0_takeBack 32 = .ok (.getfield 18, 3) := by decide +kernel
theorem dX0_takeBack_35 : decode cX0_takeBack 35 = .ok (.iload_n 1, 1) := by decide +kernel
theorem dX0_takeBack_36 : decode cX0_takeBack 36 = .ok (.iaload, 1) := by decide +kernel
theorem dX0_takeBack_37 : decode cX0_takeBack 37 = .ok (.invokestatic 82, 3) := by decide +kernel
theorem dX0_takeBack_40 : decode cX0_takeBack 40 = .ok (.invokevirtual 71, 3) := by decide +kernel
theorem dX0_takeBack_43 : decode cX0_takeBack 43 = .ok (.return_, 1) := by decide +kernel
theorem dX0_opposite_0 : decode cX0_opposite 0 = .ok (.iload_n 0, 1) := by decide +kernel
theorem dX0_opposite_1 : decode cX0_opposite 1 = .ok (.iconst 2, 1) := by decide +kernel
theorem dX0_opposite_2 : decode cX0_opposite 2 = .ok (.if_icmp .ne 7, 3) := by decide +kernel
theorem dX0_opposite_5 : decode cX0_opposite 5 = .ok (.iconst 2, 1) := by decide +kernel
theorem dX0_opposite_6 : decode cX0_opposite 6 = .ok (.goto 6, 3) := by decide +kernel
theorem dX0_opposite_9 : decode cX0_opposite 9 = .ok (.iconst 1, 1) := by decide +kernel
theorem dX0_opposite_10 : decode cX0_opposite 10 = .ok (.iload_n 0, 1) := by decide +kernel
theorem dX0_opposite_11 : decode cX0_opposite 11 = .ok (.isub, 1) := by decide +kernel
theorem dX0_opposite_12 : decode cX0_opposite 12 = .ok (.ireturn, 1) := by decide +kernel
theorem dX0_slantOf_0 : decode cX0_slantOf 0 = .ok (.iload_n 2, 1) := by decide +kernel
theorem dX0_slantOf_1 : decode cX0_slantOf 1 = .ok (.iconst 2, 1) := by decide +kernel
theorem dX0_slantOf_2 : decode cX0_slantOf 2 = .ok (.if_icmp .ne 20, 3) := by decide +kernel
theorem dX0_slantOf_5 : decode cX0_slantOf 5 = .ok (.iload_n 1, 1) := by decide +kernel
theorem dX0_slantOf_6 : decode cX0_slantOf 6 = .ok (.ifCond .le 14, 3) := by decide +kernel
theorem dX0_slantOf_9 : decode cX0_slantOf 9 = .ok (.aload_n 0, 1) := by decide +kernel
theorem dX0_slantOf_10 : decode cX0_slantOf 10 = .ok (.getfield 24, 3) := by decide +kernel
theorem dX0_slantOf_13 : decode cX0_slantOf 13 = .ok (.iload_n 1, 1) := by decide +kernel
theorem dX0_slantOf_14 : decode cX0_slantOf 14 = .ok (.iconst 1, 1) := by decide +kernel
theorem dX0_slantOf_15 : decode cX0_slantOf 15 = .ok (.isub, 1) := by decide +kernel
theorem dX0_slantOf_16 : decode cX0_slantOf 16 = .ok (.iaload, 1) := by decide +kernel
theorem dX0_slantOf_17 : decode cX0_slantOf 17 = .ok (.goto 4, 3) := by decide +kernel
theorem dX0_slantOf_20 : decode cX0_slantOf 20 = .ok (.iconst 0, 1) := by decide +kernel
theorem dX0_slantOf_21 : decode cX0_slantOf 21 = .ok (.ireturn, 1) := by decide +kernel
theorem dX0_slantOf_22 : decode cX0_slantOf 22 = .ok (.iload_n 2, 1) := by decide +kernel
theorem dX0_slantOf_23 : decode cX0_slantOf 23 = .ok (.aload_n 0, 1) := by decide +kernel
theorem dX0_slantOf_24 : decode cX0_slantOf 24 = .ok (.getfield 42, 3) := by decide +kernel
theorem dX0_slantOf_27 : decode cX0_slantOf 27 = .ok (.if_icmp .ne 7, 3) := by decide +kernel
theorem dX0_slantOf_30 : decode cX0_slantOf 30 = .ok (.iconst 0, 1) := by decide +kernel
theorem dX0_slantOf_31 : decode cX0_slantOf 31 = .ok (.goto 4, 3) := by decide +kernel
theorem dX0_slantOf_34 : decode cX0_slantOf 34 = .ok (.iconst 1, 1) := by decide +kernel
theorem dX0_slantOf_35 : decode cX0_slantOf 35 = .ok (.ireturn, 1) := by decide +kernel
theorem dX0_move_0 : decode cX0_move 0 = .ok (.aload_n 0, 1) := by decide +kernel
theorem dX0_move_1 : decode cX0_move 1 = .ok (.iconst 0, 1) := by decide +kernel
theorem dX0_move_2 : decode cX0_move 2 = .ok (.putfield 55, 3) := by decide +kernel
theorem dX0_move_5 : decode cX0_move 5 = .ok (.aload_n 0, 1) := by decide +kernel
theorem dX0_move_6 : decode cX0_move 6 = .ok (.dup, 1) := by decide +kernel
theorem dX0_move_7 : decode cX0_move 7 = .ok (.getfield 49, 3) := by decide +kernel
theorem dX0_move_10 : decode cX0_move 10 = .ok (.aload_n 0, 1) := by decide +kernel
theorem dX0_move_11 : decode cX0_move 11 = .ok (.iload_n 1, 1) := by decide +kernel
theorem dX0_move_12 : decode cX0_move 12 = .ok (.invokevirtual 85, 3) := by decide +kernel
theorem dX0_move_15 : decode cX0_move 15 = .ok (.iadd, 1) := by decide +kernel
theorem dX0_move_16 : decode cX0_move 16 = .ok (.putfield 49, 3) := by decide +kernel
theorem dX0_move_19 : decode cX0_move 19 = .ok (.iload_n 1, 1) := by decide +kernel
theorem dX0_move_20 : decode cX0_move 20 = .ok (.ifCond .ne 34, 3) := by decide +kernel
theorem dX0_move_23 : decode cX0_move 23 = .ok (.aload_n 0, 1) := by decide +kernel
theorem dX0_move_24 : decode cX0_move 24 = .ok (.getfield 9, 3) := by decide +kernel
theorem dX0_move_27 : decode cX0_move 27 = .ok (.iconst 3, 1) := by decide +kernel
theorem dX0_move_28 : decode cX0_move 28 = .ok (.iaload, 1) := by decide +kernel
theorem dX0_move_29 : decode cX0_move 29 = .ok (.istore_n 2, 1) := by decide +kernel
theorem dX0_move_30 : decode cX0_move 30 = .ok (.aload_n 0, 1) := by decide +kernel
theorem dX0_move_31 : decode cX0_move 31 = .ok (.getfield 9, 3) := by decide +kernel
theorem dX0_move_34 : decode cX0_move 34 = .ok (.iconst 0, 1) := by decide +kernel
theorem dX0_move_35 : decode cX0_move 35 = .ok (.aload_n 0, 1) := by decide +kernel
theorem dX0_move_36 : decode cX0_move 36 = .ok (.getfield 9, 3) := by decide +kernel
theorem dX0_move_39 : decode cX0_move 39 = .ok (.iconst 1, 1) := by decide +kernel
theorem dX0_move_40 : decode cX0_move 40 = .ok (.iconst 3, 1) := by decide +kernel
theorem dX0_move_41 : decode cX0_move 41 = .ok (.invokestatic 88, 3) := by decide +kernel
theorem dX0_move_44 : decode cX0_move 44 = .ok (.aload_n 0, 1) := by decide +kernel
theorem dX0_move_45 : decode cX0_move 45 = .ok (.getfield 9, 3) := by decide +kernel
theorem dX0_move_48 : decode cX0_move 48 = .ok (.iconst 0, 1) := by decide +kernel
theorem dX0_move_49 : decode cX0_move 49 = .ok (.iload_n 2, 1) := by decide +kernel
theorem dX0_move_50 : decode cX0_move 50 = .ok (.iastore, 1) := by decide +kernel
theorem dX0_move_51 : decode cX0_move 51 = .ok (.goto 36, 3) := by decide +kernel
theorem dX0_move_54 : decode cX0_move 54 = .ok (.iload_n 1, 1) := by decide +kernel
theorem dX0_move_55 : decode cX0_move 55 = .ok (.iconst 1, 1) := by decide +kernel
theorem dX0_move_56 : decode cX0_move 56 = .ok (.if_icmp .ne 31, 3) := by decide +kernel
theorem dX0_move_59 : decode cX0_move 59 = .ok (.aload_n 0, 1) := by decide +kernel
theorem dX0_move_60 : decode cX0_move 60 = .ok (.getfield 9, 3) := by decide +kernel
theorem dX0_move_63 : decode cX0_move 63 = .ok (.iconst 0, 1) := by decide +kernel
theorem dX0_move_64 : decode cX0_move 64 = .ok (.iaload, 1) := by decide +kernel
theorem dX0_move_65 : decode cX0_move 65 = .ok (.istore_n 2, 1) := by decide +kernel
theorem dX0_move_66 : decode cX0_move 66 = .ok (.aload_n 0, 1) := by decide +kernel
theorem dX0_move_67 : decode cX0_move 67 = .ok (.getfield 9, 3) := by decide +kernel
theorem dX0_move_70 : decode cX0_move 70 = .ok (.iconst 1, 1) := by decide +kernel
theorem dX0_move_71 : decode cX0_move 71 = .ok (.aload_n 0, 1) := by decide +kernel
theorem dX0_move_72 : decode cX0_move 72 = .ok (.getfield 9, 3) := by decide +kernel
theorem dX0_move_75 : decode cX0_move 75 = .ok (.iconst 0, 1) := by decide +kernel
theorem dX0_move_76 : decode cX0_move 76 = .ok (.iconst 3, 1) := by decide +kernel
theorem dX0_move_77 : decode cX0_move 77 = .ok (.invokestatic 88, 3) := by decide +kernel
theorem dX0_move_80 : decode cX0_move 80 = .ok (.aload_n 0, 1) := by decide +kernel
theorem dX0_move_81 : decode cX0_move 81 = .ok (.getfield 9, 3) := by decide +kernel
theorem dX0_move_84 : decode cX0_move 84 = .ok (.iconst 3, 1) := by decide +kernel
theorem dX0_move_85 : decode cX0_move 85 = .ok (.iload_n 2, 1) := by decide +kernel
theorem dX0_move_86 : decode cX0_move 86 = .ok (.iastore, 1) := by decide +kernel
theorem dX0_move_87 : decode cX0_move 87 = .ok (.return_, 1) := by decide +kernel
theorem dX0_showing_0 : decode cX0_showing 0 = .ok (.iload_n 1, 1) := by decide +kernel
theorem dX0_showing_1 : decode cX0_showing 1 = .ok (.ifCond .le 14, 3) := by decide +kernel
theorem dX0_showing_4 : decode cX0_showing 4 = .ok (.aload_n 0, 1) := by decide +kernel
theorem dX0_showing_5 : decode cX0_showing 5 = .ok (.getfield 21, 3) := by decide +kernel
theorem dX0_showing_8 : decode cX0_showing 8 = .ok (.iload_n 1, 1) := by decide +kernel
theorem dX0_showing_9 : decode cX0_showing 9 = .ok (.iconst 1, 1) := by decide +kernel
theorem dX0_showing_10 : decode cX0_showing 10 = .ok (.isub, 1) := by decide +kernel
theorem dX0_showing_11 : decode cX0_showing 11 = .ok (.iaload, 1) := by decide +kernel
theorem dX0_showing_12 : decode cX0_showing 12 = .ok (.goto 9, 3) := by decide +kernel
theorem dX0_showing_15 : decode cX0_showing 15 = .ok (.aload_n 0, 1) := by decide +kernel
theorem dX0_showing_16 : decode cX0_showing 16 = .ok (.getfield 9, 3) := by decide +kernel
theorem dX0_showing_19 : decode cX0_showing 19 = .ok (.iconst 0, 1) := by decide +kernel
theorem dX0_showing_20 : decode cX0_showing 20 = .ok (.iaload, 1) := by decide +kernel
theorem dX0_showing_21 : decode cX0_showing 21 = .ok (.ireturn, 1) := by decide +kernel
theorem dX0_threadOn_0 : decode cX0_threadOn 0 = .ok (.iload_n 2, 1) := by decide +kernel
theorem dX0_threadOn_1 : decode cX0_threadOn 1 = .ok (.ifCond .eq 16, 3) := by decide +kernel
theorem dX0_threadOn_4 : decode cX0_threadOn 4 = .ok (.aload_n 0, 1) := by decide +kernel
theorem dX0_threadOn_5 : decode cX0_threadOn 5 = .ok (.getfield 21, 3) := by decide +kernel
theorem dX0_threadOn_8 : decode cX0_threadOn 8 = .ok (.iload_n 1, 1) := by decide +kernel
theorem dX0_threadOn_9 : decode cX0_threadOn 9 = .ok (.iaload, 1) := by decide +kernel
theorem dX0_threadOn_10 : decode cX0_threadOn 10 = .ok (.iconst 2, 1) := by decide +kernel
theorem dX0_threadOn_11 : decode cX0_threadOn 11 = .ok (.iadd, 1) := by decide +kernel
theorem dX0_threadOn_12 : decode cX0_threadOn 12 = .ok (.iconst 4, 1) := by decide +kernel
theorem dX0_threadOn_13 : decode cX0_threadOn 13 = .ok (.irem, 1) := by decide +kernel
theorem dX0_threadOn_14 : decode cX0_threadOn 14 = .ok (.goto 9, 3) := by decide +kernel
theorem dX0_threadOn_17 : decode cX0_threadOn 17 = .ok (.aload_n 0, 1) := by decide +kernel
theorem dX0_threadOn_18 : decode cX0_threadOn 18 = .ok (.getfield 21, 3) := by decide +kernel
theorem dX0_threadOn_21 : decode cX0_threadOn 21 = .ok (.iload_n 1, 1) := by decide +kernel
theorem dX0_threadOn_22 : decode cX0_threadOn 22 = .ok (.iaload, 1) := by decide +kernel
theorem dX0_threadOn_23 : decode cX0_threadOn 23 = .ok (.ireturn, 1) := by decide +kernel
theorem dX0_colourOn_0 : decode cX0_colourOn 0 = .ok (.aload_n 0, 1) := by decide +kernel
theorem dX0_colourOn_1 : decode cX0_colourOn 1 = .ok (.getfield 15, 3) := by decide +kernel
theorem dX0_colourOn_4 : decode cX0_colourOn 4 = .ok (.aload_n 0, 1) := by decide +kernel
theorem dX0_colourOn_5 : decode cX0_colourOn 5 = .ok (.iload_n 1, 1) := by decide +kernel
theorem dX0_colourOn_6 : decode cX0_colourOn 6 = .ok (.iload_n 2, 1) := by decide +kernel
theorem dX0_colourOn_7 : decode cX0_colourOn 7 = .ok (.invokevirtual 94, 3) := by decide +kernel
theorem dX0_colourOn_10 : decode cX0_colourOn 10 = .ok (.iaload, 1) := by decide +kernel
theorem dX0_colourOn_11 : decode cX0_colourOn 11 = .ok (.ireturn, 1) := by decide +kernel
theorem dX0_idleBehind_0 : decode cX0_idleBehind 0 = .ok (.iconst 0, 1) := by decide +kernel
theorem dX0_idleBehind_1 : decode cX0_idleBehind 1 = .ok (.istore_n 2, 1) := by decide +kernel
theorem dX0_idleBehind_2 : decode cX0_idleBehind 2 = .ok (.iload_n 2, 1) := by decide +kernel
theorem dX0_idleBehind_3 : decode cX0_idleBehind 3 = .ok (.iload_n 1, 1) := by decide +kernel
theorem dX0_idleBehind_4 : decode cX0_idleBehind 4 = .ok (.if_icmp .ge 23, 3) := by decide +kernel
theorem dX0_idleBehind_7 : decode cX0_idleBehind 7 = .ok (.aload_n 0, 1) := by decide +kernel
theorem dX0_idleBehind_8 : decode cX0_idleBehind 8 = .ok (.getfield 18, 3) := by decide +kernel
theorem dX0_idleBehind_11 : decode cX0_idleBehind 11 = .ok (.iload_n 1, 1) := by decide +kernel
theorem dX0_idleBehind_12 : decode cX0_idleBehind 12 = .ok (.iconst 1, 1) := by decide +kernel
theorem dX0_idleBehind_13 : decode cX0_idleBehind 13 = .ok (.isub, 1) := by decide +kernel
theorem dX0_idleBehind_14 : decode cX0_idleBehind 14 = .ok (.iload_n 2, 1) := by decide +kernel
theorem dX0_idleBehind_15 : decode cX0_idleBehind 15 = .ok (.isub, 1) := by decide +kernel
theorem dX0_idleBehind_16 : decode cX0_idleBehind 16 = .ok (.iaload, 1) := by decide +kernel
theorem dX0_idleBehind_17 : decode cX0_idleBehind 17 = .ok (.iconst 2, 1) := by decide +kernel
theorem dX0_idleBehind_18 : decode cX0_idleBehind 18 = .ok (.if_icmp .ne 9, 3) := by decide +kernel
theorem dX0_idleBehind_21 : decode cX0_idleBehind 21 = .ok (.iinc 2 1, 3) := by decide +kernel
theorem dX0_idleBehind_24 : decode cX0_idleBehind 24 = .ok (.goto (-22), 3) := by decide +kernel
theorem dX0_idleBehind_27 : decode cX0_idleBehind 27 = .ok (.iload_n 2, 1) := by decide +kernel
theorem dX0_idleBehind_28 : decode cX0_idleBehind 28 = .ok (.ireturn, 1) := by decide +kernel
theorem dX0_longestFloat_0 : decode cX0_longestFloat 0 = .ok (.iconst 0, 1) := by decide +kernel
theorem dX0_longestFloat_1 : decode cX0_longestFloat 1 = .ok (.istore_n 2, 1) := by decide +kernel
theorem dX0_longestFloat_2 : decode cX0_longestFloat 2 = .ok (.iconst 0, 1) := by decide +kernel
theorem dX0_longestFloat_3 : decode cX0_longestFloat 3 = .ok (.istore_n 3, 1) := by decide +kernel
theorem dX0_longestFloat_4 : decode cX0_longestFloat 4 = .ok (.iconst 0, 1) := by decide +kernel
theorem dX0_longestFloat_5 : decode cX0_longestFloat 5 = .ok (.istore 4, 2) := by decide +kernel
theorem dX0_longestFloat_7 : decode cX0_longestFloat 7 = .ok (.iload 4, 2) := by decide +kernel
theorem dX0_longestFloat_9 : decode cX0_longestFloat 9 = .ok (.iload_n 1, 1) := by decide +kernel
theorem dX0_longestFloat_10 : decode cX0_longestFloat 10 = .ok (.if_icmp .ge 34, 3) := by decide +kernel
theorem dX0_longestFloat_13 : decode cX0_longestFloat 13 = .ok (.aload_n 0, 1) := by decide +kernel
theorem dX0_longestFloat_14 : decode cX0_longestFloat 14 = .ok (.getfield 18, 3) := by decide +kernel
theorem dX0_longestFloat_17 : decode cX0_longestFloat 17 = .ok (.iload 4, 2) := by decide +kernel
theorem dX0_longestFloat_19 : decode cX0_longestFloat 19 = .ok (.iaload, 1) := by decide +kernel
theorem dX0_longestFloat_20 : decode cX0_longestFloat 20 = .ok (.iconst 2, 1) := by decide +kernel
theorem dX0_longestFloat_21 : decode cX0_longestFloat 21 = .ok (.if_icmp .ne 9, 3) := by decide +kernel
theorem dX0_longestFloat_24 : decode cX0_longestFloat 24 = .ok (.iload_n 3, 1) := by decide +kernel
theorem dX0_longestFloat_25 : decode cX0_longestFloat 25 = .ok (.iconst 1, 1) := by decide +kernel
theorem dX0_longestFloat_26 : decode cX0_longestFloat 26 = .ok (.iadd, 1) := by decide +kernel
theorem dX0_longestFloat_27 : decode cX0_longestFloat 27 = .ok (.goto 4, 3) := by decide +kernel
theorem dX0_longestFloat_30 : decode cX0_longestFloat 30 = .ok (.iconst 0, 1) := by decide +kernel
theorem dX0_longestFloat_31 : decode cX0_longestFloat 31 = .ok (.istore_n 3, 1) := by decide +kernel
theorem dX0_longestFloat_32 : decode cX0_longestFloat 32 = .ok (.iload_n 2, 1) := by decide +kernel
theorem dX0_longestFloat_33 : decode cX0_longestFloat 33 = .ok (.iload_n 3, 1) := by decide +kernel
theorem dX0_longestFloat_34 : decode cX0_longestFloat 34 = .ok (.invokestatic 98, 3) := by decide +kernel
theorem dX0_longestFloat_37 : decode cX0_longestFloat 37 = .ok (.istore_n 2, 1) := by decide +kernel
theorem dX0_longestFloat_38 : decode cX0_longestFloat 38 = .ok (.iinc 4 1, 3) := by decide +kernel
theorem dX0_longestFloat_41 : decode cX0_longestFloat 41 = .ok (.goto (-34), 3) := by decide +kernel
theorem dX0_longestFloat_44 : decode cX0_longestFloat 44 = .ok (.iload_n 2, 1) := by decide +kernel
theorem dX0_longestFloat_45 : decode cX0_longestFloat 45 = .ok (.ireturn, 1) := by decide +kernel
theorem dX0_fits_0 : decode cX0_fits 0 = .ok (.aload_n 0, 1) := by decide +kernel
theorem dX0_fits_1 : decode cX0_fits 1 = .ok (.getfield 30, 3) := by decide +kernel
theorem dX0_fits_4 : decode cX0_fits 4 = .ok (.iload_n 1, 1) := by decide +kernel
theorem dX0_fits_5 : decode cX0_fits 5 = .ok (.iaload, 1) := by decide +kernel
theorem dX0_fits_6 : decode cX0_fits 6 = .ok (.bipush (-99), 2) := by decide +kernel
theorem dX0_fits_8 : decode cX0_fits 8 = .ok (.if_icmp .eq 18, 3) := by decide +kernel
theorem dX0_fits_11 : decode cX0_fits 11 = .ok (.aload_n 0, 1) := by decide +kernel
theorem dX0_fits_12 : decode cX0_fits 12 = .ok (.getfield 30, 3) := by decide +kernel
theorem dX0_fits_15 : decode cX0_fits 15 = .ok (.iload_n 1, 1) := by decide +kernel
theorem dX0_fits_16 : decode cX0_fits 16 = .ok (.iaload, 1) := by decide +kernel
theorem dX0_fits_17 : decode cX0_fits 17 = .ok (.aload_n 0, 1) := by decide +kernel
theorem dX0_fits_18 : decode cX0_fits 18 = .ok (.getfield 15, 3) := by decide +kernel
theorem dX0_fits_21 : decode cX0_fits 21 = .ok (.iload_n 2, 1) := by decide +kernel
theorem dX0_fits_22 : decode cX0_fits 22 = .ok (.iaload, 1) := by decide +kernel
theorem dX0_fits_23 : decode cX0_fits 23 = .ok (.if_icmp .ne 7, 3) := by decide +kernel
theorem dX0_fits_26 : decode cX0_fits 26 = .ok (.iconst 1, 1) := by decide +kernel
theorem dX0_fits_27 : decode cX0_fits 27 = .ok (.goto 4, 3) := by decide +kernel
theorem dX0_fits_30 : decode cX0_fits 30 = .ok (.iconst 0, 1) := by decide +kernel
theorem dX0_fits_31 : decode cX0_fits 31 = .ok (.ireturn, 1) := by decide +kernel
theorem dX0_threadAfter_0 : decode cX0_threadAfter 0 = .ok (.aload_n 0, 1) := by decide +kernel
theorem dX0_threadAfter_1 : decode cX0_threadAfter 1 = .ok (.getfield 9, 3) := by decide +kernel
theorem dX0_threadAfter_4 : decode cX0_threadAfter 4 = .ok (.iload_n 2, 1) := by decide +kernel
theorem dX0_threadAfter_5 : decode cX0_threadAfter 5 = .ok (.iload_n 1, 1) := by decide +kernel
theorem dX0_threadAfter_6 : decode cX0_threadAfter 6 = .ok (.isub, 1) := by decide +kernel
theorem dX0_threadAfter_7 : decode cX0_threadAfter 7 = .ok (.iconst 4, 1) := by decide +kernel
theorem dX0_threadAfter_8 : decode cX0_threadAfter 8 = .ok (.invokestatic 103, 3) := by decide +kernel
theorem dX0_threadAfter_11 : decode cX0_threadAfter 11 = .ok (.iaload, 1) := by decide +kernel
theorem dX0_threadAfter_12 : decode cX0_threadAfter 12 = .ok (.ireturn, 1) := by decide +kernel
theorem dX0_wantedOf_0 : decode cX0_wantedOf 0 = .ok (.iconst 0, 1) := by decide +kernel
theorem dX0_wantedOf_1 : decode cX0_wantedOf 1 = .ok (.istore_n 3, 1) := by decide +kernel
theorem dX0_wantedOf_2 : decode cX0_wantedOf 2 = .ok (.iload_n 3, 1) := by decide +kernel
theorem dX0_wantedOf_3 : decode cX0_wantedOf 3 = .ok (.iload_n 2, 1) := by decide +kernel
theorem dX0_wantedOf_4 : decode cX0_wantedOf 4 = .ok (.if_icmp .ge 37, 3) := by decide +kernel
theorem dX0_wantedOf_7 : decode cX0_wantedOf 7 = .ok (.aload_n 0, 1) := by decide +kernel
theorem dX0_wantedOf_8 : decode cX0_wantedOf 8 = .ok (.getfield 21, 3) := by decide +kernel
theorem dX0_wantedOf_11 : decode cX0_wantedOf 11 = .ok (.iload_n 3, 1) := by decide +kernel
theorem dX0_wantedOf_12 : decode cX0_wantedOf 12 = .ok (.iaload, 1) := by decide +kernel
theorem dX0_wantedOf_13 : decode cX0_wantedOf 13 = .ok (.iload_n 1, 1) := by decide +kernel
theorem dX0_wantedOf_14 : decode cX0_wantedOf 14 = .ok (.if_icmp .ne 21, 3) := by decide +kernel
theorem dX0_wantedOf_17 : decode cX0_wantedOf 17 = .ok (.aload_n 0, 1) := by decide +kernel
theorem dX0_wantedOf_18 : decode cX0_wantedOf 18 = .ok (.getfield 30, 3) := by decide +kernel
theorem dX0_wantedOf_21 : decode cX0_wantedOf 21 = .ok (.iload_n 3, 1) := by decide +kernel
theorem dX0_wantedOf_22 : decode cX0_wantedOf 22 = .ok (.iaload, 1) := by decide +kernel
theorem dX0_wantedOf_23 : decode cX0_wantedOf 23 = .ok (.bipush (-99), 2) := by decide +kernel
theorem dX0_wantedOf_25 : decode cX0_wantedOf 25 = .ok (.if_icmp .eq 10, 3) := by decide +kernel
theorem dX0_wantedOf_28 : decode cX0_wantedOf 28 = .ok (.aload_n 0, 1) := by decide +kernel
theorem dX0_wantedOf_29 : decode cX0_wantedOf 29 = .ok (.getfield 30, 3) := by decide +kernel
theorem dX0_wantedOf_32 : decode cX0_wantedOf 32 = .ok (.iload_n 3, 1) := by decide +kernel
theorem dX0_wantedOf_33 : decode cX0_wantedOf 33 = .ok (.iaload, 1) := by decide +kernel
theorem dX0_wantedOf_34 : decode cX0_wantedOf 34 = .ok (.ireturn, 1) := by decide +kernel
theorem dX0_wantedOf_35 : decode cX0_wantedOf 35 = .ok (.iinc 3 1, 3) := by decide +kernel
theorem dX0_wantedOf_38 : decode cX0_wantedOf 38 = .ok (.goto (-36), 3) := by decide +kernel
theorem dX0_wantedOf_41 : decode cX0_wantedOf 41 = .ok (.bipush (-99), 2) := by decide +kernel
theorem dX0_wantedOf_43 : decode cX0_wantedOf 43 = .ok (.ireturn, 1) := by decide +kernel
theorem dX0_quarrelRow_0 : decode cX0_quarrelRow 0 = .ok (.iconst 0, 1) := by decide +kernel
theorem dX0_quarrelRow_1 : decode cX0_quarrelRow 1 = .ok (.istore_n 2, 1) := by decide +kernel
theorem dX0_quarrelRow_2 : decode cX0_quarrelRow 2 = .ok (.iload_n 2, 1) := by decide +kernel
theorem dX0_quarrelRow_3 : decode cX0_quarrelRow 3 = .ok (.iload_n 1, 1) := by decide +kernel
theorem dX0_quarrelRow_4 : decode cX0_quarrelRow 4 = .ok (.if_icmp .ge 50, 3) := by decide +kernel
theorem dX0_quarrelRow_7 : decode cX0_quarrelRow 7 = .ok (.aload_n 0, 1) := by decide +kernel
theorem dX0_quarrelRow_8 : decode cX0_quarrelRow 8 = .ok (.aload_n 0, 1) := by decide +kernel
theorem dX0_quarrelRow_9 : decode cX0_quarrelRow 9 = .ok (.getfield 21, 3) := by decide +kernel
theorem dX0_quarrelRow_12 : decode cX0_quarrelRow 12 = .ok (.iload_n 2, 1) := by decide +kernel
theorem dX0_quarrelRow_13 : decode cX0_quarrelRow 13 = .ok (.iaload, 1) := by decide +kernel
theorem dX0_quarrelRow_14 : decode cX0_quarrelRow 14 = .ok (.iload_n 2, 1) := by decide +kernel
theorem dX0_quarrelRow_15 : decode cX0_quarrelRow 15 = .ok (.invokevirtual 106, 3) := by decide +kernel
theorem dX0_quarrelRow_18 : decode cX0_quarrelRow 18 = .ok (.istore_n 3, 1) := by decide +kernel
theorem dX0_quarrelRow_19 : decode cX0_quarrelRow 19 = .ok (.aload_n 0, 1) := by decide +kernel
theorem dX0_quarrelRow_20 : decode cX0_quarrelRow 20 = .ok (.getfield 30, 3) := by decide +kernel
theorem dX0_quarrelRow_23 : decode cX0_quarrelRow 23 = .ok (.iload_n 2, 1) := by decide +kernel
theorem dX0_quarrelRow_24 : decode cX0_quarrelRow 24 = .ok (.iaload, 1) := by decide +kernel
theorem dX0_quarrelRow_25 : decode cX0_quarrelRow 25 = .ok (.bipush (-99), 2) := by decide +kernel
theorem dX0_quarrelRow_27 : decode cX0_quarrelRow 27 = .ok (.if_icmp .eq 21, 3) := by decide +kernel
theorem dX0_quarrelRow_30 : decode cX0_quarrelRow 30 = .ok (.iload_n 3, 1) := by decide +kernel
theorem dX0_quarrelRow_31 : decode cX0_quarrelRow 31 = .ok (.bipush (-99), 2) := by decide +kernel
theorem dX0_quarrelRow_33 : decode cX0_quarrelRow 33 = .ok (.if_icmp .eq 15, 3) := by decide +kernel
theorem dX0_quarrelRow_36 : decode cX0_quarrelRow 36 = .ok (.iload_n 3, 1) := by decide +kernel
theorem dX0_quarrelRow_37 : decode cX0_quarrelRow 37 = .ok (.aload_n 0, 1) := by decide +kernel
theorem dX0_quarrelRow_38 : decode cX0_quarrelRow 38 = .ok (.getfield 30, 3) := by decide +kernel
theorem dX0_quarrelRow_41 : decode cX0_quarrelRow 41 = .ok (.iload_n 2, 1) := by decide +kernel
theorem dX0_quarrelRow_42 : decode cX0_quarrelRow 42 = .ok (.iaload, 1) := by decide +kernel
theorem dX0_quarrelRow_43 : decode cX0_quarrelRow 43 = .ok (.if_icmp .eq 5, 3) := by decide +kernel
theorem dX0_quarrelRow_46 : decode cX0_quarrelRow 46 = .ok (.iload_n 2, 1) := by decide +kernel
theorem dX0_quarrelRow_47 : decode cX0_quarrelRow 47 = .ok (.ireturn, 1) := by decide +kernel
theorem dX0_quarrelRow_48 : decode cX0_quarrelRow 48 = .ok (.iinc 2 1, 3) := by decide +kernel
theorem dX0_quarrelRow_51 : decode cX0_quarrelRow 51 = .ok (.goto (-49), 3) := by decide +kernel
theorem dX0_quarrelRow_54 : decode cX0_quarrelRow 54 = .ok (.bipush (-99), 2) := by decide +kernel
theorem dX0_quarrelRow_56 : decode cX0_quarrelRow 56 = .ok (.ireturn, 1) := by decide +kernel
theorem dX0_fitsWith_0 : decode cX0_fitsWith 0 = .ok (.iconst 0, 1) := by decide +kernel
theorem dX0_fitsWith_1 : decode cX0_fitsWith 1 = .ok (.istore 4, 2) := by decide +kernel
theorem dX0_fitsWith_3 : decode cX0_fitsWith 3 = .ok (.iconst 0, 1) := by decide +kernel
theorem dX0_fitsWith_4 : decode cX0_fitsWith 4 = .ok (.istore 5, 2) := by decide +kernel
theorem dX0_fitsWith_6 : decode cX0_fitsWith 6 = .ok (.iconst 0, 1) := by decide +kernel
theorem dX0_fitsWith_7 : decode cX0_fitsWith 7 = .ok (.istore 6, 2) := by decide +kernel
theorem dX0_fitsWith_9 : decode cX0_fitsWith 9 = .ok (.iload 6, 2) := by decide +kernel
theorem dX0_fitsWith_11 : decode cX0_fitsWith 11 = .ok (.iload_n 3, 1) := by decide +kernel
theorem dX0_fitsWith_12 : decode cX0_fitsWith 12 = .ok (.if_icmp .ge 80, 3) := by decide +kernel
theorem dX0_fitsWith_15 : decode cX0_fitsWith 15 = .ok (.iload 6, 2) := by decide +kernel
theorem dX0_fitsWith_17 : decode cX0_fitsWith 17 = .ok (.iload_n 1, 1) := by decide +kernel
theorem dX0_fitsWith_18 : decode cX0_fitsWith 18 = .ok (.if_icmp .ne 7, 3) := by decide +kernel
theorem dX0_fitsWith_21 : decode cX0_fitsWith 21 = .ok (.iload_n 2, 1) := by decide +kernel
theorem dX0_fitsWith_22 : decode cX0_fitsWith 22 = .ok (.goto 10, 3) := by decide +kernel
theorem dX0_fitsWith_25 : decode cX0_fitsWith 25 = .ok (.aload_n 0, 1) := by decide +kernel
theorem dX0_fitsWith_26 : decode cX0_fitsWith 26 = .ok (.getfield 18, 3) := by decide +kernel
theorem dX0_fitsWith_29 : decode cX0_fitsWith 29 = .ok (.iload 6, 2) := by decide +kernel
theorem dX0_fitsWith_31 : decode cX0_fitsWith 31 = .ok (.iaload, 1) := by decide +kernel
theorem dX0_fitsWith_32 : decode cX0_fitsWith 32 = .ok (.istore 7, 2) := by decide +kernel
theorem dX0_fitsWith_34 : decode cX0_fitsWith 34 = .ok (.iload 7, 2) := by decide +kernel
theorem dX0_fitsWith_36 : decode cX0_fitsWith 36 = .ok (.ifCond .ne 18, 3) := by decide +kernel
theorem dX0_fitsWith_39 : decode cX0_fitsWith 39 = .ok (.iinc 4 1, 3) := by decide +kernel
theorem dX0_fitsWith_42 : decode cX0_fitsWith 42 = .ok (.iload 4, 2) := by decide +kernel
theorem dX0_fitsWith_44 : decode cX0_fitsWith 44 = .ok (.ineg, 1) := by decide +kernel
theorem dX0_fitsWith_45 : decode cX0_fitsWith 45 = .ok (.iconst 4, 1) := by decide +kernel
theorem dX0_fitsWith_46 : decode cX0_fitsWith 46 = .ok (.invokestatic 103, 3) := by decide +kernel
theorem dX0_fitsWith_49 : decode cX0_fitsWith 49 = .ok (.istore 5, 2) := by decide +kernel
theorem dX0_fitsWith_51 : decode cX0_fitsWith 51 = .ok (.goto 22, 3) := by decide +kernel
theorem dX0_fitsWith_54 : decode cX0_fitsWith 54 = .ok (.iload 7, 2) := by decide +kernel
theorem dX0_fitsWith_56 : decode cX0_fitsWith 56 = .ok (.iconst 1, 1) := by decide +kernel
theorem dX0_fitsWith_57 : decode cX0_fitsWith 57 = .ok (.if_icmp .ne 16, 3) := by decide +kernel
theorem dX0_fitsWith_60 : decode cX0_fitsWith 60 = .ok (.iinc 4 (-1), 3) := by decide +kernel
theorem dX0_fitsWith_63 : decode cX0_fitsWith 63 = .ok (.iconst 1, 1) := by decide +kernel
theorem dX0_fitsWith_64 : decode cX0_fitsWith 64 = .ok (.iload 4, 2) := by decide +kernel
theorem dX0_fitsWith_66 : decode cX0_fitsWith 66 = .ok (.isub, 1) := by decide +kernel
theorem dX0_fitsWith_67 : decode cX0_fitsWith 67 = .ok (.iconst 4, 1) := by decide +kernel
theorem dX0_fitsWith_68 : decode cX0_fitsWith 68 = .ok (.invokestatic 103, 3) := by decide +kernel
theorem dX0_fitsWith_71 : decode cX0_fitsWith 71 = .ok (.istore 5, 2) := by decide +kernel
theorem dX0_fitsWith_73 : decode cX0_fitsWith 73 = .ok (.aload_n 0, 1) := by decide +kernel
theorem dX0_fitsWith_74 : decode cX0_fitsWith 74 = .ok (.iload 6, 2) := by decide +kernel
theorem dX0_fitsWith_76 : decode cX0_fitsWith 76 = .ok (.iload 5, 2) := by decide +kernel
theorem dX0_fitsWith_78 : decode cX0_fitsWith 78 = .ok (.invokevirtual 109, 3) := by decide +kernel
theorem dX0_fitsWith_81 : decode cX0_fitsWith 81 = .ok (.ifCond .ne 5, 3) := by decide +kernel
theorem dX0_fitsWith_84 : decode cX0_fitsWith 84 = .ok (.iconst 0, 1) := by decide +kernel
theorem dX0_fitsWith_85 : decode cX0_fitsWith 85 = .ok (.ireturn, 1) := by decide +kernel
theorem dX0_fitsWith_86 : decode cX0_fitsWith 86 = .ok (.iinc 6 1, 3) := by decide +kernel
theorem dX0_fitsWith_89 : decode cX0_fitsWith 89 = .ok (.goto (-80), 3) := by decide +kernel
theorem dX0_fitsWith_92 : decode cX0_fitsWith 92 = .ok (.iconst 1, 1) := by decide +kernel
theorem dX0_fitsWith_93 : decode cX0_fitsWith 93 = .ok (.ireturn, 1) := by decide +kernel
theorem dJ6_bitCount_0f7a4_0 : decode cJ6_bitCount_0f7a4 0 = .ok (.iload_n 0, 1) := by decide +kernel
theorem dJ6_bitCount_0f7a4_1 : decode cJ6_bitCount_0f7a4 1 = .ok (.iload_n 0, 1) := by decide +kernel
theorem dJ6_bitCount_0f7a4_2 : decode cJ6_bitCount_0f7a4 2 = .ok (.iconst 1, 1) := by decide +kernel
theorem dJ6_bitCount_0f7a4_3 : decode cJ6_bitCount_0f7a4 3 = .ok (.iushr, 1) := by decide +kernel
theorem dJ6_bitCount_0f7a4_4 : decode cJ6_bitCount_0f7a4 4 = .ok (.ldc_w 265, 3) := by decide +kernel
theorem dJ6_bitCount_0f7a4_7 : decode cJ6_bitCount_0f7a4 7 = .ok (.iand, 1) := by decide +kernel
theorem dJ6_bitCount_0f7a4_8 : decode cJ6_bitCount_0f7a4 8 = .ok (.isub, 1) := by decide +kernel
theorem dJ6_bitCount_0f7a4_9 : decode cJ6_bitCount_0f7a4 9 = .ok (.istore_n 0, 1) := by decide +kernel
theorem dJ6_bitCount_0f7a4_10 : decode cJ6_bitCount_0f7a4 10 = .ok (.iload_n 0, 1) := by decide +kernel
theorem dJ6_bitCount_0f7a4_11 : decode cJ6_bitCount_0f7a4 11 = .ok (.ldc_w 266, 3) := by decide +kernel
theorem dJ6_bitCount_0f7a4_14 : decode cJ6_bitCount_0f7a4 14 = .ok (.iand, 1) := by decide +kernel
theorem dJ6_bitCount_0f7a4_15 : decode cJ6_bitCount_0f7a4 15 = .ok (.iload_n 0, 1) := by decide +kernel
theorem dJ6_bitCount_0f7a4_16 : decode cJ6_bitCount_0f7a4 16 = .ok (.iconst 2, 1) := by decide +kernel
theorem dJ6_bitCount_0f7a4_17 : decode cJ6_bitCount_0f7a4 17 = .ok (.iushr, 1) := by decide +kernel
theorem dJ6_bitCount_0f7a4_18 : decode cJ6_bitCount_0f7a4 18 = .ok (.ldc_w 266, 3) := by decide +kernel
theorem dJ6_bitCount_0f7a4_21 : decode cJ6_bitCount_0f7a4 21 = .ok (.iand, 1) := by decide +kernel
theorem dJ6_bitCount_0f7a4_22 : decode cJ6_bitCount_0f7a4 22 = .ok (.iadd, 1) := by decide +kernel
theorem dJ6_bitCount_0f7a4_23 : decode cJ6_bitCount_0f7a4 23 = .ok (.istore_n 0, 1) := by decide +kernel
theorem dJ6_bitCount_0f7a4_24 : decode cJ6_bitCount_0f7a4 24 = .ok (.iload_n 0, 1) := by decide +kernel
theorem dJ6_bitCount_0f7a4_25 : decode cJ6_bitCount_0f7a4 25 = .ok (.iload_n 0, 1) := by decide +kernel
theorem dJ6_bitCount_0f7a4_26 : decode cJ6_bitCount_0f7a4 26 = .ok (.iconst 4, 1) := by decide +kernel
theorem dJ6_bitCount_0f7a4_27 : decode cJ6_bitCount_0f7a4 27 = .ok (.iushr, 1) := by decide +kernel
theorem dJ6_bitCount_0f7a4_28 : decode cJ6_bitCount_0f7a4 28 = .ok (.iadd, 1) := by decide +kernel
theorem dJ6_bitCount_0f7a4_29 : decode cJ6_bitCount_0f7a4 29 = .ok (.ldc_w 267, 3) := by decide +kernel
theorem dJ6_bitCount_0f7a4_32 : decode cJ6_bitCount_0f7a4 32 = .ok (.iand, 1) := by decide +kernel
theorem dJ6_bitCount_0f7a4_33 : decode cJ6_bitCount_0f7a4 33 = .ok (.istore_n 0, 1) := by decide +kernel
theorem dJ6_bitCount_0f7a4_34 : decode cJ6_bitCount_0f7a4 34 = .ok (.iload_n 0, 1) := by decide +kernel
theorem dJ6_bitCount_0f7a4_35 : decode cJ6_bitCount_0f7a4 35 = .ok (.iload_n 0, 1) := by decide +kernel
theorem dJ6_bitCount_0f7a4_36 : decode cJ6_bitCount_0f7a4 36 = .ok (.bipush 8, 2) := by decide +kernel
theorem dJ6_bitCount_0f7a4_38 : decode cJ6_bitCount_0f7a4 38 = .ok (.iushr, 1) := by decide +kernel
theorem dJ6_bitCount_0f7a4_39 : decode cJ6_bitCount_0f7a4 39 = .ok (.iadd, 1) := by decide +kernel
theorem dJ6_bitCount_0f7a4_40 : decode cJ6_bitCount_0f7a4 40 = .ok (.istore_n 0, 1) := by decide +kernel
theorem dJ6_bitCount_0f7a4_41 : decode cJ6_bitCount_0f7a4 41 = .ok (.iload_n 0, 1) := by decide +kernel
theorem dJ6_bitCount_0f7a4_42 : decode cJ6_bitCount_0f7a4 42 = .ok (.iload_n 0, 1) := by decide +kernel
theorem dJ6_bitCount_0f7a4_43 : decode cJ6_bitCount_0f7a4 43 = .ok (.bipush 16, 2) := by decide +kernel
theorem dJ6_bitCount_0f7a4_45 : decode cJ6_bitCount_0f7a4 45 = .ok (.iushr, 1) := by decide +kernel
theorem dJ6_bitCount_0f7a4_46 : decode cJ6_bitCount_0f7a4 46 = .ok (.iadd, 1) := by decide +kernel
theorem dJ6_bitCount_0f7a4_47 : decode cJ6_bitCount_0f7a4 47 = .ok (.istore_n 0, 1) := by decide +kernel
theorem dJ6_bitCount_0f7a4_48 : decode cJ6_bitCount_0f7a4 48 = .ok (.iload_n 0, 1) := by decide +kernel
theorem dJ6_bitCount_0f7a4_49 : decode cJ6_bitCount_0f7a4 49 = .ok (.bipush 63, 2) := by decide +kernel
theorem dJ6_bitCount_0f7a4_51 : decode cJ6_bitCount_0f7a4 51 = .ok (.iand, 1) := by decide +kernel
theorem dJ6_bitCount_0f7a4_52 : decode cJ6_bitCount_0f7a4 52 = .ok (.ireturn, 1) := by decide +kernel
theorem dJ9_floorMod_7cf53_0 : decode cJ9_floorMod_7cf53 0 = .ok (.iload_n 0, 1) := by decide +kernel
theorem dJ9_floorMod_7cf53_1 : decode cJ9_floorMod_7cf53 1 = .ok (.iload_n 1, 1) := by decide +kernel
theorem dJ9_floorMod_7cf53_2 : decode cJ9_floorMod_7cf53 2 = .ok (.irem, 1) := by decide +kernel
theorem dJ9_floorMod_7cf53_3 : decode cJ9_floorMod_7cf53 3 = .ok (.istore_n 2, 1) := by decide +kernel
theorem dJ9_floorMod_7cf53_4 : decode cJ9_floorMod_7cf53 4 = .ok (.iload_n 0, 1) := by decide +kernel
theorem dJ9_floorMod_7cf53_5 : decode cJ9_floorMod_7cf53 5 = .ok (.iload_n 1, 1) := by decide +kernel
theorem dJ9_floorMod_7cf53_6 : decode cJ9_floorMod_7cf53 6 = .ok (.ixor, 1) := by decide +kernel
theorem dJ9_floorMod_7cf53_7 : decode cJ9_floorMod_7cf53 7 = .ok (.ifCond .ge 11, 3) := by decide +kernel
theorem dJ9_floorMod_7cf53_10 : decode cJ9_floorMod_7cf53 10 = .ok (.iload_n 2, 1) := by decide +kernel
theorem dJ9_floorMod_7cf53_11 : decode cJ9_floorMod_7cf53 11 = .ok (.ifCond .eq 7, 3) := by decide +kernel
theorem dJ9_floorMod_7cf53_14 : decode cJ9_floorMod_7cf53 14 = .ok (.iload_n 2, 1) := by decide +kernel
theorem dJ9_floorMod_7cf53_15 : decode cJ9_floorMod_7cf53 15 = .ok (.iload_n 1, 1) := by decide +kernel
theorem dJ9_floorMod_7cf53_16 : decode cJ9_floorMod_7cf53 16 = .ok (.iadd, 1) := by decide +kernel
theorem dJ9_floorMod_7cf53_17 : decode cJ9_floorMod_7cf53 17 = .ok (.ireturn, 1) := by decide +kernel
theorem dJ9_floorMod_7cf53_18 : decode cJ9_floorMod_7cf53 18 = .ok (.iload_n 2, 1) := by decide +kernel
theorem dJ9_floorMod_7cf53_19 : decode cJ9_floorMod_7cf53 19 = .ok (.ireturn, 1) := by decide +kernel
theorem dJ9_abs_0f7a4_0 : decode cJ9_abs_0f7a4 0 = .ok (.iload_n 0, 1) := by decide +kernel
theorem dJ9_abs_0f7a4_1 : decode cJ9_abs_0f7a4 1 = .ok (.ifCond .ge 8, 3) := by decide +kernel
theorem dJ9_abs_0f7a4_4 : decode cJ9_abs_0f7a4 4 = .ok (.iload_n 0, 1) := by decide +kernel
theorem dJ9_abs_0f7a4_5 : decode cJ9_abs_0f7a4 5 = .ok (.ineg, 1) := by decide +kernel
theorem dJ9_abs_0f7a4_6 : decode cJ9_abs_0f7a4 6 = .ok (.goto 4, 3) := by decide +kernel
theorem dJ9_abs_0f7a4_9 : decode cJ9_abs_0f7a4 9 = .ok (.iload_n 0, 1) := by decide +kernel
theorem dJ9_abs_0f7a4_10 : decode cJ9_abs_0f7a4 10 = .ok (.ireturn, 1) := by decide +kernel
theorem dJ9_max_7cf53_0 : decode cJ9_max_7cf53 0 = .ok (.iload_n 0, 1) := by decide +kernel
theorem dJ9_max_7cf53_1 : decode cJ9_max_7cf53 1 = .ok (.iload_n 1, 1) := by decide +kernel
theorem dJ9_max_7cf53_2 : decode cJ9_max_7cf53 2 = .ok (.if_icmp .lt 7, 3) := by decide +kernel
theorem dJ9_max_7cf53_5 : decode cJ9_max_7cf53 5 = .ok (.iload_n 0, 1) := by decide +kernel
theorem dJ9_max_7cf53_6 : decode cJ9_max_7cf53 6 = .ok (.goto 4, 3) := by decide +kernel
theorem dJ9_max_7cf53_9 : decode cJ9_max_7cf53 9 = .ok (.iload_n 1, 1) := by decide +kernel
theorem dJ9_max_7cf53_10 : decode cJ9_max_7cf53 10 = .ok (.ireturn, 1) := by decide +kernel
theorem dJ9_min_7cf53_0 : decode cJ9_min_7cf53 0 = .ok (.iload_n 0, 1) := by decide +kernel
theorem dJ9_min_7cf53_1 : decode cJ9_min_7cf53 1 = .ok (.iload_n 1, 1) := by decide +kernel
theorem dJ9_min_7cf53_2 : decode cJ9_min_7cf53 2 = .ok (.if_icmp .gt 7, 3) := by decide +kernel
theorem dJ9_min_7cf53_5 : decode cJ9_min_7cf53 5 = .ok (.iload_n 0, 1) := by decide +kernel
theorem dJ9_min_7cf53_6 : decode cJ9_min_7cf53 6 = .ok (.goto 4, 3) := by decide +kernel
theorem dJ9_min_7cf53_9 : decode cJ9_min_7cf53 9 = .ok (.iload_n 1, 1) := by decide +kernel
theorem dJ9_min_7cf53_10 : decode cJ9_min_7cf53 10 = .ok (.ireturn, 1) := by decide +kernel
theorem dJ7_fill_bad5a_0 : decode cJ7_fill_bad5a 0 = .ok (.aload_n 0, 1) := by decide +kernel
theorem dJ7_fill_bad5a_1 : decode cJ7_fill_bad5a 1 = .ok (.arraylength, 1) := by decide +kernel
theorem dJ7_fill_bad5a_2 : decode cJ7_fill_bad5a 2 = .ok (.iload_n 1, 1) := by decide +kernel
theorem dJ7_fill_bad5a_3 : decode cJ7_fill_bad5a 3 = .ok (.iload_n 2, 1) := by decide +kernel
theorem dJ7_fill_bad5a_4 : decode cJ7_fill_bad5a 4 = .ok (.invokestatic 13, 3) := by decide +kernel
theorem dJ7_fill_bad5a_7 : decode cJ7_fill_bad5a 7 = .ok (.iload_n 1, 1) := by decide +kernel
theorem dJ7_fill_bad5a_8 : decode cJ7_fill_bad5a 8 = .ok (.istore 5, 2) := by decide +kernel
theorem dJ7_fill_bad5a_10 : decode cJ7_fill_bad5a 10 = .ok (.iload 5, 2) := by decide +kernel
theorem dJ7_fill_bad5a_12 : decode cJ7_fill_bad5a 12 = .ok (.iload_n 2, 1) := by decide +kernel
theorem dJ7_fill_bad5a_13 : decode cJ7_fill_bad5a 13 = .ok (.if_icmp .ge 14, 3) := by decide +kernel
theorem dJ7_fill_bad5a_16 : decode cJ7_fill_bad5a 16 = .ok (.aload_n 0, 1) := by decide +kernel
theorem dJ7_fill_bad5a_17 : decode cJ7_fill_bad5a 17 = .ok (.iload 5, 2) := by decide +kernel
theorem dJ7_fill_bad5a_19 : decode cJ7_fill_bad5a 19 = .ok (.lload_n 3, 1) := by decide +kernel
theorem dJ7_fill_bad5a_20 : decode cJ7_fill_bad5a 20 = .ok (.lastore, 1) := by decide +kernel
theorem dJ7_fill_bad5a_21 : decode cJ7_fill_bad5a 21 = .ok (.iinc 5 1, 3) := by decide +kernel
theorem dJ7_fill_bad5a_24 : decode cJ7_fill_bad5a 24 = .ok (.goto (-14), 3) := by decide +kernel
theorem dJ7_fill_bad5a_27 : decode cJ7_fill_bad5a 27 = .ok (.return_, 1) := by decide +kernel
theorem dJ7_fill_53178_0 : decode cJ7_fill_53178 0 = .ok (.iconst 0, 1) := by decide +kernel
theorem dJ7_fill_53178_1 : decode cJ7_fill_53178 1 = .ok (.istore_n 2, 1) := by decide +kernel
theorem dJ7_fill_53178_2 : decode cJ7_fill_53178 2 = .ok (.aload_n 0, 1) := by decide +kernel
theorem dJ7_fill_53178_3 : decode cJ7_fill_53178 3 = .ok (.arraylength, 1) := by decide +kernel
theorem dJ7_fill_53178_4 : decode cJ7_fill_53178 4 = .ok (.istore_n 3, 1) := by decide +kernel
theorem dJ7_fill_53178_5 : decode cJ7_fill_53178 5 = .ok (.iload_n 2, 1) := by decide +kernel
theorem dJ7_fill_53178_6 : decode cJ7_fill_53178 6 = .ok (.iload_n 3, 1) := by decide +kernel
theorem dJ7_fill_53178_7 : decode cJ7_fill_53178 7 = .ok (.if_icmp .ge 13, 3) := by decide +kernel
theorem dJ7_fill_53178_10 : decode cJ7_fill_53178 10 = .ok (.aload_n 0, 1) := by decide +kernel
theorem dJ7_fill_53178_11 : decode cJ7_fill_53178 11 = .ok (.iload_n 2, 1) := by decide +kernel
theorem dJ7_fill_53178_12 : decode cJ7_fill_53178 12 = .ok (.iload_n 1, 1) := by decide +kernel
theorem dJ7_fill_53178_13 : decode cJ7_fill_53178 13 = .ok (.iastore, 1) := by decide +kernel
theorem dJ7_fill_53178_14 : decode cJ7_fill_53178 14 = .ok (.iinc 2 1, 3) := by decide +kernel
theorem dJ7_fill_53178_17 : decode cJ7_fill_53178 17 = .ok (.goto (-12), 3) := by decide +kernel
theorem dJ7_fill_53178_20 : decode cJ7_fill_53178 20 = .ok (.return_, 1) := by decide +kernel
theorem dJ7_fill_fda19_0 : decode cJ7_fill_fda19 0 = .ok (.aload_n 0, 1) := by decide +kernel
theorem dJ7_fill_fda19_1 : decode cJ7_fill_fda19 1 = .ok (.arraylength, 1) := by decide +kernel
theorem dJ7_fill_fda19_2 : decode cJ7_fill_fda19 2 = .ok (.iload_n 1, 1) := by decide +kernel
theorem dJ7_fill_fda19_3 : decode cJ7_fill_fda19 3 = .ok (.iload_n 2, 1) := by decide +kernel
theorem dJ7_fill_fda19_4 : decode cJ7_fill_fda19 4 = .ok (.invokestatic 13, 3) := by decide +kernel
theorem dJ7_fill_fda19_7 : decode cJ7_fill_fda19 7 = .ok (.iload_n 1, 1) := by decide +kernel
theorem dJ7_fill_fda19_8 : decode cJ7_fill_fda19 8 = .ok (.istore 4, 2) := by decide +kernel
theorem dJ7_fill_fda19_10 : decode cJ7_fill_fda19 10 = .ok (.iload 4, 2) := by decide +kernel
theorem dJ7_fill_fda19_12 : decode cJ7_fill_fda19 12 = .ok (.iload_n 2, 1) := by decide +kernel
theorem dJ7_fill_fda19_13 : decode cJ7_fill_fda19 13 = .ok (.if_icmp .ge 14, 3) := by decide +kernel
theorem dJ7_fill_fda19_16 : decode cJ7_fill_fda19 16 = .ok (.aload_n 0, 1) := by decide +kernel
theorem dJ7_fill_fda19_17 : decode cJ7_fill_fda19 17 = .ok (.iload 4, 2) := by decide +kernel
theorem dJ7_fill_fda19_19 : decode cJ7_fill_fda19 19 = .ok (.iload_n 3, 1) := by decide +kernel
theorem dJ7_fill_fda19_20 : decode cJ7_fill_fda19 20 = .ok (.iastore, 1) := by decide +kernel
theorem dJ7_fill_fda19_21 : decode cJ7_fill_fda19 21 = .ok (.iinc 4 1, 3) := by decide +kernel
theorem dJ7_fill_fda19_24 : decode cJ7_fill_fda19 24 = .ok (.goto (-14), 3) := by decide +kernel
theorem dJ7_fill_fda19_27 : decode cJ7_fill_fda19 27 = .ok (.return_, 1) := by decide +kernel
end
section
theorem i_C0 : ∀ w ∈ u_ws RX0 TX0 15, w ∈ lw_tbl := by decide +kernel
theorem i_C1 : (u_ws RX0 TX0 15).all goodWord = true := by decide +kernel
theorem i_C : ∀ w ∈ u_ws RX0 TX0 15, w ∈ TT := fun w h => List.mem_filter.mpr ⟨i_C0 w h, List.all_eq_true.mp i_C1 w h⟩
theorem t_C_9 : Cond.fieldLink RX0 9 "TurnedCards$Card" "threadAt" "[I" ∈ TT := tt_mem 71 (by decide +kernel) (by decide +kernel)
theorem t_C_15 : Cond.fieldLink RX0 15 "TurnedCards$Card" "colours" "[I" ∈ TT := tt_mem 74 (by decide +kernel) (by decide +kernel)
theorem t_C_18 : Cond.fieldLink RX0 18 "TurnedCards$Card" "turns" "[I" ∈ TT := tt_mem 76 (by decide +kernel) (by decide +kernel)
theorem t_C_21 : Cond.fieldLink RX0 21 "TurnedCards$Card" "fronts" "[I" ∈ TT := tt_mem 78 (by decide +kernel) (by decide +kernel)
theorem t_C_24 : Cond.fieldLink RX0 24 "TurnedCards$Card" "slants" "[I" ∈ TT := tt_mem 80 (by decide +kernel) (by decide +kernel)
theorem t_C_27 : Cond.fieldLink RX0 27 "TurnedCards$Card" "flipsAhead" "[I" ∈ TT := tt_mem 82 (by decide +kernel) (by decide +kernel)
theorem t_C_30 : Cond.fieldLink RX0 30 "TurnedCards$Card" "picture" "[I" ∈ TT := tt_mem 83 (by decide +kernel) (by decide +kernel)
theorem t_C_33 : Cond.fieldLink RX0 33 "TurnedCards$Card" "plan" "[I" ∈ TT := tt_mem 85 (by decide +kernel) (by decide +kernel)
theorem lk_C_36 : LkS RX0 36 yJ7_fill_53178 cJ7_fill_53178 4 none 2 := ⟨tt_mem 175 (by decide +kernel) (by decide +kernel), tt_mem 176 (by decide +kernel) (by decide +kernel), tt_mem 51 (by decide +kernel) (by decide +kernel), tt_mem 177 (by decide +kernel) (by decide +kernel), (by decide +kernel), (by decide +kernel), (by decide +kernel)⟩
theorem t_C_42 : Cond.fieldLink RX0 42 "TurnedCards$Card" "threaded" "I" ∈ TT := tt_mem 88 (by decide +kernel) (by decide +kernel)
theorem t_C_46 : Cond.fieldLink RX0 46 "TurnedCards$Card" "inPack" "I" ∈ TT := tt_mem 90 (by decide +kernel) (by decide +kernel)
theorem t_C_49 : Cond.fieldLink RX0 49 "TurnedCards$Card" "twist" "I" ∈ TT := tt_mem 92 (by decide +kernel) (by decide +kernel)
theorem t_C_52 : Cond.fieldLink RX0 52 "TurnedCards$Card" "flips" "I" ∈ TT := tt_mem 95 (by decide +kernel) (by decide +kernel)
theorem t_C_55 : Cond.fieldLink RX0 55 "TurnedCards$Card" "planned" "Z" ∈ TT := tt_mem 101 (by decide +kernel) (by decide +kernel)
theorem lk_C_59 : LkV RX0 59 yX0_sense cX0_sense 1 (some .int) 0 := ⟨tt_mem 279 (by decide +kernel) (by decide +kernel), tt_mem 280 (by decide +kernel) (by decide +kernel), tt_mem 281 (by decide +kernel) (by decide +kernel), tt_mem 49 (by decide +kernel) (by decide +kernel), tt_mem 282 (by decide +kernel) (by decide +kernel), (by decide +kernel), (by decide +kernel), (by decide +kernel)⟩
theorem lk_C_63 : LkV RX0 63 yX0_exchange cX0_exchange 4 none 2 := ⟨tt_mem 233 (by decide +kernel) (by decide +kernel), tt_mem 235 (by decide +kernel) (by decide +kernel), tt_mem 2 (by decide +kernel) (by decide +kernel), tt_mem 49 (by decide +kernel) (by decide +kernel), tt_mem 236 (by decide +kernel) (by decide +kernel), (by decide +kernel), (by decide +kernel), (by decide +kernel)⟩
theorem lk_C_67 : LkV RX0 67 yX0_slantOf cX0_slantOf 3 (some .int) 2 := ⟨tt_mem 267 (by decide +kernel) (by decide +kernel), tt_mem 269 (by decide +kernel) (by decide +kernel), tt_mem 3 (by decide +kernel) (by decide +kernel), tt_mem 49 (by decide +kernel) (by decide +kernel), tt_mem 270 (by decide +kernel) (by decide +kernel), (by decide +kernel), (by decide +kernel), (by decide +kernel)⟩
theorem lk_C_71 : LkV RX0 71 yX0_move cX0_move 3 none 1 := ⟨tt_mem 271 (by decide +kernel) (by decide +kernel), tt_mem 273 (by decide +kernel) (by decide +kernel), tt_mem 4 (by decide +kernel) (by decide +kernel), tt_mem 49 (by decide +kernel) (by decide +kernel), tt_mem 274 (by decide +kernel) (by decide +kernel), (by decide +kernel), (by decide +kernel), (by decide +kernel)⟩
theorem lk_C_75 : LkV RX0 75 yX0_showing cX0_showing 2 (some .int) 1 := ⟨tt_mem 286 (by decide +kernel) (by decide +kernel), tt_mem 287 (by decide +kernel) (by decide +kernel), tt_mem 288 (by decide +kernel) (by decide +kernel), tt_mem 49 (by decide +kernel) (by decide +kernel), tt_mem 289 (by decide +kernel) (by decide +kernel), (by decide +kernel), (by decide +kernel), (by decide +kernel)⟩
theorem lk_C_79 : LkV RX0 79 yX0_turnOver cX0_turnOver 1 none 0 := ⟨tt_mem 308 (by decide +kernel) (by decide +kernel), tt_mem 230 (by decide +kernel) (by decide +kernel), tt_mem 231 (by decide +kernel) (by decide +kernel), tt_mem 49 (by decide +kernel) (by decide +kernel), tt_mem 232 (by decide +kernel) (by decide +kernel), (by decide +kernel), (by decide +kernel), (by decide +kernel)⟩
theorem lk_C_82 : LkS RX0 82 yX0_opposite cX0_opposite 1 (some .int) 1 := ⟨tt_mem 309 (by decide +kernel) (by decide +kernel), tt_mem 310 (by decide +kernel) (by decide +kernel), tt_mem 49 (by decide +kernel) (by decide +kernel), tt_mem 311 (by decide +kernel) (by decide +kernel), (by decide +kernel), (by decide +kernel), (by decide +kernel)⟩
theorem lk_C_85 : LkV RX0 85 yX0_twistOf cX0_twistOf 2 (some .int) 1 := ⟨tt_mem 275 (by decide +kernel) (by decide +kernel), tt_mem 276 (by decide +kernel) (by decide +kernel), tt_mem 277 (by decide +kernel) (by decide +kernel), tt_mem 49 (by decide +kernel) (by decide +kernel), tt_mem 278 (by decide +kernel) (by decide +kernel), (by decide +kernel), (by decide +kernel), (by decide +kernel)⟩
theorem lk_C_94 : LkV RX0 94 yX0_threadOn cX0_threadOn 3 (some .int) 2 := ⟨tt_mem 328 (by decide +kernel) (by decide +kernel), tt_mem 329 (by decide +kernel) (by decide +kernel), tt_mem 330 (by decide +kernel) (by decide +kernel), tt_mem 49 (by decide +kernel) (by decide +kernel), tt_mem 331 (by decide +kernel) (by decide +kernel), (by decide +kernel), (by decide +kernel), (by decide +kernel)⟩
theorem lk_C_98 : LkS RX0 98 yJ9_max_7cf53 cJ9_max_7cf53 2 (some .int) 2 := ⟨tt_mem 349 (by decide +kernel) (by decide +kernel), tt_mem 350 (by decide +kernel) (by decide +kernel), tt_mem 54 (by decide +kernel) (by decide +kernel), tt_mem 351 (by decide +kernel) (by decide +kernel), (by decide +kernel), (by decide +kernel), (by decide +kernel)⟩
theorem lk_C_103 : LkS RX0 103 yJ9_floorMod_7cf53 cJ9_floorMod_7cf53 3 (some .int) 2 := ⟨tt_mem 484 (by decide +kernel) (by decide +kernel), tt_mem 485 (by decide +kernel) (by decide +kernel), tt_mem 54 (by decide +kernel) (by decide +kernel), tt_mem 486 (by decide +kernel) (by decide +kernel), (by decide +kernel), (by decide +kernel), (by decide +kernel)⟩
theorem lk_C_106 : LkV RX0 106 yX0_wantedOf cX0_wantedOf 4 (some .int) 2 := ⟨tt_mem 535 (by decide +kernel) (by decide +kernel), tt_mem 536 (by decide +kernel) (by decide +kernel), tt_mem 537 (by decide +kernel) (by decide +kernel), tt_mem 49 (by decide +kernel) (by decide +kernel), tt_mem 538 (by decide +kernel) (by decide +kernel), (by decide +kernel), (by decide +kernel), (by decide +kernel)⟩
theorem lk_C_109 : LkV RX0 109 yX0_fits cX0_fits 3 (some .boolean) 2 := ⟨tt_mem 556 (by decide +kernel) (by decide +kernel), tt_mem 437 (by decide +kernel) (by decide +kernel), tt_mem 438 (by decide +kernel) (by decide +kernel), tt_mem 49 (by decide +kernel) (by decide +kernel), tt_mem 439 (by decide +kernel) (by decide +kernel), (by decide +kernel), (by decide +kernel), (by decide +kernel)⟩
theorem t_cp_nat : Cond.native arraycopyName ∈ TT := tt_mem 285 (by decide +kernel) (by decide +kernel)
theorem t_cp_stat : Cond.static arraycopyName ∈ TT := tt_mem 284 (by decide +kernel) (by decide +kernel)
theorem t_cp_ini : Cond.initialized "java/lang/System" ∈ TT := tt_mem 53 (by decide +kernel) (by decide +kernel)
theorem t_cp_C_88 : Cond.methodLink RX0 88 arraycopyName ∈ TT := tt_mem 283 (by decide +kernel) (by decide +kernel)
end
section
def wC (K : KK) (q : Nat → Nat) (S : Sta) : va_W := [(q 0, .inr (0, [.ref (q 1), .ref (q 2), .ref (q 3), .ref (q 4), .ref (q 5), .ref (q 6), .ref (q 7), .ref (q 8), .int (iI (S.1 0)), .int (iI (S.1 1)), .int (iI (S.1 2)), .int (iI (S.1 3)), .int (iI (S.1 4)), .int (iI (S.1 5)), .int (iI (S.1 6))])), (q 1, zA K 4 (S.2 0)), (q 2, zA K 4 (S.2 1)), (q 3, zA K 60 (S.2 2)), (q 4, zA K 60 (S.2 3)), (q 5, zA K 60 (S.2 4)), (q 6, zA K 60 (S.2 5)), (q 7, zA K 30 (S.2 6)), (q 8, zA K 30 (S.2 7))]
def rgC (N : Int) (k : Nat) (v : Int) : Prop := match k with
  | 0 => 0 ≤ v ∧ v ≤ 3
  | 1 => 0 ≤ v ∧ v ≤ 7
  | 2 => 0 ≤ v ∧ v ≤ 2
  | 3 => 0 ≤ v ∧ v ≤ 3
  | 4 => 0 ≤ v ∧ v ≤ 1
  | 5 => 0 ≤ v ∧ v ≤ N
  | 6 => -99 ≤ v ∧ v ≤ 7
  | 7 => 0 ≤ v ∧ v ≤ 2
  | _ => True
def sgC (N : Int) (k : Nat) (v : Int) : Prop := match k with
  | 0 => 0 ≤ v ∧ v ≤ 1
  | 1 => 0 ≤ v ∧ v ≤ 3
  | 3 => 0 ≤ v ∧ v ≤ N
  | 4 => -99 ≤ v ∧ v ≤ 1000
  | 5 => -1000 ≤ v ∧ v ≤ 1000
  | 6 => 0 ≤ v ∧ v ≤ 1
  | _ => True
def InvC (N : Int) (S : Sta) : Prop := (0 ≤ N ∧ N ≤ 1000) ∧ (∀ j : Nat, sgC N j (S.1 j)) ∧ ∀ (k : Nat) (j : Int), rgC N k (S.2 k j)
def InvCT (S : Sta) : Prop := -60 ≤ S.1 2 ∧ S.1 2 ≤ 60
theorem InvC.mA {N : Int} {S : Sta} {k : Nat} {z v : Int} (h : InvC N S) (hv : rgC N k v) : InvC N (mA S k z v) := by
  refine ⟨h.1, h.2.1, fun i j => ?_⟩
  show rgC N i ((if i = k then iu (S.2 k) z v else S.2 i) j)
  split
  · next e =>
    subst e
    unfold iu
    split
    · exact hv
    · exact h.2.2 i j
  · exact h.2.2 i j
theorem InvC.mI {N : Int} {S : Sta} {k : Nat} {v : Int} (h : InvC N S) (hv : sgC N k v) : InvC N (mI S k v) := by
  refine ⟨h.1, fun i => ?_, h.2.2⟩
  show sgC N i (if i = k then v else S.1 i)
  split
  · next e => subst e; exact hv
  · exact h.2.1 i
theorem InvC.mW {N : Int} {S : Sta} {k : Nat} {g : Int → Int} (h : InvC N S) (hv : ∀ j, rgC N k (g j)) : InvC N (mW S k g) := by
  refine ⟨h.1, h.2.1, fun i j => ?_⟩
  show rgC N i ((if i = k then g else S.2 i) j)
  split
  · next e => subst e; exact hv j
  · exact h.2.2 i j
theorem InvC_s2 {S : Sta} (h : InvCT S) : -60 ≤ S.1 2 ∧ S.1 2 ≤ 60 := h
theorem InvC_s0 {N : Int} {S : Sta} (h : InvC N S) : 0 ≤ S.1 0 ∧ S.1 0 ≤ 1 := h.2.1 0
theorem InvC_s1 {N : Int} {S : Sta} (h : InvC N S) : 0 ≤ S.1 1 ∧ S.1 1 ≤ 3 := h.2.1 1
theorem InvC_s3 {N : Int} {S : Sta} (h : InvC N S) : 0 ≤ S.1 3 ∧ S.1 3 ≤ 1000 := by
  have h1 : 0 ≤ S.1 3 ∧ S.1 3 ≤ N := h.2.1 3
  have h2 := h.1
  omega
theorem InvC_s4 {N : Int} {S : Sta} (h : InvC N S) : -99 ≤ S.1 4 ∧ S.1 4 ≤ 1000 := h.2.1 4
theorem InvC_s5 {N : Int} {S : Sta} (h : InvC N S) : -1000 ≤ S.1 5 ∧ S.1 5 ≤ 1000 := h.2.1 5
theorem InvC_s6 {N : Int} {S : Sta} (h : InvC N S) : 0 ≤ S.1 6 ∧ S.1 6 ≤ 1 := h.2.1 6
theorem InvC_a0 {N : Int} {S : Sta} (h : InvC N S) (j : Int) : 0 ≤ S.2 0 j ∧ S.2 0 j ≤ 3 := h.2.2 0 j
theorem InvC_a1 {N : Int} {S : Sta} (h : InvC N S) (j : Int) : 0 ≤ S.2 1 j ∧ S.2 1 j ≤ 7 := h.2.2 1 j
theorem InvC_a2 {N : Int} {S : Sta} (h : InvC N S) (j : Int) : 0 ≤ S.2 2 j ∧ S.2 2 j ≤ 2 := h.2.2 2 j
theorem InvC_a3 {N : Int} {S : Sta} (h : InvC N S) (j : Int) : 0 ≤ S.2 3 j ∧ S.2 3 j ≤ 3 := h.2.2 3 j
theorem InvC_a4 {N : Int} {S : Sta} (h : InvC N S) (j : Int) : 0 ≤ S.2 4 j ∧ S.2 4 j ≤ 1 := h.2.2 4 j
theorem InvC_a5 {N : Int} {S : Sta} (h : InvC N S) (j : Int) : 0 ≤ S.2 5 j ∧ S.2 5 j ≤ 1000 := by
  have h1 : 0 ≤ S.2 5 j ∧ S.2 5 j ≤ N := h.2.2 5 j
  have h2 := h.1
  omega
theorem InvC_a6 {N : Int} {S : Sta} (h : InvC N S) (j : Int) : -99 ≤ S.2 6 j ∧ S.2 6 j ≤ 7 := h.2.2 6 j
theorem InvC_a7 {N : Int} {S : Sta} (h : InvC N S) (j : Int) : 0 ≤ S.2 7 j ∧ S.2 7 j ≤ 2 := h.2.2 7 j
section WC
variable {l : Launch} {R : Room} {K : KK} {x : Cx} {cc : ByteArray} {nL : Nat} {pc : Nat} {lv : List (Nat × Value)} {st : List Value} {q : Nat → Nat} {S : Sta}
theorem gC_r0 (X : OK l R K x cc nL RX0) (hdg : decode cc pc = .ok (.getfield 9, 3)) (kk : GG l R K x (wC K q S) (pc + 3) lv (.ref (q 1) :: st)) : GG l R K x (wC K q S) pc lv (.ref (q 0) :: st) :=
  gx_get X (ci := 0) (T := TX0) (N := 15) (C := RX0) i_C 0 rfl rfl 0 (by decide) t_C_9 rfl rfl hdg kk
theorem gC_l0 (X : OK l R K x cc nL RX0) {z v : Int} (hz : 0 ≤ z ∧ z < 4) (hv : S.2 0 z = v) (hdg : decode cc pc = .ok (.iaload, 1)) (kk : GG l R K x (wC K q S) (pc + 1) lv (.int (iI v) :: st)) : GG l R K x (wC K q S) pc lv (.int (iI z) :: .ref (q 1) :: st) :=
  gx_iald X 1 rfl ⟨hz.1, by omega, by omega⟩ hv hdg kk
theorem gC_s0 (X : OK l R K x cc nL RX0) (hD : va_D (cx_A x) (wC K q S)) {z v : Int} (hz : 0 ≤ z ∧ z < 4) (hdg : decode cc pc = .ok (.iastore, 1)) (kk : GG l R K x (wC K q (mA S 0 z v)) (pc + 1) lv st) : GG l R K x (wC K q S) pc lv (.int (iI v) :: .int (iI z) :: .ref (q 1) :: st) :=
  gx_iast X hD 1 rfl ⟨hz.1, by omega, by omega⟩ rfl hdg kk
theorem gC_r1 (X : OK l R K x cc nL RX0) (hdg : decode cc pc = .ok (.getfield 15, 3)) (kk : GG l R K x (wC K q S) (pc + 3) lv (.ref (q 2) :: st)) : GG l R K x (wC K q S) pc lv (.ref (q 0) :: st) :=
  gx_get X (ci := 0) (T := TX0) (N := 15) (C := RX0) i_C 0 rfl rfl 1 (by decide) t_C_15 rfl rfl hdg kk
theorem gC_l1 (X : OK l R K x cc nL RX0) {z v : Int} (hz : 0 ≤ z ∧ z < 4) (hv : S.2 1 z = v) (hdg : decode cc pc = .ok (.iaload, 1)) (kk : GG l R K x (wC K q S) (pc + 1) lv (.int (iI v) :: st)) : GG l R K x (wC K q S) pc lv (.int (iI z) :: .ref (q 2) :: st) :=
  gx_iald X 2 rfl ⟨hz.1, by omega, by omega⟩ hv hdg kk
theorem gC_s1 (X : OK l R K x cc nL RX0) (hD : va_D (cx_A x) (wC K q S)) {z v : Int} (hz : 0 ≤ z ∧ z < 4) (hdg : decode cc pc = .ok (.iastore, 1)) (kk : GG l R K x (wC K q (mA S 1 z v)) (pc + 1) lv st) : GG l R K x (wC K q S) pc lv (.int (iI v) :: .int (iI z) :: .ref (q 2) :: st) :=
  gx_iast X hD 2 rfl ⟨hz.1, by omega, by omega⟩ rfl hdg kk
theorem gC_r2 (X : OK l R K x cc nL RX0) (hdg : decode cc pc = .ok (.getfield 18, 3)) (kk : GG l R K x (wC K q S) (pc + 3) lv (.ref (q 3) :: st)) : GG l R K x (wC K q S) pc lv (.ref (q 0) :: st) :=
  gx_get X (ci := 0) (T := TX0) (N := 15) (C := RX0) i_C 0 rfl rfl 2 (by decide) t_C_18 rfl rfl hdg kk
theorem gC_l2 (X : OK l R K x cc nL RX0) {z v : Int} (hz : 0 ≤ z ∧ z < 60) (hv : S.2 2 z = v) (hdg : decode cc pc = .ok (.iaload, 1)) (kk : GG l R K x (wC K q S) (pc + 1) lv (.int (iI v) :: st)) : GG l R K x (wC K q S) pc lv (.int (iI z) :: .ref (q 3) :: st) :=
  gx_iald X 3 rfl ⟨hz.1, by omega, by omega⟩ hv hdg kk
theorem gC_s2 (X : OK l R K x cc nL RX0) (hD : va_D (cx_A x) (wC K q S)) {z v : Int} (hz : 0 ≤ z ∧ z < 60) (hdg : decode cc pc = .ok (.iastore, 1)) (kk : GG l R K x (wC K q (mA S 2 z v)) (pc + 1) lv st) : GG l R K x (wC K q S) pc lv (.int (iI v) :: .int (iI z) :: .ref (q 3) :: st) :=
  gx_iast X hD 3 rfl ⟨hz.1, by omega, by omega⟩ rfl hdg kk
theorem gC_r3 (X : OK l R K x cc nL RX0) (hdg : decode cc pc = .ok (.getfield 21, 3)) (kk : GG l R K x (wC K q S) (pc + 3) lv (.ref (q 4) :: st)) : GG l R K x (wC K q S) pc lv (.ref (q 0) :: st) :=
  gx_get X (ci := 0) (T := TX0) (N := 15) (C := RX0) i_C 0 rfl rfl 3 (by decide) t_C_21 rfl rfl hdg kk
theorem gC_l3 (X : OK l R K x cc nL RX0) {z v : Int} (hz : 0 ≤ z ∧ z < 60) (hv : S.2 3 z = v) (hdg : decode cc pc = .ok (.iaload, 1)) (kk : GG l R K x (wC K q S) (pc + 1) lv (.int (iI v) :: st)) : GG l R K x (wC K q S) pc lv (.int (iI z) :: .ref (q 4) :: st) :=
  gx_iald X 4 rfl ⟨hz.1, by omega, by omega⟩ hv hdg kk
theorem gC_s3 (X : OK l R K x cc nL RX0) (hD : va_D (cx_A x) (wC K q S)) {z v : Int} (hz : 0 ≤ z ∧ z < 60) (hdg : decode cc pc = .ok (.iastore, 1)) (kk : GG l R K x (wC K q (mA S 3 z v)) (pc + 1) lv st) : GG l R K x (wC K q S) pc lv (.int (iI v) :: .int (iI z) :: .ref (q 4) :: st) :=
  gx_iast X hD 4 rfl ⟨hz.1, by omega, by omega⟩ rfl hdg kk
theorem gC_r4 (X : OK l R K x cc nL RX0) (hdg : decode cc pc = .ok (.getfield 24, 3)) (kk : GG l R K x (wC K q S) (pc + 3) lv (.ref (q 5) :: st)) : GG l R K x (wC K q S) pc lv (.ref (q 0) :: st) :=
  gx_get X (ci := 0) (T := TX0) (N := 15) (C := RX0) i_C 0 rfl rfl 4 (by decide) t_C_24 rfl rfl hdg kk
theorem gC_l4 (X : OK l R K x cc nL RX0) {z v : Int} (hz : 0 ≤ z ∧ z < 60) (hv : S.2 4 z = v) (hdg : decode cc pc = .ok (.iaload, 1)) (kk : GG l R K x (wC K q S) (pc + 1) lv (.int (iI v) :: st)) : GG l R K x (wC K q S) pc lv (.int (iI z) :: .ref (q 5) :: st) :=
  gx_iald X 5 rfl ⟨hz.1, by omega, by omega⟩ hv hdg kk
theorem gC_s4 (X : OK l R K x cc nL RX0) (hD : va_D (cx_A x) (wC K q S)) {z v : Int} (hz : 0 ≤ z ∧ z < 60) (hdg : decode cc pc = .ok (.iastore, 1)) (kk : GG l R K x (wC K q (mA S 4 z v)) (pc + 1) lv st) : GG l R K x (wC K q S) pc lv (.int (iI v) :: .int (iI z) :: .ref (q 5) :: st) :=
  gx_iast X hD 5 rfl ⟨hz.1, by omega, by omega⟩ rfl hdg kk
theorem gC_r5 (X : OK l R K x cc nL RX0) (hdg : decode cc pc = .ok (.getfield 27, 3)) (kk : GG l R K x (wC K q S) (pc + 3) lv (.ref (q 6) :: st)) : GG l R K x (wC K q S) pc lv (.ref (q 0) :: st) :=
  gx_get X (ci := 0) (T := TX0) (N := 15) (C := RX0) i_C 0 rfl rfl 5 (by decide) t_C_27 rfl rfl hdg kk
theorem gC_l5 (X : OK l R K x cc nL RX0) {z v : Int} (hz : 0 ≤ z ∧ z < 60) (hv : S.2 5 z = v) (hdg : decode cc pc = .ok (.iaload, 1)) (kk : GG l R K x (wC K q S) (pc + 1) lv (.int (iI v) :: st)) : GG l R K x (wC K q S) pc lv (.int (iI z) :: .ref (q 6) :: st) :=
  gx_iald X 6 rfl ⟨hz.1, by omega, by omega⟩ hv hdg kk
theorem gC_s5 (X : OK l R K x cc nL RX0) (hD : va_D (cx_A x) (wC K q S)) {z v : Int} (hz : 0 ≤ z ∧ z < 60) (hdg : decode cc pc = .ok (.iastore, 1)) (kk : GG l R K x (wC K q (mA S 5 z v)) (pc + 1) lv st) : GG l R K x (wC K q S) pc lv (.int (iI v) :: .int (iI z) :: .ref (q 6) :: st) :=
  gx_iast X hD 6 rfl ⟨hz.1, by omega, by omega⟩ rfl hdg kk
theorem gC_r6 (X : OK l R K x cc nL RX0) (hdg : decode cc pc = .ok (.getfield 30, 3)) (kk : GG l R K x (wC K q S) (pc + 3) lv (.ref (q 7) :: st)) : GG l R K x (wC K q S) pc lv (.ref (q 0) :: st) :=
  gx_get X (ci := 0) (T := TX0) (N := 15) (C := RX0) i_C 0 rfl rfl 6 (by decide) t_C_30 rfl rfl hdg kk
theorem gC_l6 (X : OK l R K x cc nL RX0) {z v : Int} (hz : 0 ≤ z ∧ z < 30) (hv : S.2 6 z = v) (hdg : decode cc pc = .ok (.iaload, 1)) (kk : GG l R K x (wC K q S) (pc + 1) lv (.int (iI v) :: st)) : GG l R K x (wC K q S) pc lv (.int (iI z) :: .ref (q 7) :: st) :=
  gx_iald X 7 rfl ⟨hz.1, by omega, by omega⟩ hv hdg kk
theorem gC_s6 (X : OK l R K x cc nL RX0) (hD : va_D (cx_A x) (wC K q S)) {z v : Int} (hz : 0 ≤ z ∧ z < 30) (hdg : decode cc pc = .ok (.iastore, 1)) (kk : GG l R K x (wC K q (mA S 6 z v)) (pc + 1) lv st) : GG l R K x (wC K q S) pc lv (.int (iI v) :: .int (iI z) :: .ref (q 7) :: st) :=
  gx_iast X hD 7 rfl ⟨hz.1, by omega, by omega⟩ rfl hdg kk
theorem gC_r7 (X : OK l R K x cc nL RX0) (hdg : decode cc pc = .ok (.getfield 33, 3)) (kk : GG l R K x (wC K q S) (pc + 3) lv (.ref (q 8) :: st)) : GG l R K x (wC K q S) pc lv (.ref (q 0) :: st) :=
  gx_get X (ci := 0) (T := TX0) (N := 15) (C := RX0) i_C 0 rfl rfl 7 (by decide) t_C_33 rfl rfl hdg kk
theorem gC_l7 (X : OK l R K x cc nL RX0) {z v : Int} (hz : 0 ≤ z ∧ z < 30) (hv : S.2 7 z = v) (hdg : decode cc pc = .ok (.iaload, 1)) (kk : GG l R K x (wC K q S) (pc + 1) lv (.int (iI v) :: st)) : GG l R K x (wC K q S) pc lv (.int (iI z) :: .ref (q 8) :: st) :=
  gx_iald X 8 rfl ⟨hz.1, by omega, by omega⟩ hv hdg kk
theorem gC_s7 (X : OK l R K x cc nL RX0) (hD : va_D (cx_A x) (wC K q S)) {z v : Int} (hz : 0 ≤ z ∧ z < 30) (hdg : decode cc pc = .ok (.iastore, 1)) (kk : GG l R K x (wC K q (mA S 7 z v)) (pc + 1) lv st) : GG l R K x (wC K q S) pc lv (.int (iI v) :: .int (iI z) :: .ref (q 8) :: st) :=
  gx_iast X hD 8 rfl ⟨hz.1, by omega, by omega⟩ rfl hdg kk
theorem gC_g0 (X : OK l R K x cc nL RX0) {v : Int} (hv : S.1 0 = v) (hdg : decode cc pc = .ok (.getfield 42, 3)) (kk : GG l R K x (wC K q S) (pc + 3) lv (.int (iI v) :: st)) : GG l R K x (wC K q S) pc lv (.ref (q 0) :: st) := by
  subst hv
  exact gx_get X (ci := 0) (T := TX0) (N := 15) (C := RX0) i_C 0 rfl rfl 8 (by decide) t_C_42 rfl rfl hdg kk
theorem gC_p0 (X : OK l R K x cc nL RX0) (hD : va_D (cx_A x) (wC K q S)) {v : Int} (hdg : decode cc pc = .ok (.putfield 42, 3)) (kk : GG l R K x (wC K q (mI S 0 v)) (pc + 3) lv st) : GG l R K x (wC K q S) pc lv (.int (iI v) :: .ref (q 0) :: st) :=
  gx_put X (ci := 0) (T := TX0) (N := 15) (C := RX0) (ty := .int) i_C tyX0 tyX0_ok nmX0 hD 0 rfl rfl 8 (by decide) t_C_42 rfl rfl (by decide) rfl rfl (Nat.le_of_ble_eq_true rfl) rfl hdg kk
theorem gC_g1 (X : OK l R K x cc nL RX0) {v : Int} (hv : S.1 1 = v) (hdg : decode cc pc = .ok (.getfield 46, 3)) (kk : GG l R K x (wC K q S) (pc + 3) lv (.int (iI v) :: st)) : GG l R K x (wC K q S) pc lv (.ref (q 0) :: st) := by
  subst hv
  exact gx_get X (ci := 0) (T := TX0) (N := 15) (C := RX0) i_C 0 rfl rfl 9 (by decide) t_C_46 rfl rfl hdg kk
theorem gC_p1 (X : OK l R K x cc nL RX0) (hD : va_D (cx_A x) (wC K q S)) {v : Int} (hdg : decode cc pc = .ok (.putfield 46, 3)) (kk : GG l R K x (wC K q (mI S 1 v)) (pc + 3) lv st) : GG l R K x (wC K q S) pc lv (.int (iI v) :: .ref (q 0) :: st) :=
  gx_put X (ci := 0) (T := TX0) (N := 15) (C := RX0) (ty := .int) i_C tyX0 tyX0_ok nmX0 hD 0 rfl rfl 9 (by decide) t_C_46 rfl rfl (by decide) rfl rfl (Nat.le_of_ble_eq_true rfl) rfl hdg kk
theorem gC_g2 (X : OK l R K x cc nL RX0) {v : Int} (hv : S.1 2 = v) (hdg : decode cc pc = .ok (.getfield 49, 3)) (kk : GG l R K x (wC K q S) (pc + 3) lv (.int (iI v) :: st)) : GG l R K x (wC K q S) pc lv (.ref (q 0) :: st) := by
  subst hv
  exact gx_get X (ci := 0) (T := TX0) (N := 15) (C := RX0) i_C 0 rfl rfl 10 (by decide) t_C_49 rfl rfl hdg kk
theorem gC_p2 (X : OK l R K x cc nL RX0) (hD : va_D (cx_A x) (wC K q S)) {v : Int} (hdg : decode cc pc = .ok (.putfield 49, 3)) (kk : GG l R K x (wC K q (mI S 2 v)) (pc + 3) lv st) : GG l R K x (wC K q S) pc lv (.int (iI v) :: .ref (q 0) :: st) :=
  gx_put X (ci := 0) (T := TX0) (N := 15) (C := RX0) (ty := .int) i_C tyX0 tyX0_ok nmX0 hD 0 rfl rfl 10 (by decide) t_C_49 rfl rfl (by decide) rfl rfl (Nat.le_of_ble_eq_true rfl) rfl hdg kk
theorem gC_g3 (X : OK l R K x cc nL RX0) {v : Int} (hv : S.1 3 = v) (hdg : decode cc pc = .ok (.getfield 52, 3)) (kk : GG l R K x (wC K q S) (pc + 3) lv (.int (iI v) :: st)) : GG l R K x (wC K q S) pc lv (.ref (q 0) :: st) := by
  subst hv
  exact gx_get X (ci := 0) (T := TX0) (N := 15) (C := RX0) i_C 0 rfl rfl 11 (by decide) t_C_52 rfl rfl hdg kk
theorem gC_p3 (X : OK l R K x cc nL RX0) (hD : va_D (cx_A x) (wC K q S)) {v : Int} (hdg : decode cc pc = .ok (.putfield 52, 3)) (kk : GG l R K x (wC K q (mI S 3 v)) (pc + 3) lv st) : GG l R K x (wC K q S) pc lv (.int (iI v) :: .ref (q 0) :: st) :=
  gx_put X (ci := 0) (T := TX0) (N := 15) (C := RX0) (ty := .int) i_C tyX0 tyX0_ok nmX0 hD 0 rfl rfl 11 (by decide) t_C_52 rfl rfl (by decide) rfl rfl (Nat.le_of_ble_eq_true rfl) rfl hdg kk
theorem gC_g6 (X : OK l R K x cc nL RX0) {v : Int} (hv : S.1 6 = v) (hdg : decode cc pc = .ok (.getfield 55, 3)) (kk : GG l R K x (wC K q S) (pc + 3) lv (.int (iI v) :: st)) : GG l R K x (wC K q S) pc lv (.ref (q 0) :: st) := by
  subst hv
  exact gx_get X (ci := 0) (T := TX0) (N := 15) (C := RX0) i_C 0 rfl rfl 14 (by decide) t_C_55 rfl rfl hdg kk
theorem gC_p6 (X : OK l R K x cc nL RX0) (hD : va_D (cx_A x) (wC K q S)) {v : Int} (hb : v = 0 ∨ v = 1) (hdg : decode cc pc = .ok (.putfield 55, 3)) (kk : GG l R K x (wC K q (mI S 6 v)) (pc + 3) lv st) : GG l R K x (wC K q S) pc lv (.int (iI v) :: .ref (q 0) :: st) :=
  gx_put X (ci := 0) (T := TX0) (N := 15) (C := RX0) (ty := .boolean) i_C tyX0 tyX0_ok nmX0 hD 0 rfl rfl 14 (by decide) t_C_55 rfl rfl (by decide) (narrow_bool hb) (by rcases hb with rfl | rfl <;> decide) (Nat.le_of_ble_eq_true rfl) rfl hdg kk
end WC
end
section
def J_abs (v : Int) : Int := if 0 ≤ v then v else (-v)
theorem J_abs_sp (v : Int) : (0 ≤ v ∧ J_abs v = v) ∨ (v < 0 ∧ J_abs v = -v) := by
  unfold J_abs
  split <;> omega
set_option maxRecDepth 100000 in
theorem c_J_abs {l : Launch} {K : KK} (v : Int) (hp0 : -2147483647 ≤ v ∧ v ≤ 2147483647) : CtI l yJ9_abs_0f7a4 cJ9_abs_0f7a4 1 .int (0, 0) K [.int (iI v)] [] (J_abs v) [] := by
  refine ctI_ofF (by decide +kernel) (Nat.le_of_ble_eq_true rfl) rfl ?_
  intro x X hD hR
  refine gx_iload_n X dJ9_abs_0f7a4_0 rfl 0 rfl ?_
  have J10 : ∀ (m10 : Int), m10 = (if 0 ≤ v then v else (-v)) → GG l (rmK (0, 0)) K x [] 10 [(0, .int (iI v))] [.int (iI m10)] := by
    intro m10 e_m10
    exact gx_iret hR (e_m10.symm) rfl dJ9_abs_0f7a4_10
  refine gx_if_ge (tgt := 9) X dJ9_abs_0f7a4_1 (by decide) (by omega) (fun hc1 => ?_) (fun hc1 => ?_)
  · refine gx_iload_n X dJ9_abs_0f7a4_9 rfl 0 rfl ?_
    refine gx_sub [0] rfl ?_
    exact J10 v ((if_pos hc1).symm) 
  · refine gx_iload_n X dJ9_abs_0f7a4_4 rfl 0 rfl ?_
    refine gx_ineg X dJ9_abs_0f7a4_5 ?_
    refine gx_goto (tgt := 10) X dJ9_abs_0f7a4_6 (by decide) ?_
    refine gx_sub [0] rfl ?_
    exact J10 (-v) ((if_neg hc1).symm) 
def J_max (a : Int) (b : Int) : Int := if a < b then b else a
theorem J_max_sp (a b : Int) : (a < b ∧ J_max a b = b) ∨ (b ≤ a ∧ J_max a b = a) := by
  unfold J_max
  split <;> omega
set_option maxRecDepth 100000 in
theorem c_J_max {l : Launch} {K : KK} (a : Int) (b : Int) (hp0 : ok32 a) (hp1 : ok32 b) : CtI l yJ9_max_7cf53 cJ9_max_7cf53 2 .int (0, 0) K [.int (iI a), .int (iI b)] [] (J_max a b) [] := by
  refine ctI_ofF (by decide +kernel) (Nat.le_of_ble_eq_true rfl) rfl ?_
  intro x X hD hR
  refine gx_iload_n X dJ9_max_7cf53_0 rfl 0 rfl ?_
  refine gx_iload_n X dJ9_max_7cf53_1 rfl 1 rfl ?_
  have J10 : ∀ (m10 : Int), m10 = (if a < b then b else a) → GG l (rmK (0, 0)) K x [] 10 [(0, .int (iI a)), (1, .int (iI b))] [.int (iI m10)] := by
    intro m10 e_m10
    exact gx_iret hR (e_m10.symm) rfl dJ9_max_7cf53_10
  refine gx_icmp_lt (tgt := 9) X dJ9_max_7cf53_2 (by decide) (by omega) (fun hc2 => ?_) (fun hc2 => ?_)
  · refine gx_iload_n X dJ9_max_7cf53_9 rfl 1 rfl ?_
    refine gx_sub [0, 1] rfl ?_
    exact J10 b ((if_pos hc2).symm) 
  · refine gx_iload_n X dJ9_max_7cf53_5 rfl 0 rfl ?_
    refine gx_goto (tgt := 10) X dJ9_max_7cf53_6 (by decide) ?_
    refine gx_sub [0, 1] rfl ?_
    exact J10 a ((if_neg hc2).symm) 
def J_min (a : Int) (b : Int) : Int := if b < a then b else a
theorem J_min_sp (a b : Int) : (b < a ∧ J_min a b = b) ∨ (a ≤ b ∧ J_min a b = a) := by
  unfold J_min
  split <;> omega
set_option maxRecDepth 100000 in
theorem c_J_min {l : Launch} {K : KK} (a : Int) (b : Int) (hp0 : ok32 a) (hp1 : ok32 b) : CtI l yJ9_min_7cf53 cJ9_min_7cf53 2 .int (0, 0) K [.int (iI a), .int (iI b)] [] (J_min a b) [] := by
  refine ctI_ofF (by decide +kernel) (Nat.le_of_ble_eq_true rfl) rfl ?_
  intro x X hD hR
  refine gx_iload_n X dJ9_min_7cf53_0 rfl 0 rfl ?_
  refine gx_iload_n X dJ9_min_7cf53_1 rfl 1 rfl ?_
  have J10 : ∀ (m10 : Int), m10 = (if b < a then b else a) → GG l (rmK (0, 0)) K x [] 10 [(0, .int (iI a)), (1, .int (iI b))] [.int (iI m10)] := by
    intro m10 e_m10
    exact gx_iret hR (e_m10.symm) rfl dJ9_min_7cf53_10
  refine gx_icmp_gt (tgt := 9) X dJ9_min_7cf53_2 (by decide) (by omega) (fun hc2 => ?_) (fun hc2 => ?_)
  · refine gx_iload_n X dJ9_min_7cf53_9 rfl 1 rfl ?_
    refine gx_sub [0, 1] rfl ?_
    exact J10 b ((if_pos hc2).symm) 
  · refine gx_iload_n X dJ9_min_7cf53_5 rfl 0 rfl ?_
    refine gx_goto (tgt := 10) X dJ9_min_7cf53_6 (by decide) ?_
    refine gx_sub [0, 1] rfl ?_
    exact J10 a ((if_neg hc2).symm) 
theorem zi_rem4 (a b : Int) (hb : b = 4) : -3 ≤ zi_rem a b ∧ zi_rem a b ≤ 3 := by
  subst hb
  unfold zi_rem
  split <;> omega
theorem xor4 (m : Int) (h : -1000 ≤ m ∧ m ≤ 1000) : (0 ≤ zi_xor m 4 ↔ 0 ≤ m) := by
  have key : ∀ n : Fin 2001, (0 ≤ zi_xor ((n.val : Int) - 1000) 4 ↔ 0 ≤ ((n.val : Int) - 1000)) := by decide +kernel
  have k := key ⟨(m + 1000).toNat, by omega⟩
  have e : (((m + 1000).toNat : Nat) : Int) - 1000 = m := by omega
  rw [e] at k
  exact k
def J_floorMod (a : Int) (b : Int) : Int := if 0 ≤ (zi_xor a b) then (zi_rem a b) else if (zi_rem a b) = 0 then (zi_rem a b) else ((zi_rem a b) + b)
theorem J_floorMod_sp (a b : Int) (ha : -1000 ≤ a ∧ a ≤ 1000) (hb : b = 4) : J_floorMod a b = a % 4 := by
  have h1 := xor4 a ha
  subst hb
  have h2 : zi_rem a 4 = if 0 ≤ a then a % 4 else -((-a) % 4) := rfl
  unfold J_floorMod
  omega
set_option maxRecDepth 100000 in
theorem c_J_floorMod {l : Launch} {K : KK} (a : Int) (b : Int) (hp0 : -1000 ≤ a ∧ a ≤ 1000) (hp1 : b = 4) : CtI l yJ9_floorMod_7cf53 cJ9_floorMod_7cf53 3 .int (0, 0) K [.int (iI a), .int (iI b)] [] (J_floorMod a b) [] := by
  refine ctI_ofF (by decide +kernel) (Nat.le_of_ble_eq_true rfl) rfl ?_
  intro x X hD hR
  refine gx_iload_n X dJ9_floorMod_7cf53_0 rfl 0 rfl ?_
  refine gx_iload_n X dJ9_floorMod_7cf53_1 rfl 1 rfl ?_
  have hz := zi_rem4 a b hp1
  refine gx_iremT X dJ9_floorMod_7cf53_2 (by omega) ?_
  refine gx_istore_n X dJ9_floorMod_7cf53_3 rfl (by decide) rfl ?_
  refine gx_iload_n X dJ9_floorMod_7cf53_4 rfl 1 rfl ?_
  refine gx_iload_n X dJ9_floorMod_7cf53_5 rfl 2 rfl ?_
  refine gx_ixor X dJ9_floorMod_7cf53_6 ?_
  have ho6 := ok_xor a b
  refine gx_if_ge (tgt := 18) X dJ9_floorMod_7cf53_7 (by decide) (by omega) (fun hc7 => ?_) (fun hc7 => ?_)
  · refine gx_iload_n X dJ9_floorMod_7cf53_18 rfl 0 rfl ?_
    exact gx_iret hR (if_pos hc7) rfl dJ9_floorMod_7cf53_19
  · refine gx_iload_n X dJ9_floorMod_7cf53_10 rfl 0 rfl ?_
    refine gx_if_eq (tgt := 18) X dJ9_floorMod_7cf53_11 (by decide) (by omega) (fun hc11 => ?_) (fun hc11 => ?_)
    · refine gx_iload_n X dJ9_floorMod_7cf53_18 rfl 0 rfl ?_
      exact gx_iret hR ((if_neg hc7).trans (if_pos hc11)) rfl dJ9_floorMod_7cf53_19
    · refine gx_iload_n X dJ9_floorMod_7cf53_14 rfl 0 rfl ?_
      refine gx_iload_n X dJ9_floorMod_7cf53_15 rfl 2 rfl ?_
      refine gx_iadd X dJ9_floorMod_7cf53_16 ?_
      exact gx_iret hR ((if_neg hc7).trans (if_neg hc11)) rfl dJ9_floorMod_7cf53_17
end
section
def C_sense (S : Sta) : Int := if (S.1 0) = 0 then 1 else (-1)
theorem C_sense_sp (S : Sta) : (S.1 0 = 0 ∧ C_sense S = 1) ∨ (¬ S.1 0 = 0 ∧ C_sense S = -1) := by
  unfold C_sense
  split <;> omega
set_option maxRecDepth 100000 in
theorem c_C_sense {l : Launch} {K : KK} (q : Nat → Nat) (S : Sta) (hp0 : 0 ≤ S.1 0 ∧ S.1 0 ≤ 1) : CtI l yX0_sense cX0_sense 1 .int (0, 0) K [.ref (q 0)] (wC K q S) (C_sense S) (wC K q S) := by
  refine ctI_of (by decide) (Nat.le_of_ble_eq_true rfl) rfl ?_
  intro x X hD hR
  have hD : ∀ S9 : Sta, va_D (cx_A x) (wC K q S9) := fun S9 => va_D_same hD rfl
  refine gx_aload_n X dX0_sense_0 rfl 0 rfl ?_
  refine gC_g0 (v := (S.1 0)) X rfl dX0_sense_1 ?_
  have J12 : ∀ (m12 : Int), m12 = (if (S.1 0) = 0 then 1 else (-1)) → GG l (rmK (0, 0)) K x (wC K q S) 12 [(0, .ref (q 0))] [.int (iI m12)] := by
    intro m12 e_m12
    exact gx_iret hR (e_m12.symm) rfl dX0_sense_12
  refine gx_if_ne (tgt := 11) X dX0_sense_4 (by decide) (by omega) (fun hc4 => ?_) (fun hc4 => ?_)
  · refine gx_iconst (z := (-1)) X dX0_sense_11 rfl ?_
    refine gx_sub [0] rfl ?_
    exact J12 (-1) ((if_neg hc4).symm) 
  · refine gx_iconst (z := 1) X dX0_sense_7 rfl ?_
    refine gx_goto (tgt := 12) X dX0_sense_8 (by decide) ?_
    refine gx_sub [0] rfl ?_
    exact J12 1 ((if_pos hc4).symm) 
def C_twistOf (S : Sta) (t : Int) : Int := if t = 2 then 0 else if t = 0 then (C_sense S) else (-(C_sense S))
set_option maxRecDepth 100000 in
theorem c_C_twistOf {l : Launch} {K : KK} (q : Nat → Nat) (S : Sta) (t : Int) (hp0 : 0 ≤ S.1 0 ∧ S.1 0 ≤ 1) (hp1 : ok32 t) : CtI l yX0_twistOf cX0_twistOf 2 .int (1, 20) K [.ref (q 0), .int (iI t)] (wC K q S) (C_twistOf S t) (wC K q S) := by
  refine ctI_of (by decide) (Nat.le_of_ble_eq_true rfl) rfl ?_
  intro x X hD hR
  have hD : ∀ S9 : Sta, va_D (cx_A x) (wC K q S9) := fun S9 => va_D_same hD rfl
  refine gx_iload_n X dX0_twistOf_0 rfl 1 rfl ?_
  refine gx_iconst (z := 2) X dX0_twistOf_1 rfl ?_
  refine gx_icmp_ne (tgt := 7) X dX0_twistOf_2 (by decide) (by omega) (fun hc2 => ?_) (fun hc2 => ?_)
  · refine gx_iload_n X dX0_twistOf_7 rfl 1 rfl ?_
    have J23 : ∀ (m23 : Int), m23 = (if t = 0 then (C_sense S) else (-(C_sense S))) → GG l (rmK (1, 20)) K x (wC K q S) 23 [(0, .ref (q 0)), (1, .int (iI t))] [.int (iI m23)] := by
      intro m23 e_m23
      exact gx_iret hR ((if_neg hc2).trans (e_m23.symm)) rfl dX0_twistOf_23
    refine gx_if_ne (tgt := 18) X dX0_twistOf_8 (by decide) (by omega) (fun hc8 => ?_) (fun hc8 => ?_)
    · refine gx_aload_n X dX0_twistOf_18 rfl 0 rfl ?_
      refine gx_callVI (As := []) (rest := []) X (hD _) lk_C_59 (ci := 0) rfl rfl 0 rfl (c_C_sense q S  (by omega)) jn_all rfl ⟨by decide, by decide⟩ (Nat.le_of_ble_eq_true rfl) dX0_twistOf_19 ?_
      have hq19_0 := C_sense_sp S 
      refine gx_ineg X dX0_twistOf_22 ?_
      refine gx_sub [0, 1] rfl ?_
      exact J23 (-(C_sense S)) ((if_neg hc8).symm) 
    · refine gx_aload_n X dX0_twistOf_11 rfl 0 rfl ?_
      refine gx_callVI (As := []) (rest := []) X (hD _) lk_C_59 (ci := 0) rfl rfl 0 rfl (c_C_sense q S  (by omega)) jn_all rfl ⟨by decide, by decide⟩ (Nat.le_of_ble_eq_true rfl) dX0_twistOf_12 ?_
      have hq12_0 := C_sense_sp S 
      refine gx_goto (tgt := 23) X dX0_twistOf_15 (by decide) ?_
      refine gx_sub [0, 1] rfl ?_
      exact J23 (C_sense S) ((if_pos hc8).symm) 
  · refine gx_iconst (z := 0) X dX0_twistOf_5 rfl ?_
    exact gx_iret hR (if_pos hc2) rfl dX0_twistOf_6
def C_exchange (S : Sta) (i : Int) (j : Int) : Sta := (mA (mA S 0 i (S.2 0 j)) 0 j (S.2 0 i))
theorem C_exchange_sc (S : Sta) (i j : Int) : (C_exchange S i j).1 = S.1 := rfl
theorem C_exchange_ar (S : Sta) (i j : Int) (k : Nat) (hk : k ≠ 0) : (C_exchange S i j).2 k = S.2 k := by
  unfold C_exchange
  rw [mA_ne _ _ trivial hk, mA_ne _ _ trivial hk]
set_option maxRecDepth 100000 in
theorem c_C_exchange {l : Launch} {K : KK} (q : Nat → Nat) (S : Sta) (i : Int) (j : Int) (hp0 : 0 ≤ i ∧ i ≤ 3) (hp1 : 0 ≤ j ∧ j ≤ 3) : CtV l yX0_exchange cX0_exchange 4 (0, 0) K [.ref (q 0), .int (iI i), .int (iI j)] (wC K q S) (wC K q (C_exchange S i j)) := by
  refine ctV_of (by decide) (Nat.le_of_ble_eq_true rfl) ?_
  intro x X hD hR
  have hD : ∀ S9 : Sta, va_D (cx_A x) (wC K q S9) := fun S9 => va_D_same hD rfl
  refine gx_aload_n X dX0_exchange_0 rfl 0 rfl ?_
  refine gC_r0 X dX0_exchange_1 ?_
  refine gx_iload_n X dX0_exchange_4 rfl 1 rfl ?_
  refine gC_l0 (v := (S.2 0 i)) X (by omega) rfl dX0_exchange_5 ?_
  refine gx_istore_n X dX0_exchange_6 rfl (by decide) rfl ?_
  refine gx_aload_n X dX0_exchange_7 rfl 1 rfl ?_
  refine gC_r0 X dX0_exchange_8 ?_
  refine gx_iload_n X dX0_exchange_11 rfl 2 rfl ?_
  refine gx_aload_n X dX0_exchange_12 rfl 1 rfl ?_
  refine gC_r0 X dX0_exchange_13 ?_
  refine gx_iload_n X dX0_exchange_16 rfl 3 rfl ?_
  refine gC_l0 (v := (S.2 0 j)) X (by omega) rfl dX0_exchange_17 ?_
  refine gC_s0 X (hD _) (by omega) dX0_exchange_18 ?_
  refine gx_aload_n X dX0_exchange_19 rfl 1 rfl ?_
  refine gC_r0 X dX0_exchange_20 ?_
  refine gx_iload_n X dX0_exchange_23 rfl 3 rfl ?_
  refine gx_iload_n X dX0_exchange_24 rfl 0 rfl ?_
  refine gC_s0 X (hD _) (by omega) dX0_exchange_25 ?_
  exact gx_vret hR (congrArg (fun z : Sta => (wC K q z)) ((show C_exchange S i j = (mA (mA S 0 i (S.2 0 j)) 0 j (S.2 0 i)) from rfl))) dX0_exchange_26
def C_turnOver (S : Sta) : Sta := (mI (mI (C_exchange (C_exchange S 0 1) 2 3) 0 (1 - (S.1 0))) 6 0)
theorem C_turnOver_sc (S : Sta) (j : Nat) (hj : j ∉ [0, 6]) : (C_turnOver S).1 j = S.1 j := by
  simp only [List.mem_cons, List.not_mem_nil, or_false, not_or] at hj
  exact (if_neg hj.2).trans (if_neg hj.1)
theorem C_turnOver_ar (S : Sta) (k : Nat) (hk : k ≠ 0) : (C_turnOver S).2 k = S.2 k := (C_exchange_ar _ _ _ k hk).trans (C_exchange_ar _ _ _ k hk)
theorem C_exchange_inv {N : Int} {S : Sta} {i j : Int} (h : InvC N S) : InvC N (C_exchange S i j) := (h.mA (h.2.2 0 j)).mA (h.2.2 0 i)
theorem C_turnOver_inv {N : Int} {S : Sta} (h : InvC N S) : InvC N (C_turnOver S) := by
  have h0 := InvC_s0 h
  exact InvC.mI (k := 6) (InvC.mI (k := 0) (C_exchange_inv (C_exchange_inv h)) (show 0 ≤ 1 - S.1 0 ∧ 1 - S.1 0 ≤ 1 from by omega)) (show (0 : Int) ≤ 0 ∧ (0 : Int) ≤ 1 by decide)
set_option maxRecDepth 100000 in
theorem c_C_turnOver {l : Launch} {K : KK} (q : Nat → Nat) (S : Sta)  : CtV l yX0_turnOver cX0_turnOver 1 (1, 23) K [.ref (q 0)] (wC K q S) (wC K q (C_turnOver S)) := by
  refine ctV_of (by decide) (Nat.le_of_ble_eq_true rfl) ?_
  intro x X hD hR
  have hD : ∀ S9 : Sta, va_D (cx_A x) (wC K q S9) := fun S9 => va_D_same hD rfl
  refine gx_aload_n X dX0_turnOver_0 rfl 0 rfl ?_
  refine gx_iconst (z := 0) X dX0_turnOver_1 rfl ?_
  refine gx_iconst (z := 1) X dX0_turnOver_2 rfl ?_
  refine gx_callVV (As := [.int (iI 0), .int (iI 1)]) (rest := []) X (hD _) lk_C_63 (ci := 0) rfl rfl 0 rfl (c_C_exchange q S 0 1 (by omega) (by omega)) jn_all rfl ⟨by decide, by decide⟩ (Nat.le_of_ble_eq_true rfl) dX0_turnOver_3 ?_
  refine gx_aload_n X dX0_turnOver_6 rfl 0 rfl ?_
  refine gx_iconst (z := 2) X dX0_turnOver_7 rfl ?_
  refine gx_iconst (z := 3) X dX0_turnOver_8 rfl ?_
  refine gx_callVV (As := [.int (iI 2), .int (iI 3)]) (rest := []) X (hD _) lk_C_63 (ci := 0) rfl rfl 0 rfl (c_C_exchange q (C_exchange S 0 1) 2 3 (by omega) (by omega)) jn_all rfl ⟨by decide, by decide⟩ (Nat.le_of_ble_eq_true rfl) dX0_turnOver_9 ?_
  refine gx_aload_n X dX0_turnOver_12 rfl 0 rfl ?_
  refine gx_iconst (z := 1) X dX0_turnOver_13 rfl ?_
  refine gx_aload_n X dX0_turnOver_14 rfl 0 rfl ?_
  refine gC_g0 (v := (S.1 0)) X ((congrFun (C_exchange_sc (C_exchange S 0 1) 2 3) 0).trans (congrFun (C_exchange_sc S 0 1) 0)) dX0_turnOver_15 ?_
  refine gx_isub X dX0_turnOver_18 ?_
  refine gC_p0 X (hD _) dX0_turnOver_19 ?_
  refine gx_aload_n X dX0_turnOver_22 rfl 0 rfl ?_
  refine gx_iconst (z := 0) X dX0_turnOver_23 rfl ?_
  refine gC_p6 X (hD _) (by decide) dX0_turnOver_24 ?_
  exact gx_vret hR (congrArg (fun z : Sta => (wC K q z)) ((show C_turnOver S = (mI (mI (C_exchange (C_exchange S 0 1) 2 3) 0 (1 - (S.1 0))) 6 0) from rfl))) dX0_turnOver_27
def C_opposite (t : Int) : Int := if t = 2 then 2 else (1 - t)
theorem C_opposite_sp (t : Int) : (t = 2 ∧ C_opposite t = 2) ∨ (¬ t = 2 ∧ C_opposite t = 1 - t) := by
  unfold C_opposite
  split <;> omega
set_option maxRecDepth 100000 in
theorem c_C_opposite {l : Launch} {K : KK} (t : Int) (hp0 : -1000 ≤ t ∧ t ≤ 1000) : CtI l yX0_opposite cX0_opposite 1 .int (0, 0) K [.int (iI t)] [] (C_opposite t) [] := by
  refine ctI_of (by decide) (Nat.le_of_ble_eq_true rfl) rfl ?_
  intro x X hD hR
  refine gx_iload_n X dX0_opposite_0 rfl 0 rfl ?_
  refine gx_iconst (z := 2) X dX0_opposite_1 rfl ?_
  have J12 : ∀ (m12 : Int), m12 = (if t = 2 then 2 else (1 - t)) → GG l (rmK (0, 0)) K x [] 12 [(0, .int (iI t))] [.int (iI m12)] := by
    intro m12 e_m12
    exact gx_iret hR (e_m12.symm) rfl dX0_opposite_12
  refine gx_icmp_ne (tgt := 9) X dX0_opposite_2 (by decide) (by omega) (fun hc2 => ?_) (fun hc2 => ?_)
  · refine gx_iconst (z := 1) X dX0_opposite_9 rfl ?_
    refine gx_iload_n X dX0_opposite_10 rfl 0 rfl ?_
    refine gx_isub X dX0_opposite_11 ?_
    refine gx_sub [0] rfl ?_
    exact J12 (1 - t) ((if_neg hc2).symm) 
  · refine gx_iconst (z := 2) X dX0_opposite_5 rfl ?_
    refine gx_goto (tgt := 12) X dX0_opposite_6 (by decide) ?_
    refine gx_sub [0] rfl ?_
    exact J12 2 ((if_pos hc2).symm) 
def C_slantOf (S : Sta) (p : Int) (t : Int) : Int := if t = 2 then if p ≤ 0 then 0 else (S.2 4 (p - 1)) else if t = (S.1 0) then 0 else 1
set_option maxRecDepth 100000 in
theorem c_C_slantOf {l : Launch} {K : KK} (q : Nat → Nat) (S : Sta) (p : Int) (t : Int) (hp0 : 0 ≤ S.1 0 ∧ S.1 0 ≤ 1) (hp1 : 0 ≤ p ∧ p < 60) (hp2 : ok32 t) : CtI l yX0_slantOf cX0_slantOf 3 .int (0, 0) K [.ref (q 0), .int (iI p), .int (iI t)] (wC K q S) (C_slantOf S p t) (wC K q S) := by
  refine ctI_of (by decide) (Nat.le_of_ble_eq_true rfl) rfl ?_
  intro x X hD hR
  have hD : ∀ S9 : Sta, va_D (cx_A x) (wC K q S9) := fun S9 => va_D_same hD rfl
  refine gx_iload_n X dX0_slantOf_0 rfl 2 rfl ?_
  refine gx_iconst (z := 2) X dX0_slantOf_1 rfl ?_
  refine gx_icmp_ne (tgt := 22) X dX0_slantOf_2 (by decide) (by omega) (fun hc2 => ?_) (fun hc2 => ?_)
  · refine gx_iload_n X dX0_slantOf_22 rfl 2 rfl ?_
    refine gx_aload_n X dX0_slantOf_23 rfl 0 rfl ?_
    refine gC_g0 (v := (S.1 0)) X rfl dX0_slantOf_24 ?_
    have J35 : ∀ (m35 : Int), m35 = (if t = (S.1 0) then 0 else 1) → GG l (rmK (0, 0)) K x (wC K q S) 35 [(0, .ref (q 0)), (1, .int (iI p)), (2, .int (iI t))] [.int (iI m35)] := by
      intro m35 e_m35
      exact gx_iret hR ((if_neg hc2).trans (e_m35.symm)) rfl dX0_slantOf_35
    refine gx_icmp_ne (tgt := 34) X dX0_slantOf_27 (by decide) (by omega) (fun hc27 => ?_) (fun hc27 => ?_)
    · refine gx_iconst (z := 1) X dX0_slantOf_34 rfl ?_
      refine gx_sub [0, 1, 2] rfl ?_
      exact J35 1 ((if_neg hc27).symm) 
    · refine gx_iconst (z := 0) X dX0_slantOf_30 rfl ?_
      refine gx_goto (tgt := 35) X dX0_slantOf_31 (by decide) ?_
      refine gx_sub [0, 1, 2] rfl ?_
      exact J35 0 ((if_pos hc27).symm) 
  · refine gx_iload_n X dX0_slantOf_5 rfl 1 rfl ?_
    have J21 : ∀ (m21 : Int), m21 = (if p ≤ 0 then 0 else (S.2 4 (p - 1))) → GG l (rmK (0, 0)) K x (wC K q S) 21 [(0, .ref (q 0)), (1, .int (iI p)), (2, .int (iI t))] [.int (iI m21)] := by
      intro m21 e_m21
      exact gx_iret hR ((if_pos hc2).trans (e_m21.symm)) rfl dX0_slantOf_21
    refine gx_if_le (tgt := 20) X dX0_slantOf_6 (by decide) (by omega) (fun hc6 => ?_) (fun hc6 => ?_)
    · refine gx_iconst (z := 0) X dX0_slantOf_20 rfl ?_
      refine gx_sub [0, 1, 2] rfl ?_
      exact J21 0 ((if_pos hc6).symm) 
    · refine gx_aload_n X dX0_slantOf_9 rfl 0 rfl ?_
      refine gC_r4 X dX0_slantOf_10 ?_
      refine gx_iload_n X dX0_slantOf_13 rfl 1 rfl ?_
      refine gx_iconst (z := 1) X dX0_slantOf_14 rfl ?_
      refine gx_isub X dX0_slantOf_15 ?_
      refine gC_l4 (v := (S.2 4 (p - 1))) X (by omega) rfl dX0_slantOf_16 ?_
      refine gx_goto (tgt := 21) X dX0_slantOf_17 (by decide) ?_
      refine gx_sub [0, 1, 2] rfl ?_
      exact J21 (S.2 4 (p - 1)) ((if_neg hc6).symm) 
def C_showing (S : Sta) (p : Int) : Int := if p ≤ 0 then (S.2 0 0) else (S.2 3 (p - 1))
set_option maxRecDepth 100000 in
theorem c_C_showing {l : Launch} {K : KK} (q : Nat → Nat) (S : Sta) (p : Int) (hp0 : 0 ≤ p ∧ p ≤ 60) : CtI l yX0_showing cX0_showing 2 .int (0, 0) K [.ref (q 0), .int (iI p)] (wC K q S) (C_showing S p) (wC K q S) := by
  refine ctI_of (by decide) (Nat.le_of_ble_eq_true rfl) rfl ?_
  intro x X hD hR
  have hD : ∀ S9 : Sta, va_D (cx_A x) (wC K q S9) := fun S9 => va_D_same hD rfl
  refine gx_iload_n X dX0_showing_0 rfl 1 rfl ?_
  have J21 : ∀ (m21 : Int), m21 = (if p ≤ 0 then (S.2 0 0) else (S.2 3 (p - 1))) → GG l (rmK (0, 0)) K x (wC K q S) 21 [(0, .ref (q 0)), (1, .int (iI p))] [.int (iI m21)] := by
    intro m21 e_m21
    exact gx_iret hR (e_m21.symm) rfl dX0_showing_21
  refine gx_if_le (tgt := 15) X dX0_showing_1 (by decide) (by omega) (fun hc1 => ?_) (fun hc1 => ?_)
  · refine gx_aload_n X dX0_showing_15 rfl 0 rfl ?_
    refine gC_r0 X dX0_showing_16 ?_
    refine gx_iconst (z := 0) X dX0_showing_19 rfl ?_
    refine gC_l0 (v := (S.2 0 0)) X (by omega) rfl dX0_showing_20 ?_
    refine gx_sub [0, 1] rfl ?_
    exact J21 (S.2 0 0) ((if_pos hc1).symm) 
  · refine gx_aload_n X dX0_showing_4 rfl 0 rfl ?_
    refine gC_r3 X dX0_showing_5 ?_
    refine gx_iload_n X dX0_showing_8 rfl 1 rfl ?_
    refine gx_iconst (z := 1) X dX0_showing_9 rfl ?_
    refine gx_isub X dX0_showing_10 ?_
    refine gC_l3 (v := (S.2 3 (p - 1))) X (by omega) rfl dX0_showing_11 ?_
    refine gx_goto (tgt := 21) X dX0_showing_12 (by decide) ?_
    refine gx_sub [0, 1] rfl ?_
    exact J21 (S.2 3 (p - 1)) ((if_neg hc1).symm) 
def C_threadOn (S : Sta) (p : Int) (b : Int) : Int := if b = 0 then (S.2 3 p) else (((S.2 3 p) + 2) % 4)
theorem C_threadOn_rg {N : Int} (S : Sta) (p b : Int) (hI : InvC N S) (_ : 0 ≤ p ∧ p < 60) (_ : ok32 b) : 0 ≤ C_threadOn S p b ∧ C_threadOn S p b ≤ 3 := by
  have h := InvC_a3 hI p
  unfold C_threadOn
  split <;> omega
set_option maxRecDepth 100000 in
theorem c_C_threadOn {l : Launch} {K : KK} {N : Int} (q : Nat → Nat) (S : Sta) (p : Int) (b : Int) (hI : InvC N S) (hp1 : 0 ≤ p ∧ p < 60) (hp2 : ok32 b) : CtI l yX0_threadOn cX0_threadOn 3 .int (0, 0) K [.ref (q 0), .int (iI p), .int (iI b)] (wC K q S) (C_threadOn S p b) (wC K q S) := by
  refine ctI_of (by decide) (Nat.le_of_ble_eq_true rfl) rfl ?_
  intro x X hD hR
  have hD : ∀ S9 : Sta, va_D (cx_A x) (wC K q S9) := fun S9 => va_D_same hD rfl
  have hs0 := InvC_s0 hI
  have hs1 := InvC_s1 hI
  have hs3 := InvC_s3 hI
  have hs4 := InvC_s4 hI
  have hs5 := InvC_s5 hI
  have hs6 := InvC_s6 hI
  refine gx_iload_n X dX0_threadOn_0 rfl 2 rfl ?_
  have J23 : ∀ (m23 : Int), m23 = (if b = 0 then (S.2 3 p) else (((S.2 3 p) + 2) % 4)) → GG l (rmK (0, 0)) K x (wC K q S) 23 [(0, .ref (q 0)), (1, .int (iI p)), (2, .int (iI b))] [.int (iI m23)] := by
    intro m23 e_m23
    exact gx_iret hR (e_m23.symm) rfl dX0_threadOn_23
  refine gx_if_eq (tgt := 17) X dX0_threadOn_1 (by decide) (by omega) (fun hc1 => ?_) (fun hc1 => ?_)
  · refine gx_aload_n X dX0_threadOn_17 rfl 0 rfl ?_
    refine gC_r3 X dX0_threadOn_18 ?_
    refine gx_iload_n X dX0_threadOn_21 rfl 1 rfl ?_
    refine gC_l3 (v := (S.2 3 p)) X (by omega) rfl dX0_threadOn_22 ?_
    have hr22 := InvC_a3 hI p
    refine gx_sub [0, 1, 2] rfl ?_
    exact J23 (S.2 3 p) ((if_pos hc1).symm) 
  · refine gx_aload_n X dX0_threadOn_4 rfl 0 rfl ?_
    refine gC_r3 X dX0_threadOn_5 ?_
    refine gx_iload_n X dX0_threadOn_8 rfl 1 rfl ?_
    refine gC_l3 (v := (S.2 3 p)) X (by omega) rfl dX0_threadOn_9 ?_
    have hr9 := InvC_a3 hI p
    refine gx_iconst (z := 2) X dX0_threadOn_10 rfl ?_
    refine gx_iadd X dX0_threadOn_11 ?_
    refine gx_iconst (z := 4) X dX0_threadOn_12 rfl ?_
    refine gx_irem X dX0_threadOn_13 (by omega) ?_
    refine gx_goto (tgt := 23) X dX0_threadOn_14 (by decide) ?_
    refine gx_sub [0, 1, 2] rfl ?_
    exact J23 (((S.2 3 p) + 2) % 4) ((if_neg hc1).symm) 
def C_colourOn (S : Sta) (p : Int) (b : Int) : Int := (S.2 1 (C_threadOn S p b))
theorem C_colourOn_rg {N : Int} (S : Sta) (p b : Int) (hI : InvC N S) (_ : 0 ≤ p ∧ p < 60) (_ : ok32 b) : 0 ≤ C_colourOn S p b ∧ C_colourOn S p b ≤ 7 := InvC_a1 hI _
set_option maxRecDepth 100000 in
theorem c_C_colourOn {l : Launch} {K : KK} {N : Int} (q : Nat → Nat) (S : Sta) (p : Int) (b : Int) (hI : InvC N S) (hp1 : 0 ≤ p ∧ p < 60) (hp2 : ok32 b) : CtI l yX0_colourOn cX0_colourOn 3 .int (1, 22) K [.ref (q 0), .int (iI p), .int (iI b)] (wC K q S) (C_colourOn S p b) (wC K q S) := by
  refine ctI_of (by decide) (Nat.le_of_ble_eq_true rfl) rfl ?_
  intro x X hD hR
  have hD : ∀ S9 : Sta, va_D (cx_A x) (wC K q S9) := fun S9 => va_D_same hD rfl
  have hs0 := InvC_s0 hI
  have hs1 := InvC_s1 hI
  have hs3 := InvC_s3 hI
  have hs4 := InvC_s4 hI
  have hs5 := InvC_s5 hI
  have hs6 := InvC_s6 hI
  refine gx_aload_n X dX0_colourOn_0 rfl 0 rfl ?_
  refine gC_r1 X dX0_colourOn_1 ?_
  refine gx_aload_n X dX0_colourOn_4 rfl 0 rfl ?_
  refine gx_iload_n X dX0_colourOn_5 rfl 1 rfl ?_
  refine gx_iload_n X dX0_colourOn_6 rfl 2 rfl ?_
  refine gx_callVI (As := [.int (iI p), .int (iI b)]) (rest := [.ref (q 2)]) X (hD _) lk_C_94 (ci := 0) rfl rfl 0 rfl (c_C_threadOn q S p b hI (by omega) (by omega)) jn_all rfl ⟨by decide, by decide⟩ (Nat.le_of_ble_eq_true rfl) dX0_colourOn_7 ?_
  have hp7_0 := C_threadOn_rg S p b hI (by omega) (by omega)
  refine gC_l1 (v := (S.2 1 (C_threadOn S p b))) X (by omega) rfl dX0_colourOn_10 ?_
  have hr10 := InvC_a1 hI (C_threadOn S p b)
  exact gx_iret hR (rfl) rfl dX0_colourOn_11
def C_idleBehind_l2 (S : Sta) (p : Int) : Nat → Int → Int
  | 0, v2 => v2
  | fu + 1, v2 => if p ≤ v2 then v2 else if (S.2 2 ((p - 1) - v2)) = 2 then C_idleBehind_l2 S p fu (v2 + 1) else v2
theorem C_idleBehind_l2_s (S : Sta) (p : Int) (fu : Nat) (v2 : Int) : C_idleBehind_l2 S p (fu + 1) v2 = (if p ≤ v2 then v2 else if (S.2 2 ((p - 1) - v2)) = 2 then C_idleBehind_l2 S p fu (v2 + 1) else v2) := rfl
def C_idleBehind (S : Sta) (p : Int) : Int := (C_idleBehind_l2 S p (61) 0)
theorem C_idleBehind_l2_rg (S : Sta) (p : Int) : ∀ (n : Nat) (v : Int), 0 ≤ v → v ≤ p → 0 ≤ C_idleBehind_l2 S p n v ∧ C_idleBehind_l2 S p n v ≤ p := by
  intro n
  induction n with
  | zero => intro v h0 h1; exact ⟨h0, h1⟩
  | succ n ih =>
    intro v h0 h1
    rw [C_idleBehind_l2_s]
    split
    · exact ⟨h0, h1⟩
    · split
      · exact ih _ (by omega) (by omega)
      · exact ⟨h0, h1⟩
theorem C_idleBehind_rg {N : Int} (S : Sta) (p : Int) (_ : InvC N S) (hp : 0 ≤ p ∧ p ≤ 60) : 0 ≤ C_idleBehind S p ∧ C_idleBehind S p ≤ p := C_idleBehind_l2_rg S p 61 0 (by omega) hp.1
set_option maxRecDepth 100000 in
theorem c_C_idleBehind {l : Launch} {K : KK} {N : Int} (q : Nat → Nat) (S : Sta) (p : Int) (hI : InvC N S) (hp1 : 0 ≤ p ∧ p ≤ 60) : CtI l yX0_idleBehind cX0_idleBehind 3 .int (0, 0) K [.ref (q 0), .int (iI p)] (wC K q S) (C_idleBehind S p) (wC K q S) := by
  refine ctI_of (by decide) (Nat.le_of_ble_eq_true rfl) rfl ?_
  intro x X hD hR
  have hD : ∀ S9 : Sta, va_D (cx_A x) (wC K q S9) := fun S9 => va_D_same hD rfl
  have hs0 := InvC_s0 hI
  have hs1 := InvC_s1 hI
  have hs3 := InvC_s3 hI
  have hs4 := InvC_s4 hI
  have hs5 := InvC_s5 hI
  have hs6 := InvC_s6 hI
  refine gx_iconst (z := 0) X dX0_idleBehind_0 rfl ?_
  refine gx_istore_n X dX0_idleBehind_1 rfl (by decide) rfl ?_
  have L2 : ∀ (fu : Nat) (v2 : Int), (0 ≤ v2) → (v2 ≤ p) → (p - v2) < (fu : Int) → (∀ z2 : Int, C_idleBehind_l2 S p fu v2 = z2 → True → GG l (rmK (0, 0)) K x (wC K q S) 27 [(0, .ref (q 0)), (1, .int (iI p)), (2, .int (iI z2))] []) → GG l (rmK (0, 0)) K x (wC K q S) 2 [(0, .ref (q 0)), (1, .int (iI p)), (2, .int (iI v2))] [] := by
    intro fu
    induction fu with
    | zero => intro v2 hi2_0 hi2_1 hm2 K2; exact absurd hm2 (by omega)
    | succ fu ih =>
      intro v2 hi2_0 hi2_1 hm2 K2
      refine gx_iload_n X dX0_idleBehind_2 rfl 2 rfl ?_
      refine gx_iload_n X dX0_idleBehind_3 rfl 1 rfl ?_
      refine gx_icmp_ge (tgt := 27) X dX0_idleBehind_4 (by decide) (by omega) (fun hc4 => ?_) (fun hc4 => ?_)
      · refine gx_sub [0, 1, 2] rfl ?_
        exact K2 v2 ((C_idleBehind_l2_s S p fu v2).trans (if_pos hc4)) trivial
      · refine gx_aload_n X dX0_idleBehind_7 rfl 0 rfl ?_
        refine gC_r2 X dX0_idleBehind_8 ?_
        refine gx_iload_n X dX0_idleBehind_11 rfl 1 rfl ?_
        refine gx_iconst (z := 1) X dX0_idleBehind_12 rfl ?_
        refine gx_isub X dX0_idleBehind_13 ?_
        refine gx_iload_n X dX0_idleBehind_14 rfl 2 rfl ?_
        refine gx_isub X dX0_idleBehind_15 ?_
        refine gC_l2 (v := (S.2 2 ((p - 1) - v2))) X (by omega) rfl dX0_idleBehind_16 ?_
        have hr16 := InvC_a2 hI ((p - 1) - v2)
        refine gx_iconst (z := 2) X dX0_idleBehind_17 rfl ?_
        refine gx_icmp_ne (tgt := 27) X dX0_idleBehind_18 (by decide) (by omega) (fun hc18 => ?_) (fun hc18 => ?_)
        · refine gx_sub [0, 1, 2] rfl ?_
          exact K2 v2 ((C_idleBehind_l2_s S p fu v2).trans ((if_neg hc4).trans (if_neg hc18))) trivial
        · refine gx_iinc X dX0_idleBehind_21 2 rfl (by decide) rfl ?_
          refine gx_goto (tgt := 2) X dX0_idleBehind_24 (by decide) ?_
          refine gx_sub [1, 2, 0] rfl ?_
          exact ih (v2 + 1) (by omega) (by omega) (by omega) (fun z e hx => K2 z ((C_idleBehind_l2_s S p fu v2).trans (((if_neg hc4).trans (if_pos hc18)).trans e)) hx)
  refine gx_sub [1, 2, 0] rfl ?_
  refine L2 (61) 0 (by omega) (by omega) (by omega) (fun z2 e2 hx2 => ?_)
  refine gx_iload_n X dX0_idleBehind_27 rfl 2 rfl ?_
  exact gx_iret hR (e2) rfl dX0_idleBehind_28
def C_longestFloat_l7 (S : Sta) (p : Int) : Nat → Int → Int → Int → Int
  | 0, v2, v3, v4 => v2
  | fu + 1, v2, v3, v4 => if p ≤ v4 then v2 else (fun (m31 : Int) => C_longestFloat_l7 S p fu (J_max v2 m31) m31 (v4 + 1)) (if (S.2 2 v4) = 2 then (v3 + 1) else 0)
theorem C_longestFloat_l7_s (S : Sta) (p : Int) (fu : Nat) (v2 : Int) (v3 : Int) (v4 : Int) : C_longestFloat_l7 S p (fu + 1) v2 v3 v4 = (if p ≤ v4 then v2 else (fun (m31 : Int) => C_longestFloat_l7 S p fu (J_max v2 m31) m31 (v4 + 1)) (if (S.2 2 v4) = 2 then (v3 + 1) else 0)) := rfl
def C_longestFloat (S : Sta) (p : Int) : Int := (C_longestFloat_l7 S p (61) 0 0 0)
set_option maxRecDepth 100000 in
theorem c_C_longestFloat {l : Launch} {K : KK} {N : Int} (q : Nat → Nat) (S : Sta) (p : Int) (hI : InvC N S) (hp1 : 0 ≤ p ∧ p ≤ 60) : CtI l yX0_longestFloat cX0_longestFloat 5 .int (1, 21) K [.ref (q 0), .int (iI p)] (wC K q S) (C_longestFloat S p) (wC K q S) := by
  refine ctI_of (by decide) (Nat.le_of_ble_eq_true rfl) rfl ?_
  intro x X hD hR
  have hD : ∀ S9 : Sta, va_D (cx_A x) (wC K q S9) := fun S9 => va_D_same hD rfl
  have hs0 := InvC_s0 hI
  have hs1 := InvC_s1 hI
  have hs3 := InvC_s3 hI
  have hs4 := InvC_s4 hI
  have hs5 := InvC_s5 hI
  have hs6 := InvC_s6 hI
  refine gx_iconst (z := 0) X dX0_longestFloat_0 rfl ?_
  refine gx_istore_n X dX0_longestFloat_1 rfl (by decide) rfl ?_
  refine gx_iconst (z := 0) X dX0_longestFloat_2 rfl ?_
  refine gx_istore_n X dX0_longestFloat_3 rfl (by decide) rfl ?_
  refine gx_iconst (z := 0) X dX0_longestFloat_4 rfl ?_
  refine gx_istore X dX0_longestFloat_5 (by decide) rfl ?_
  have L7 : ∀ (fu : Nat) (v2 : Int) (v3 : Int) (v4 : Int), (0 ≤ v4) → (v4 ≤ p) → (0 ≤ v3 ∧ v3 ≤ v4) → (0 ≤ v2 ∧ v2 ≤ v4) → (p - v4) < (fu : Int) → (∀ z7 : Int, C_longestFloat_l7 S p fu v2 v3 v4 = z7 → True → GG l (rmK (1, 21)) K x (wC K q S) 44 [(0, .ref (q 0)), (1, .int (iI p)), (2, .int (iI z7))] []) → GG l (rmK (1, 21)) K x (wC K q S) 7 [(0, .ref (q 0)), (1, .int (iI p)), (2, .int (iI v2)), (3, .int (iI v3)), (4, .int (iI v4))] [] := by
    intro fu
    induction fu with
    | zero => intro v2 v3 v4 hi7_0 hi7_1 hi7_2 hi7_3 hm7 K7; exact absurd hm7 (by omega)
    | succ fu ih =>
      intro v2 v3 v4 hi7_0 hi7_1 hi7_2 hi7_3 hm7 K7
      refine gx_iload X dX0_longestFloat_7 4 rfl ?_
      refine gx_iload_n X dX0_longestFloat_9 rfl 1 rfl ?_
      refine gx_icmp_ge (tgt := 44) X dX0_longestFloat_10 (by decide) (by omega) (fun hc10 => ?_) (fun hc10 => ?_)
      · refine gx_sub [0, 1, 2] rfl ?_
        exact K7 v2 ((C_longestFloat_l7_s S p fu v2 v3 v4).trans (if_pos hc10)) trivial
      · refine gx_aload_n X dX0_longestFloat_13 rfl 0 rfl ?_
        refine gC_r2 X dX0_longestFloat_14 ?_
        refine gx_iload X dX0_longestFloat_17 4 rfl ?_
        refine gC_l2 (v := (S.2 2 v4)) X (by omega) rfl dX0_longestFloat_19 ?_
        have hr19 := InvC_a2 hI v4
        refine gx_iconst (z := 2) X dX0_longestFloat_20 rfl ?_
        have J31 : ∀ (m31 : Int), m31 = (if (S.2 2 v4) = 2 then (v3 + 1) else 0) → GG l (rmK (1, 21)) K x (wC K q S) 31 [(0, .ref (q 0)), (1, .int (iI p)), (2, .int (iI v2)), (3, .int (iI v3)), (4, .int (iI v4))] [.int (iI m31)] := by
          intro m31 e_m31
          refine gx_istore_n X dX0_longestFloat_31 rfl (by decide) rfl ?_
          refine gx_iload_n X dX0_longestFloat_32 rfl 3 rfl ?_
          refine gx_iload_n X dX0_longestFloat_33 rfl 0 rfl ?_
          refine gx_callSI (As := [.int (iI v2), .int (iI m31)]) (rest := []) X (hD _) lk_C_98 (c_J_max v2 m31 (by omega) (by omega)) jn_nil rfl ⟨by decide, by decide⟩ (Nat.le_of_ble_eq_true rfl) dX0_longestFloat_34 ?_
          have hq34_0 := J_max_sp v2 m31
          refine gx_istore_n X dX0_longestFloat_37 rfl (by decide) rfl ?_
          refine gx_iinc X dX0_longestFloat_38 4 rfl (by decide) rfl ?_
          refine gx_goto (tgt := 7) X dX0_longestFloat_41 (by decide) ?_
          refine gx_sub [3, 4, 1, 2, 0] rfl ?_
          subst e_m31
          exact ih _ _ _ (by omega) (by omega) (by omega) (by omega) (by omega) (fun z e hx => K7 z ((C_longestFloat_l7_s S p fu v2 v3 v4).trans ((if_neg hc10).trans e)) hx)
        refine gx_icmp_ne (tgt := 30) X dX0_longestFloat_21 (by decide) (by omega) (fun hc21 => ?_) (fun hc21 => ?_)
        · refine gx_iconst (z := 0) X dX0_longestFloat_30 rfl ?_
          refine gx_sub [0, 1, 2, 3, 4] rfl ?_
          exact J31 0 ((if_neg hc21).symm) 
        · refine gx_iload_n X dX0_longestFloat_24 rfl 3 rfl ?_
          refine gx_iconst (z := 1) X dX0_longestFloat_25 rfl ?_
          refine gx_iadd X dX0_longestFloat_26 ?_
          refine gx_goto (tgt := 31) X dX0_longestFloat_27 (by decide) ?_
          refine gx_sub [0, 1, 2, 3, 4] rfl ?_
          exact J31 (v3 + 1) ((if_pos hc21).symm) 
  refine gx_sub [3, 4, 2, 1, 0] rfl ?_
  refine L7 (61) 0 0 0 (by omega) (by omega) (by omega) (by omega) (by omega) (fun z7 e7 hx7 => ?_)
  refine gx_iload_n X dX0_longestFloat_44 rfl 2 rfl ?_
  exact gx_iret hR (e7) rfl dX0_longestFloat_45
def C_fits (S : Sta) (r : Int) (t : Int) : Int := if (S.2 6 r) = (-99) then 1 else if (S.2 6 r) = (S.2 1 t) then 1 else 0
theorem C_fits_01 (S : Sta) (r : Int) (t : Int) : C_fits S r t = 0 ∨ C_fits S r t = 1 := by
  unfold C_fits
  repeat (first | (exact Or.inl rfl) | (exact Or.inr rfl) | split)
set_option maxRecDepth 100000 in
theorem c_C_fits {l : Launch} {K : KK} {N : Int} (q : Nat → Nat) (S : Sta) (r : Int) (t : Int) (hI : InvC N S) (hp1 : 0 ≤ r ∧ r < 30) (hp2 : 0 ≤ t ∧ t ≤ 3) : CtI l yX0_fits cX0_fits 3 .boolean (0, 0) K [.ref (q 0), .int (iI r), .int (iI t)] (wC K q S) (C_fits S r t) (wC K q S) := by
  refine ctI_of (by decide) (Nat.le_of_ble_eq_true rfl) (narrow_bool (C_fits_01 S r t)) ?_
  intro x X hD hR
  have hD : ∀ S9 : Sta, va_D (cx_A x) (wC K q S9) := fun S9 => va_D_same hD rfl
  have hs0 := InvC_s0 hI
  have hs1 := InvC_s1 hI
  have hs3 := InvC_s3 hI
  have hs4 := InvC_s4 hI
  have hs5 := InvC_s5 hI
  have hs6 := InvC_s6 hI
  refine gx_aload_n X dX0_fits_0 rfl 0 rfl ?_
  refine gC_r6 X dX0_fits_1 ?_
  refine gx_iload_n X dX0_fits_4 rfl 1 rfl ?_
  refine gC_l6 (v := (S.2 6 r)) X (by omega) rfl dX0_fits_5 ?_
  have hr5 := InvC_a6 hI r
  refine gx_bipush (z := (-99)) X dX0_fits_6 (by decide) ?_
  have J31 : ∀ (m31 : Int), m31 = (if (S.2 6 r) = (-99) then 1 else if (S.2 6 r) = (S.2 1 t) then 1 else 0) → GG l (rmK (0, 0)) K x (wC K q S) 31 [(0, .ref (q 0)), (1, .int (iI r)), (2, .int (iI t))] [.int (iI m31)] := by
    intro m31 e_m31
    exact gx_iret hR (e_m31.symm) rfl dX0_fits_31
  refine gx_icmp_eq (tgt := 26) X dX0_fits_8 (by decide) (by omega) (fun hc8 => ?_) (fun hc8 => ?_)
  · refine gx_iconst (z := 1) X dX0_fits_26 rfl ?_
    refine gx_goto (tgt := 31) X dX0_fits_27 (by decide) ?_
    refine gx_sub [0, 1, 2] rfl ?_
    exact J31 1 ((if_pos hc8).symm) 
  · refine gx_aload_n X dX0_fits_11 rfl 0 rfl ?_
    refine gC_r6 X dX0_fits_12 ?_
    refine gx_iload_n X dX0_fits_15 rfl 1 rfl ?_
    refine gC_l6 (v := (S.2 6 r)) X (by omega) rfl dX0_fits_16 ?_
    refine gx_aload_n X dX0_fits_17 rfl 0 rfl ?_
    refine gC_r1 X dX0_fits_18 ?_
    refine gx_iload_n X dX0_fits_21 rfl 2 rfl ?_
    refine gC_l1 (v := (S.2 1 t)) X (by omega) rfl dX0_fits_22 ?_
    have hr22 := InvC_a1 hI t
    refine gx_icmp_ne (tgt := 30) X dX0_fits_23 (by decide) (by omega) (fun hc23 => ?_) (fun hc23 => ?_)
    · refine gx_iconst (z := 0) X dX0_fits_30 rfl ?_
      refine gx_sub [0, 1, 2] rfl ?_
      exact J31 0 (((if_neg hc8).trans (if_neg hc23)).symm) 
    · refine gx_iconst (z := 1) X dX0_fits_26 rfl ?_
      refine gx_goto (tgt := 31) X dX0_fits_27 (by decide) ?_
      refine gx_sub [0, 1, 2] rfl ?_
      exact J31 1 (((if_neg hc8).trans (if_pos hc23)).symm) 
def C_threadAfter (S : Sta) (t : Int) (p : Int) : Int := (S.2 0 (J_floorMod (p - t) 4))
theorem C_threadAfter_rg {N : Int} (S : Sta) (t p : Int) (hI : InvC N S) (_ : -100 ≤ t ∧ t ≤ 100) (_ : 0 ≤ p ∧ p ≤ 3) : 0 ≤ C_threadAfter S t p ∧ C_threadAfter S t p ≤ 3 := InvC_a0 hI _
set_option maxRecDepth 100000 in
theorem c_C_threadAfter {l : Launch} {K : KK} {N : Int} (q : Nat → Nat) (S : Sta) (t : Int) (p : Int) (hI : InvC N S) (hp1 : -100 ≤ t ∧ t ≤ 100) (hp2 : 0 ≤ p ∧ p ≤ 3) : CtI l yX0_threadAfter cX0_threadAfter 3 .int (1, 22) K [.ref (q 0), .int (iI t), .int (iI p)] (wC K q S) (C_threadAfter S t p) (wC K q S) := by
  refine ctI_of (by decide) (Nat.le_of_ble_eq_true rfl) rfl ?_
  intro x X hD hR
  have hD : ∀ S9 : Sta, va_D (cx_A x) (wC K q S9) := fun S9 => va_D_same hD rfl
  have hs0 := InvC_s0 hI
  have hs1 := InvC_s1 hI
  have hs3 := InvC_s3 hI
  have hs4 := InvC_s4 hI
  have hs5 := InvC_s5 hI
  have hs6 := InvC_s6 hI
  refine gx_aload_n X dX0_threadAfter_0 rfl 0 rfl ?_
  refine gC_r0 X dX0_threadAfter_1 ?_
  refine gx_iload_n X dX0_threadAfter_4 rfl 2 rfl ?_
  refine gx_iload_n X dX0_threadAfter_5 rfl 1 rfl ?_
  refine gx_isub X dX0_threadAfter_6 ?_
  refine gx_iconst (z := 4) X dX0_threadAfter_7 rfl ?_
  refine gx_callSI (As := [.int (iI (p - t)), .int (iI 4)]) (rest := [.ref (q 1)]) X (hD _) lk_C_103 (c_J_floorMod (p - t) 4 (by omega) (by omega)) jn_nil rfl ⟨by decide, by decide⟩ (Nat.le_of_ble_eq_true rfl) dX0_threadAfter_8 ?_
  have hp8_0 := J_floorMod_sp (p - t) 4 (by omega) (by omega)
  refine gC_l0 (v := (S.2 0 (J_floorMod (p - t) 4))) X (by omega) rfl dX0_threadAfter_11 ?_
  have hr11 := InvC_a0 hI (J_floorMod (p - t) 4)
  exact gx_iret hR (rfl) rfl dX0_threadAfter_12
def C_wantedOf_l2 (S : Sta) (t : Int) (n : Int) : Nat → Int → (Int) ⊕ (Unit)
  | 0, v3 => .inr ()
  | fu + 1, v3 => if n ≤ v3 then .inr () else if (S.2 3 v3) = t then if (S.2 6 v3) = (-99) then C_wantedOf_l2 S t n fu (v3 + 1) else .inl (S.2 6 v3) else C_wantedOf_l2 S t n fu (v3 + 1)
theorem C_wantedOf_l2_s (S : Sta) (t : Int) (n : Int) (fu : Nat) (v3 : Int) : C_wantedOf_l2 S t n (fu + 1) v3 = (if n ≤ v3 then .inr () else if (S.2 3 v3) = t then if (S.2 6 v3) = (-99) then C_wantedOf_l2 S t n fu (v3 + 1) else .inl (S.2 6 v3) else C_wantedOf_l2 S t n fu (v3 + 1)) := rfl
def C_wantedOf_r2  : Int := (-99)
def C_wantedOf (S : Sta) (t : Int) (n : Int) : Int := Sum.elim id (fun z2 => C_wantedOf_r2 ) (C_wantedOf_l2 S t n (31) 0)
theorem C_wantedOf_l2_rg {N : Int} (S : Sta) (t m : Int) (hI : InvC N S) : ∀ (n : Nat) (v : Int), (∃ z, C_wantedOf_l2 S t m n v = .inl z ∧ -99 ≤ z ∧ z ≤ 7) ∨ C_wantedOf_l2 S t m n v = .inr () := by
  intro n
  induction n with
  | zero => intro v; exact Or.inr rfl
  | succ n ih =>
    intro v
    rw [C_wantedOf_l2_s]
    split
    · exact Or.inr rfl
    · split
      · split
        · exact ih _
        · exact Or.inl ⟨_, rfl, InvC_a6 hI _⟩
      · exact ih _
theorem C_wantedOf_rg {N : Int} (S : Sta) (t n : Int) (hI : InvC N S) (_ : ok32 t) (_ : 0 ≤ n ∧ n ≤ 30) : -99 ≤ C_wantedOf S t n ∧ C_wantedOf S t n ≤ 7 := by
  rcases C_wantedOf_l2_rg S t n hI 31 0 with ⟨z, h, h1, h2⟩ | h
  · have e : C_wantedOf S t n = z := congrArg (Sum.elim id _) h
    omega
  · have e : C_wantedOf S t n = -99 := congrArg (Sum.elim id _) h
    omega
set_option maxRecDepth 100000 in
theorem c_C_wantedOf {l : Launch} {K : KK} {N : Int} (q : Nat → Nat) (S : Sta) (t : Int) (n : Int) (hI : InvC N S) (hp1 : ok32 t) (hp2 : 0 ≤ n ∧ n ≤ 30) : CtI l yX0_wantedOf cX0_wantedOf 4 .int (0, 0) K [.ref (q 0), .int (iI t), .int (iI n)] (wC K q S) (C_wantedOf S t n) (wC K q S) := by
  refine ctI_of (by decide) (Nat.le_of_ble_eq_true rfl) rfl ?_
  intro x X hD hR
  have hD : ∀ S9 : Sta, va_D (cx_A x) (wC K q S9) := fun S9 => va_D_same hD rfl
  have hs0 := InvC_s0 hI
  have hs1 := InvC_s1 hI
  have hs3 := InvC_s3 hI
  have hs4 := InvC_s4 hI
  have hs5 := InvC_s5 hI
  have hs6 := InvC_s6 hI
  refine gx_iconst (z := 0) X dX0_wantedOf_0 rfl ?_
  refine gx_istore_n X dX0_wantedOf_1 rfl (by decide) rfl ?_
  have L2 : ∀ (fu : Nat) (v3 : Int), (0 ≤ v3) → (v3 ≤ n) → (n - v3) < (fu : Int) → (∀ z2 : Unit, C_wantedOf_l2 S t n fu v3 = .inr z2 → True → GG l (rmK (0, 0)) K x (wC K q S) 41 [(0, .ref (q 0)), (1, .int (iI t)), (2, .int (iI n))] []) → (∀ zz : Int, C_wantedOf_l2 S t n fu v3 = .inl zz → C_wantedOf S t n = zz) → GG l (rmK (0, 0)) K x (wC K q S) 2 [(0, .ref (q 0)), (1, .int (iI t)), (2, .int (iI n)), (3, .int (iI v3))] [] := by
    intro fu
    induction fu with
    | zero => intro v3 hi2_0 hi2_1 hm2 K2 KR2; exact absurd hm2 (by omega)
    | succ fu ih =>
      intro v3 hi2_0 hi2_1 hm2 K2 KR2
      refine gx_iload_n X dX0_wantedOf_2 rfl 3 rfl ?_
      refine gx_iload_n X dX0_wantedOf_3 rfl 2 rfl ?_
      refine gx_icmp_ge (tgt := 41) X dX0_wantedOf_4 (by decide) (by omega) (fun hc4 => ?_) (fun hc4 => ?_)
      · refine gx_sub [0, 1, 2] rfl ?_
        exact K2 () ((C_wantedOf_l2_s S t n fu v3).trans (if_pos hc4)) trivial
      · refine gx_aload_n X dX0_wantedOf_7 rfl 0 rfl ?_
        refine gC_r3 X dX0_wantedOf_8 ?_
        refine gx_iload_n X dX0_wantedOf_11 rfl 3 rfl ?_
        refine gC_l3 (v := (S.2 3 v3)) X (by omega) rfl dX0_wantedOf_12 ?_
        have hr12 := InvC_a3 hI v3
        refine gx_iload_n X dX0_wantedOf_13 rfl 1 rfl ?_
        refine gx_icmp_ne (tgt := 35) X dX0_wantedOf_14 (by decide) (by omega) (fun hc14 => ?_) (fun hc14 => ?_)
        · refine gx_iinc X dX0_wantedOf_35 3 rfl (by decide) rfl ?_
          refine gx_goto (tgt := 2) X dX0_wantedOf_38 (by decide) ?_
          refine gx_sub [1, 2, 3, 0] rfl ?_
          exact ih (v3 + 1) (by omega) (by omega) (by omega) (fun z e hx => K2 z ((C_wantedOf_l2_s S t n fu v3).trans (((if_neg hc4).trans (if_neg hc14)).trans e)) hx) (fun z e => KR2 z ((C_wantedOf_l2_s S t n fu v3).trans (((if_neg hc4).trans (if_neg hc14)).trans e)))
        · refine gx_aload_n X dX0_wantedOf_17 rfl 0 rfl ?_
          refine gC_r6 X dX0_wantedOf_18 ?_
          refine gx_iload_n X dX0_wantedOf_21 rfl 3 rfl ?_
          refine gC_l6 (v := (S.2 6 v3)) X (by omega) rfl dX0_wantedOf_22 ?_
          have hr22 := InvC_a6 hI v3
          refine gx_bipush (z := (-99)) X dX0_wantedOf_23 (by decide) ?_
          refine gx_icmp_eq (tgt := 35) X dX0_wantedOf_25 (by decide) (by omega) (fun hc25 => ?_) (fun hc25 => ?_)
          · refine gx_iinc X dX0_wantedOf_35 3 rfl (by decide) rfl ?_
            refine gx_goto (tgt := 2) X dX0_wantedOf_38 (by decide) ?_
            refine gx_sub [1, 2, 3, 0] rfl ?_
            exact ih (v3 + 1) (by omega) (by omega) (by omega) (fun z e hx => K2 z ((C_wantedOf_l2_s S t n fu v3).trans (((if_neg hc4).trans ((if_pos hc14).trans (if_pos hc25))).trans e)) hx) (fun z e => KR2 z ((C_wantedOf_l2_s S t n fu v3).trans (((if_neg hc4).trans ((if_pos hc14).trans (if_pos hc25))).trans e)))
          · refine gx_aload_n X dX0_wantedOf_28 rfl 0 rfl ?_
            refine gC_r6 X dX0_wantedOf_29 ?_
            refine gx_iload_n X dX0_wantedOf_32 rfl 3 rfl ?_
            refine gC_l6 (v := (S.2 6 v3)) X (by omega) rfl dX0_wantedOf_33 ?_
            exact gx_iret hR (KR2 (S.2 6 v3) ((C_wantedOf_l2_s S t n fu v3).trans ((if_neg hc4).trans ((if_pos hc14).trans (if_neg hc25))))) rfl dX0_wantedOf_34
  refine gx_sub [1, 2, 3, 0] rfl ?_
  refine L2 (31) 0 (by omega) (by omega) (by omega) (fun z2 e2 hx2 => ?_) (fun z e => congrArg (Sum.elim id (fun z2 => C_wantedOf_r2 )) e)
  refine gx_bipush (z := (-99)) X dX0_wantedOf_41 (by decide) ?_
  exact gx_iret hR (congrArg (Sum.elim id (fun z2 => C_wantedOf_r2 )) e2) rfl dX0_wantedOf_43
def C_quarrelRow_l2 (S : Sta) (n : Int) : Nat → Int → (Int) ⊕ (Unit)
  | 0, v2 => .inr ()
  | fu + 1, v2 => if n ≤ v2 then .inr () else if (S.2 6 v2) = (-99) then C_quarrelRow_l2 S n fu (v2 + 1) else if (C_wantedOf S (S.2 3 v2) v2) = (-99) then C_quarrelRow_l2 S n fu (v2 + 1) else if (C_wantedOf S (S.2 3 v2) v2) = (S.2 6 v2) then C_quarrelRow_l2 S n fu (v2 + 1) else .inl v2
theorem C_quarrelRow_l2_s (S : Sta) (n : Int) (fu : Nat) (v2 : Int) : C_quarrelRow_l2 S n (fu + 1) v2 = (if n ≤ v2 then .inr () else if (S.2 6 v2) = (-99) then C_quarrelRow_l2 S n fu (v2 + 1) else if (C_wantedOf S (S.2 3 v2) v2) = (-99) then C_quarrelRow_l2 S n fu (v2 + 1) else if (C_wantedOf S (S.2 3 v2) v2) = (S.2 6 v2) then C_quarrelRow_l2 S n fu (v2 + 1) else .inl v2) := rfl
def C_quarrelRow_r2  : Int := (-99)
def C_quarrelRow (S : Sta) (n : Int) : Int := Sum.elim id (fun z2 => C_quarrelRow_r2 ) (C_quarrelRow_l2 S n (31) 0)
theorem C_quarrelRow_l2_rg (S : Sta) (m : Int) : ∀ (n : Nat) (v : Int), 0 ≤ v → (∃ z, C_quarrelRow_l2 S m n v = .inl z ∧ 0 ≤ z ∧ z < m) ∨ C_quarrelRow_l2 S m n v = .inr () := by
  intro n
  induction n with
  | zero => intro v _; exact Or.inr rfl
  | succ n ih =>
    intro v h0
    rw [C_quarrelRow_l2_s]
    split
    · exact Or.inr rfl
    · split
      · exact ih _ (by omega)
      · split
        · exact ih _ (by omega)
        · split
          · exact ih _ (by omega)
          · exact Or.inl ⟨v, rfl, h0, by omega⟩
theorem C_quarrelRow_rg {N : Int} (S : Sta) (n : Int) (_ : InvC N S) (hn : 0 ≤ n ∧ n ≤ 30) : -99 ≤ C_quarrelRow S n ∧ C_quarrelRow S n ≤ 30 := by
  rcases C_quarrelRow_l2_rg S n 31 0 (by omega) with ⟨z, h, h1, h2⟩ | h
  · have e : C_quarrelRow S n = z := congrArg (Sum.elim id _) h
    omega
  · have e : C_quarrelRow S n = -99 := congrArg (Sum.elim id _) h
    omega
set_option maxRecDepth 100000 in
theorem c_C_quarrelRow {l : Launch} {K : KK} {N : Int} (q : Nat → Nat) (S : Sta) (n : Int) (hI : InvC N S) (hp1 : 0 ≤ n ∧ n ≤ 30) : CtI l yX0_quarrelRow cX0_quarrelRow 4 .int (1, 23) K [.ref (q 0), .int (iI n)] (wC K q S) (C_quarrelRow S n) (wC K q S) := by
  refine ctI_of (by decide) (Nat.le_of_ble_eq_true rfl) rfl ?_
  intro x X hD hR
  have hD : ∀ S9 : Sta, va_D (cx_A x) (wC K q S9) := fun S9 => va_D_same hD rfl
  have hs0 := InvC_s0 hI
  have hs1 := InvC_s1 hI
  have hs3 := InvC_s3 hI
  have hs4 := InvC_s4 hI
  have hs5 := InvC_s5 hI
  have hs6 := InvC_s6 hI
  refine gx_iconst (z := 0) X dX0_quarrelRow_0 rfl ?_
  refine gx_istore_n X dX0_quarrelRow_1 rfl (by decide) rfl ?_
  have L2 : ∀ (fu : Nat) (v2 : Int), (0 ≤ v2) → (v2 ≤ n) → (n - v2) < (fu : Int) → (∀ z2 : Unit, C_quarrelRow_l2 S n fu v2 = .inr z2 → True → GG l (rmK (1, 23)) K x (wC K q S) 54 [(0, .ref (q 0)), (1, .int (iI n))] []) → (∀ zz : Int, C_quarrelRow_l2 S n fu v2 = .inl zz → C_quarrelRow S n = zz) → GG l (rmK (1, 23)) K x (wC K q S) 2 [(0, .ref (q 0)), (1, .int (iI n)), (2, .int (iI v2))] [] := by
    intro fu
    induction fu with
    | zero => intro v2 hi2_0 hi2_1 hm2 K2 KR2; exact absurd hm2 (by omega)
    | succ fu ih =>
      intro v2 hi2_0 hi2_1 hm2 K2 KR2
      refine gx_iload_n X dX0_quarrelRow_2 rfl 2 rfl ?_
      refine gx_iload_n X dX0_quarrelRow_3 rfl 1 rfl ?_
      refine gx_icmp_ge (tgt := 54) X dX0_quarrelRow_4 (by decide) (by omega) (fun hc4 => ?_) (fun hc4 => ?_)
      · refine gx_sub [0, 1] rfl ?_
        exact K2 () ((C_quarrelRow_l2_s S n fu v2).trans (if_pos hc4)) trivial
      · refine gx_aload_n X dX0_quarrelRow_7 rfl 0 rfl ?_
        refine gx_aload_n X dX0_quarrelRow_8 rfl 0 rfl ?_
        refine gC_r3 X dX0_quarrelRow_9 ?_
        refine gx_iload_n X dX0_quarrelRow_12 rfl 2 rfl ?_
        refine gC_l3 (v := (S.2 3 v2)) X (by omega) rfl dX0_quarrelRow_13 ?_
        have hr13 := InvC_a3 hI v2
        refine gx_iload_n X dX0_quarrelRow_14 rfl 2 rfl ?_
        refine gx_callVI (As := [.int (iI (S.2 3 v2)), .int (iI v2)]) (rest := []) X (hD _) lk_C_106 (ci := 0) rfl rfl 0 rfl (c_C_wantedOf q S (S.2 3 v2) v2 hI (by omega) (by omega)) jn_all rfl ⟨by decide, by decide⟩ (Nat.le_of_ble_eq_true rfl) dX0_quarrelRow_15 ?_
        have hp15_0 := C_wantedOf_rg S (S.2 3 v2) v2 hI (by omega) (by omega)
        refine gx_istore_n X dX0_quarrelRow_18 rfl (by decide) rfl ?_
        refine gx_aload_n X dX0_quarrelRow_19 rfl 1 rfl ?_
        refine gC_r6 X dX0_quarrelRow_20 ?_
        refine gx_iload_n X dX0_quarrelRow_23 rfl 3 rfl ?_
        refine gC_l6 (v := (S.2 6 v2)) X (by omega) rfl dX0_quarrelRow_24 ?_
        have hr24 := InvC_a6 hI v2
        refine gx_bipush (z := (-99)) X dX0_quarrelRow_25 (by decide) ?_
        refine gx_icmp_eq (tgt := 48) X dX0_quarrelRow_27 (by decide) (by omega) (fun hc27 => ?_) (fun hc27 => ?_)
        · refine gx_iinc X dX0_quarrelRow_48 3 rfl (by decide) rfl ?_
          refine gx_goto (tgt := 2) X dX0_quarrelRow_51 (by decide) ?_
          refine gx_sub [2, 3, 0] rfl ?_
          exact ih (v2 + 1) (by omega) (by omega) (by omega) (fun z e hx => K2 z ((C_quarrelRow_l2_s S n fu v2).trans (((if_neg hc4).trans (if_pos hc27)).trans e)) hx) (fun z e => KR2 z ((C_quarrelRow_l2_s S n fu v2).trans (((if_neg hc4).trans (if_pos hc27)).trans e)))
        · refine gx_iload_n X dX0_quarrelRow_30 rfl 0 rfl ?_
          refine gx_bipush (z := (-99)) X dX0_quarrelRow_31 (by decide) ?_
          refine gx_icmp_eq (tgt := 48) X dX0_quarrelRow_33 (by decide) (by omega) (fun hc33 => ?_) (fun hc33 => ?_)
          · refine gx_iinc X dX0_quarrelRow_48 3 rfl (by decide) rfl ?_
            refine gx_goto (tgt := 2) X dX0_quarrelRow_51 (by decide) ?_
            refine gx_sub [2, 3, 0] rfl ?_
            exact ih (v2 + 1) (by omega) (by omega) (by omega) (fun z e hx => K2 z ((C_quarrelRow_l2_s S n fu v2).trans (((if_neg hc4).trans ((if_neg hc27).trans (if_pos hc33))).trans e)) hx) (fun z e => KR2 z ((C_quarrelRow_l2_s S n fu v2).trans (((if_neg hc4).trans ((if_neg hc27).trans (if_pos hc33))).trans e)))
          · refine gx_iload_n X dX0_quarrelRow_36 rfl 0 rfl ?_
            refine gx_aload_n X dX0_quarrelRow_37 rfl 1 rfl ?_
            refine gC_r6 X dX0_quarrelRow_38 ?_
            refine gx_iload_n X dX0_quarrelRow_41 rfl 3 rfl ?_
            refine gC_l6 (v := (S.2 6 v2)) X (by omega) rfl dX0_quarrelRow_42 ?_
            refine gx_icmp_eq (tgt := 48) X dX0_quarrelRow_43 (by decide) (by omega) (fun hc43 => ?_) (fun hc43 => ?_)
            · refine gx_iinc X dX0_quarrelRow_48 3 rfl (by decide) rfl ?_
              refine gx_goto (tgt := 2) X dX0_quarrelRow_51 (by decide) ?_
              refine gx_sub [2, 3, 0] rfl ?_
              exact ih (v2 + 1) (by omega) (by omega) (by omega) (fun z e hx => K2 z ((C_quarrelRow_l2_s S n fu v2).trans (((if_neg hc4).trans ((if_neg hc27).trans ((if_neg hc33).trans (if_pos hc43)))).trans e)) hx) (fun z e => KR2 z ((C_quarrelRow_l2_s S n fu v2).trans (((if_neg hc4).trans ((if_neg hc27).trans ((if_neg hc33).trans (if_pos hc43)))).trans e)))
            · refine gx_iload_n X dX0_quarrelRow_46 rfl 3 rfl ?_
              exact gx_iret hR (KR2 v2 ((C_quarrelRow_l2_s S n fu v2).trans ((if_neg hc4).trans ((if_neg hc27).trans ((if_neg hc33).trans (if_neg hc43)))))) rfl dX0_quarrelRow_47
  refine gx_sub [1, 2, 0] rfl ?_
  refine L2 (31) 0 (by omega) (by omega) (by omega) (fun z2 e2 hx2 => ?_) (fun z e => congrArg (Sum.elim id (fun z2 => C_quarrelRow_r2 )) e)
  refine gx_bipush (z := (-99)) X dX0_quarrelRow_54 (by decide) ?_
  exact gx_iret hR (congrArg (Sum.elim id (fun z2 => C_quarrelRow_r2 )) e2) rfl dX0_quarrelRow_56
def C_fitsWith_l9 (S : Sta) (p : Int) (t : Int) (n : Int) : Nat → Int → Int → Int → (Int) ⊕ (Unit)
  | 0, v4, v5, v6 => .inr ()
  | fu + 1, v4, v5, v6 => if n ≤ v6 then .inr () else (fun (m32 : Int) => (fun (m73a : Int) (m73b : Int) => if (C_fits S v6 m73b) = 0 then .inl 0 else C_fitsWith_l9 S p t n fu m73a m73b (v6 + 1)) (if m32 = 0 then (v4 + 1) else if m32 = 1 then (v4 + (-1)) else v4) (if m32 = 0 then (J_floorMod (-(v4 + 1)) 4) else if m32 = 1 then (J_floorMod (1 - (v4 + (-1))) 4) else v5)) (if v6 = p then t else (S.2 2 v6))
theorem C_fitsWith_l9_s (S : Sta) (p : Int) (t : Int) (n : Int) (fu : Nat) (v4 : Int) (v5 : Int) (v6 : Int) : C_fitsWith_l9 S p t n (fu + 1) v4 v5 v6 = (if n ≤ v6 then .inr () else (fun (m32 : Int) => (fun (m73a : Int) (m73b : Int) => if (C_fits S v6 m73b) = 0 then .inl 0 else C_fitsWith_l9 S p t n fu m73a m73b (v6 + 1)) (if m32 = 0 then (v4 + 1) else if m32 = 1 then (v4 + (-1)) else v4) (if m32 = 0 then (J_floorMod (-(v4 + 1)) 4) else if m32 = 1 then (J_floorMod (1 - (v4 + (-1))) 4) else v5)) (if v6 = p then t else (S.2 2 v6))) := rfl
def C_fitsWith_r9  : Int := 1
def C_fitsWith (S : Sta) (p : Int) (t : Int) (n : Int) : Int := Sum.elim id (fun z9 => C_fitsWith_r9 ) (C_fitsWith_l9 S p t n (31) 0 0 0)
theorem or_ite {α : Type} {c : Prop} [Decidable c] {a b x y : α} (h1 : c → (a = x ∨ a = y)) (h2 : ¬ c → (b = x ∨ b = y)) : ((if c then a else b) = x ∨ (if c then a else b) = y) := by
  by_cases h : c
  · rw [if_pos h]; exact h1 h
  · rw [if_neg h]; exact h2 h
theorem C_fitsWith_l9_rg (S : Sta) (p t m : Int) : ∀ (n : Nat) (v4 v5 v6 : Int), C_fitsWith_l9 S p t m n v4 v5 v6 = .inl 0 ∨ C_fitsWith_l9 S p t m n v4 v5 v6 = .inr () := by
  intro n
  induction n with
  | zero => intro v4 v5 v6; exact Or.inr rfl
  | succ n ih =>
    intro v4 v5 v6
    rw [C_fitsWith_l9_s]
    split
    · exact Or.inr rfl
    · exact or_ite (fun _ => Or.inl rfl) (fun _ => ih _ _ _)
theorem C_fitsWith_01 (S : Sta) (p t n : Int) : C_fitsWith S p t n = 0 ∨ C_fitsWith S p t n = 1 := by
  rcases C_fitsWith_l9_rg S p t n 31 0 0 0 with h | h
  · exact Or.inl (congrArg (Sum.elim id _) h)
  · exact Or.inr (congrArg (Sum.elim id _) h)
set_option maxRecDepth 100000 in
theorem c_C_fitsWith {l : Launch} {K : KK} {N : Int} (q : Nat → Nat) (S : Sta) (p : Int) (t : Int) (n : Int) (hI : InvC N S) (hp1 : ok32 p) (hp2 : 0 ≤ t ∧ t ≤ 2) (hp3 : 0 ≤ n ∧ n ≤ 30) : CtI l yX0_fitsWith cX0_fitsWith 8 .boolean (1, 22) K [.ref (q 0), .int (iI p), .int (iI t), .int (iI n)] (wC K q S) (C_fitsWith S p t n) (wC K q S) := by
  refine ctI_of (by decide) (Nat.le_of_ble_eq_true rfl) (narrow_bool (C_fitsWith_01 S p t n)) ?_
  intro x X hD hR
  have hD : ∀ S9 : Sta, va_D (cx_A x) (wC K q S9) := fun S9 => va_D_same hD rfl
  have hs0 := InvC_s0 hI
  have hs1 := InvC_s1 hI
  have hs3 := InvC_s3 hI
  have hs4 := InvC_s4 hI
  have hs5 := InvC_s5 hI
  have hs6 := InvC_s6 hI
  refine gx_iconst (z := 0) X dX0_fitsWith_0 rfl ?_
  refine gx_istore X dX0_fitsWith_1 (by decide) rfl ?_
  refine gx_iconst (z := 0) X dX0_fitsWith_3 rfl ?_
  refine gx_istore X dX0_fitsWith_4 (by decide) rfl ?_
  refine gx_iconst (z := 0) X dX0_fitsWith_6 rfl ?_
  refine gx_istore X dX0_fitsWith_7 (by decide) rfl ?_
  have L9 : ∀ (fu : Nat) (v4 : Int) (v5 : Int) (v6 : Int), (0 ≤ v6) → (v6 ≤ n) → (-v6 ≤ v4 ∧ v4 ≤ v6) → (0 ≤ v5 ∧ v5 ≤ 3) → (n - v6) < (fu : Int) → (∀ z9 : Unit, C_fitsWith_l9 S p t n fu v4 v5 v6 = .inr z9 → True → GG l (rmK (1, 22)) K x (wC K q S) 92 [(0, .ref (q 0)), (1, .int (iI p)), (2, .int (iI t)), (3, .int (iI n))] []) → (∀ zz : Int, C_fitsWith_l9 S p t n fu v4 v5 v6 = .inl zz → C_fitsWith S p t n = zz) → GG l (rmK (1, 22)) K x (wC K q S) 9 [(0, .ref (q 0)), (1, .int (iI p)), (2, .int (iI t)), (3, .int (iI n)), (4, .int (iI v4)), (5, .int (iI v5)), (6, .int (iI v6))] [] := by
    intro fu
    induction fu with
    | zero => intro v4 v5 v6 hi9_0 hi9_1 hi9_2 hi9_3 hm9 K9 KR9; exact absurd hm9 (by omega)
    | succ fu ih =>
      intro v4 v5 v6 hi9_0 hi9_1 hi9_2 hi9_3 hm9 K9 KR9
      refine gx_iload X dX0_fitsWith_9 6 rfl ?_
      refine gx_iload_n X dX0_fitsWith_11 rfl 3 rfl ?_
      refine gx_icmp_ge (tgt := 92) X dX0_fitsWith_12 (by decide) (by omega) (fun hc12 => ?_) (fun hc12 => ?_)
      · refine gx_sub [0, 1, 2, 3] rfl ?_
        exact K9 () ((C_fitsWith_l9_s S p t n fu v4 v5 v6).trans (if_pos hc12)) trivial
      · refine gx_iload X dX0_fitsWith_15 6 rfl ?_
        refine gx_iload_n X dX0_fitsWith_17 rfl 1 rfl ?_
        have J32 : ∀ (m32 : Int), m32 = (if v6 = p then t else (S.2 2 v6)) → (0 ≤ m32 ∧ m32 ≤ 2) → GG l (rmK (1, 22)) K x (wC K q S) 32 [(0, .ref (q 0)), (1, .int (iI p)), (2, .int (iI t)), (3, .int (iI n)), (4, .int (iI v4)), (5, .int (iI v5)), (6, .int (iI v6))] [.int (iI m32)] := by
          intro m32 e_m32 hf32_0
          refine gx_istore X dX0_fitsWith_32 (by decide) rfl ?_
          refine gx_iload X dX0_fitsWith_34 0 rfl ?_
          have J73 : ∀ (m73a : Int) (m73b : Int), m73a = (if m32 = 0 then (v4 + 1) else if m32 = 1 then (v4 + (-1)) else v4) → m73b = (if m32 = 0 then (J_floorMod (-(v4 + 1)) 4) else if m32 = 1 then (J_floorMod (1 - (v4 + (-1))) 4) else v5) → (-(v6 + 1) ≤ m73a ∧ m73a ≤ v6 + 1) → (0 ≤ m73b ∧ m73b ≤ 3) → GG l (rmK (1, 22)) K x (wC K q S) 73 [(0, .ref (q 0)), (1, .int (iI p)), (2, .int (iI t)), (3, .int (iI n)), (4, .int (iI m73a)), (5, .int (iI m73b)), (6, .int (iI v6)), (7, .int (iI m32))] [] := by
            intro m73a m73b e_m73a e_m73b hf73_0 hf73_1
            refine gx_aload_n X dX0_fitsWith_73 rfl 0 rfl ?_
            refine gx_iload X dX0_fitsWith_74 6 rfl ?_
            refine gx_iload X dX0_fitsWith_76 5 rfl ?_
            refine gx_callVI (As := [.int (iI v6), .int (iI m73b)]) (rest := []) X (hD _) lk_C_109 (ci := 0) rfl rfl 0 rfl (c_C_fits q S v6 m73b hI (by omega) (by omega)) jn_all rfl ⟨by decide, by decide⟩ (Nat.le_of_ble_eq_true rfl) dX0_fitsWith_78 ?_
            have hq78_0 := C_fits_01 S v6 m73b
            refine gx_if_ne (tgt := 86) X dX0_fitsWith_81 (by decide) (by omega) (fun hc81 => ?_) (fun hc81 => ?_)
            · refine gx_iinc X dX0_fitsWith_86 6 rfl (by decide) rfl ?_
              refine gx_goto (tgt := 9) X dX0_fitsWith_89 (by decide) ?_
              refine gx_sub [1, 2, 3, 4, 5, 6, 0] rfl ?_
              subst e_m32
              subst e_m73a
              subst e_m73b
              exact ih _ _ _ (by omega) (by omega) (by omega) (by omega) (by omega) (fun z e hx => K9 z ((C_fitsWith_l9_s S p t n fu v4 v5 v6).trans (((if_neg hc12).trans (if_neg hc81)).trans e)) hx) (fun z e => KR9 z ((C_fitsWith_l9_s S p t n fu v4 v5 v6).trans (((if_neg hc12).trans (if_neg hc81)).trans e)))
            · refine gx_iconst (z := 0) X dX0_fitsWith_84 rfl ?_
              subst e_m32
              subst e_m73a
              subst e_m73b
              exact gx_iret hR (KR9 _ ((C_fitsWith_l9_s S p t n fu v4 v5 v6).trans ((if_neg hc12).trans (if_pos hc81)))) rfl dX0_fitsWith_85
          refine gx_if_ne (tgt := 54) X dX0_fitsWith_36 (by decide) (by omega) (fun hc36 => ?_) (fun hc36 => ?_)
          · refine gx_iload X dX0_fitsWith_54 0 rfl ?_
            refine gx_iconst (z := 1) X dX0_fitsWith_56 rfl ?_
            refine gx_icmp_ne (tgt := 73) X dX0_fitsWith_57 (by decide) (by omega) (fun hc57 => ?_) (fun hc57 => ?_)
            · refine gx_sub [1, 2, 3, 4, 5, 6, 7, 0] rfl ?_
              exact J73 v4 v5 (((if_neg hc36).trans (if_neg hc57)).symm) (((if_neg hc36).trans (if_neg hc57)).symm) (by omega) (by omega)
            · refine gx_iinc X dX0_fitsWith_60 5 rfl (by decide) rfl ?_
              refine gx_iconst (z := 1) X dX0_fitsWith_63 rfl ?_
              refine gx_iload X dX0_fitsWith_64 0 rfl ?_
              refine gx_isub X dX0_fitsWith_66 ?_
              refine gx_iconst (z := 4) X dX0_fitsWith_67 rfl ?_
              refine gx_callSI (As := [.int (iI (1 - (v4 + (-1)))), .int (iI 4)]) (rest := []) X (hD _) lk_C_103 (c_J_floorMod (1 - (v4 + (-1))) 4 (by omega) (by omega)) jn_nil rfl ⟨by decide, by decide⟩ (Nat.le_of_ble_eq_true rfl) dX0_fitsWith_68 ?_
              have hp68_0 := J_floorMod_sp (1 - (v4 + (-1))) 4 (by omega) (by omega)
              refine gx_istore X dX0_fitsWith_71 (by decide) rfl ?_
              refine gx_sub [3, 4, 5, 6, 1, 0, 7, 2] rfl ?_
              exact J73 (v4 + (-1)) (J_floorMod (1 - (v4 + (-1))) 4) (((if_neg hc36).trans (if_pos hc57)).symm) (((if_neg hc36).trans (if_pos hc57)).symm) (by omega) (by omega)
          · refine gx_iinc X dX0_fitsWith_39 5 rfl (by decide) rfl ?_
            refine gx_iload X dX0_fitsWith_42 0 rfl ?_
            refine gx_ineg X dX0_fitsWith_44 ?_
            refine gx_iconst (z := 4) X dX0_fitsWith_45 rfl ?_
            refine gx_callSI (As := [.int (iI (-(v4 + 1))), .int (iI 4)]) (rest := []) X (hD _) lk_C_103 (c_J_floorMod (-(v4 + 1)) 4 (by omega) (by omega)) jn_nil rfl ⟨by decide, by decide⟩ (Nat.le_of_ble_eq_true rfl) dX0_fitsWith_46 ?_
            have hp46_0 := J_floorMod_sp (-(v4 + 1)) 4 (by omega) (by omega)
            refine gx_istore X dX0_fitsWith_49 (by decide) rfl ?_
            refine gx_goto (tgt := 73) X dX0_fitsWith_51 (by decide) ?_
            refine gx_sub [3, 4, 5, 6, 1, 0, 7, 2] rfl ?_
            exact J73 (v4 + 1) (J_floorMod (-(v4 + 1)) 4) ((if_pos hc36).symm) ((if_pos hc36).symm) (by omega) (by omega)
        refine gx_icmp_ne (tgt := 25) X dX0_fitsWith_18 (by decide) (by omega) (fun hc18 => ?_) (fun hc18 => ?_)
        · refine gx_aload_n X dX0_fitsWith_25 rfl 0 rfl ?_
          refine gC_r2 X dX0_fitsWith_26 ?_
          refine gx_iload X dX0_fitsWith_29 6 rfl ?_
          refine gC_l2 (v := (S.2 2 v6)) X (by omega) rfl dX0_fitsWith_31 ?_
          have hr31 := InvC_a2 hI v6
          refine gx_sub [0, 1, 2, 3, 4, 5, 6] rfl ?_
          exact J32 (S.2 2 v6) ((if_neg hc18).symm) (by omega)
        · refine gx_iload_n X dX0_fitsWith_21 rfl 2 rfl ?_
          refine gx_goto (tgt := 32) X dX0_fitsWith_22 (by decide) ?_
          refine gx_sub [0, 1, 2, 3, 4, 5, 6] rfl ?_
          exact J32 t ((if_pos hc18).symm) (by omega)
  refine gx_sub [3, 4, 5, 6, 2, 1, 0] rfl ?_
  refine L9 (31) 0 0 0 (by omega) (by omega) (by omega) (by omega) (by omega) (fun z9 e9 hx9 => ?_) (fun z e => congrArg (Sum.elim id (fun z9 => C_fitsWith_r9 )) e)
  refine gx_iconst (z := 1) X dX0_fitsWith_92 rfl ?_
  exact gx_iret hR (congrArg (Sum.elim id (fun z9 => C_fitsWith_r9 )) e9) rfl dX0_fitsWith_93
def C_move (S : Sta) (t : Int) : Sta := if t = 0 then (mA (mW (mI (mI S 6 0) 2 ((S.1 2) + (C_twistOf (mI S 6 0) t))) 0 (icpy (S.2 0) 0 1 3)) 0 0 (S.2 0 3)) else if t = 1 then (mA (mW (mI (mI S 6 0) 2 ((S.1 2) + (C_twistOf (mI S 6 0) t))) 0 (icpy (S.2 0) 1 0 3)) 0 3 (S.2 0 0)) else (mI (mI S 6 0) 2 ((S.1 2) + (C_twistOf (mI S 6 0) t)))
theorem C_move_sc (S : Sta) (t : Int) (j : Nat) (hj : j ∉ [2, 6]) : (C_move S t).1 j = S.1 j := by
  simp only [List.mem_cons, List.not_mem_nil, or_false, not_or] at hj
  have e : (mI (mI S 6 0) 2 (S.1 2 + C_twistOf (mI S 6 0) t)).1 j = S.1 j := (if_neg hj.1).trans (if_neg hj.2)
  unfold C_move
  split
  · exact e
  · split <;> exact e
theorem C_move_ar (S : Sta) (t : Int) (k : Nat) (hk : k ≠ 0) : (C_move S t).2 k = S.2 k := by
  unfold C_move
  split
  · exact (if_neg hk).trans (if_neg hk)
  · split
    · exact (if_neg hk).trans (if_neg hk)
    · rfl
set_option maxRecDepth 100000 in
theorem c_C_move {l : Launch} {K : KK} (q : Nat → Nat) (S : Sta) (t : Int) (hp0 : 0 ≤ S.1 0 ∧ S.1 0 ≤ 1) (hp1 : ok32 t) : CtV l yX0_move cX0_move 3 (2, 41) K [.ref (q 0), .int (iI t)] (wC K q S) (wC K q (C_move S t)) := by
  refine ctV_of (by decide) (Nat.le_of_ble_eq_true rfl) ?_
  intro x X hD hR
  have hD : ∀ S9 : Sta, va_D (cx_A x) (wC K q S9) := fun S9 => va_D_same hD rfl
  refine gx_aload_n X dX0_move_0 rfl 0 rfl ?_
  refine gx_iconst (z := 0) X dX0_move_1 rfl ?_
  refine gC_p6 X (hD _) (by decide) dX0_move_2 ?_
  refine gx_aload_n X dX0_move_5 rfl 0 rfl ?_
  refine gx_dup X dX0_move_6 rfl ?_
  refine gC_g2 (v := (S.1 2)) X rfl dX0_move_7 ?_
  refine gx_aload_n X dX0_move_10 rfl 0 rfl ?_
  refine gx_iload_n X dX0_move_11 rfl 1 rfl ?_
  refine gx_callVI (As := [.int (iI t)]) (rest := [.int (iI (S.1 2)), .ref (q 0)]) X (hD _) lk_C_85 (ci := 0) rfl rfl 0 rfl (c_C_twistOf q (mI S 6 0) t (hp0) (by omega)) jn_all rfl ⟨by decide, by decide⟩ (Nat.le_of_ble_eq_true rfl) dX0_move_12 ?_
  refine gx_iadd X dX0_move_15 ?_
  refine gC_p2 X (hD _) dX0_move_16 ?_
  refine gx_iload_n X dX0_move_19 rfl 1 rfl ?_
  have J87 : ∀ (S87 : Sta), S87 = (if t = 0 then (mA (mW (mI (mI S 6 0) 2 ((S.1 2) + (C_twistOf (mI S 6 0) t))) 0 (icpy (S.2 0) 0 1 3)) 0 0 (S.2 0 3)) else if t = 1 then (mA (mW (mI (mI S 6 0) 2 ((S.1 2) + (C_twistOf (mI S 6 0) t))) 0 (icpy (S.2 0) 1 0 3)) 0 3 (S.2 0 0)) else (mI (mI S 6 0) 2 ((S.1 2) + (C_twistOf (mI S 6 0) t)))) → GG l (rmK (2, 41)) K x (wC K q S87) 87 [(0, .ref (q 0)), (1, .int (iI t))] [] := by
    intro S87 e_S87
    exact gx_vret hR (congrArg (fun z : Sta => (wC K q z)) ((show C_move S t = S87 from e_S87.symm))) dX0_move_87
  refine gx_if_ne (tgt := 54) X dX0_move_20 (by decide) (by omega) (fun hc20 => ?_) (fun hc20 => ?_)
  · refine gx_iload_n X dX0_move_54 rfl 1 rfl ?_
    refine gx_iconst (z := 1) X dX0_move_55 rfl ?_
    refine gx_icmp_ne (tgt := 87) X dX0_move_56 (by decide) (by omega) (fun hc56 => ?_) (fun hc56 => ?_)
    · refine gx_sub [0, 1] rfl ?_
      exact J87 (mI (mI S 6 0) 2 ((S.1 2) + (C_twistOf (mI S 6 0) t))) (((if_neg hc20).trans (if_neg hc56)).symm) 
    · refine gx_aload_n X dX0_move_59 rfl 0 rfl ?_
      refine gC_r0 X dX0_move_60 ?_
      refine gx_iconst (z := 0) X dX0_move_63 rfl ?_
      refine gC_l0 (v := (S.2 0 0)) X (by omega) rfl dX0_move_64 ?_
      refine gx_istore_n X dX0_move_65 rfl (by decide) rfl ?_
      refine gx_aload_n X dX0_move_66 rfl 1 rfl ?_
      refine gC_r0 X dX0_move_67 ?_
      refine gx_iconst (z := 1) X dX0_move_70 rfl ?_
      refine gx_aload_n X dX0_move_71 rfl 1 rfl ?_
      refine gC_r0 X dX0_move_72 ?_
      refine gx_iconst (z := 0) X dX0_move_75 rfl ?_
      refine gx_iconst (z := 3) X dX0_move_76 rfl ?_
      refine gx_copy (ws' := (wC K q (mW (mI (mI S 6 0) 2 ((S.1 2) + (C_twistOf (mI S 6 0) t))) 0 (icpy (S.2 0) 1 0 3)))) X (hD _) 1 0 3 rfl rfl rfl 1 rfl (by decide) t_cp_C_88 t_cp_nat t_cp_stat t_cp_ini ⟨by decide, by decide⟩ rfl dX0_move_77 ?_
      refine gx_aload_n X dX0_move_80 rfl 1 rfl ?_
      refine gC_r0 X dX0_move_81 ?_
      refine gx_iconst (z := 3) X dX0_move_84 rfl ?_
      refine gx_iload_n X dX0_move_85 rfl 0 rfl ?_
      refine gC_s0 X (hD _) (by omega) dX0_move_86 ?_
      refine gx_sub [1, 2] rfl ?_
      exact J87 (mA (mW (mI (mI S 6 0) 2 ((S.1 2) + (C_twistOf (mI S 6 0) t))) 0 (icpy (S.2 0) 1 0 3)) 0 3 (S.2 0 0)) (((if_neg hc20).trans (if_pos hc56)).symm) 
  · refine gx_aload_n X dX0_move_23 rfl 0 rfl ?_
    refine gC_r0 X dX0_move_24 ?_
    refine gx_iconst (z := 3) X dX0_move_27 rfl ?_
    refine gC_l0 (v := (S.2 0 3)) X (by omega) rfl dX0_move_28 ?_
    refine gx_istore_n X dX0_move_29 rfl (by decide) rfl ?_
    refine gx_aload_n X dX0_move_30 rfl 1 rfl ?_
    refine gC_r0 X dX0_move_31 ?_
    refine gx_iconst (z := 0) X dX0_move_34 rfl ?_
    refine gx_aload_n X dX0_move_35 rfl 1 rfl ?_
    refine gC_r0 X dX0_move_36 ?_
    refine gx_iconst (z := 1) X dX0_move_39 rfl ?_
    refine gx_iconst (z := 3) X dX0_move_40 rfl ?_
    refine gx_copy (ws' := (wC K q (mW (mI (mI S 6 0) 2 ((S.1 2) + (C_twistOf (mI S 6 0) t))) 0 (icpy (S.2 0) 0 1 3)))) X (hD _) 0 1 3 rfl rfl rfl 1 rfl (by decide) t_cp_C_88 t_cp_nat t_cp_stat t_cp_ini ⟨by decide, by decide⟩ rfl dX0_move_41 ?_
    refine gx_aload_n X dX0_move_44 rfl 1 rfl ?_
    refine gC_r0 X dX0_move_45 ?_
    refine gx_iconst (z := 0) X dX0_move_48 rfl ?_
    refine gx_iload_n X dX0_move_49 rfl 0 rfl ?_
    refine gC_s0 X (hD _) (by omega) dX0_move_50 ?_
    refine gx_goto (tgt := 87) X dX0_move_51 (by decide) ?_
    refine gx_sub [1, 2] rfl ?_
    exact J87 (mA (mW (mI (mI S 6 0) 2 ((S.1 2) + (C_twistOf (mI S 6 0) t))) 0 (icpy (S.2 0) 0 1 3)) 0 0 (S.2 0 3)) ((if_pos hc20).symm) 
def C_turnIn_m58 (S : Sta) (p : Int) (t : Int) (m58 : Int) : Sta := (mA (C_move (mA (mA (mA S 5 p (S.1 3)) 2 p t) 4 p (C_slantOf (mA (mA S 5 p (S.1 3)) 2 p t) p t)) t) 3 p m58)
def C_turnIn (S : Sta) (p : Int) (t : Int) : Sta := C_turnIn_m58 S p t (if t = 2 then (C_showing (C_move (mA (mA (mA S 5 p (S.1 3)) 2 p t) 4 p (C_slantOf (mA (mA S 5 p (S.1 3)) 2 p t) p t)) t) p) else ((C_move (mA (mA (mA S 5 p (S.1 3)) 2 p t) 4 p (C_slantOf (mA (mA S 5 p (S.1 3)) 2 p t) p t)) t).2 0 t))
set_option maxRecDepth 100000 in
theorem c_C_turnIn {l : Launch} {K : KK} (q : Nat → Nat) (S : Sta) (p : Int) (t : Int) (hp0 : 0 ≤ S.1 0 ∧ S.1 0 ≤ 1) (hp1 : 0 ≤ p ∧ p < 60) (hp2 : 0 ≤ t ∧ t ≤ 2) : CtV l yX0_turnIn cX0_turnIn 3 (3, 63) K [.ref (q 0), .int (iI p), .int (iI t)] (wC K q S) (wC K q (C_turnIn S p t)) := by
  refine ctV_of (by decide) (Nat.le_of_ble_eq_true rfl) ?_
  intro x X hD hR
  have hD : ∀ S9 : Sta, va_D (cx_A x) (wC K q S9) := fun S9 => va_D_same hD rfl
  refine gx_aload_n X dX0_turnIn_0 rfl 0 rfl ?_
  refine gC_r5 X dX0_turnIn_1 ?_
  refine gx_iload_n X dX0_turnIn_4 rfl 1 rfl ?_
  refine gx_aload_n X dX0_turnIn_5 rfl 0 rfl ?_
  refine gC_g3 (v := (S.1 3)) X rfl dX0_turnIn_6 ?_
  refine gC_s5 X (hD _) (by omega) dX0_turnIn_9 ?_
  refine gx_aload_n X dX0_turnIn_10 rfl 0 rfl ?_
  refine gC_r2 X dX0_turnIn_11 ?_
  refine gx_iload_n X dX0_turnIn_14 rfl 1 rfl ?_
  refine gx_iload_n X dX0_turnIn_15 rfl 2 rfl ?_
  refine gC_s2 X (hD _) (by omega) dX0_turnIn_16 ?_
  refine gx_aload_n X dX0_turnIn_17 rfl 0 rfl ?_
  refine gC_r4 X dX0_turnIn_18 ?_
  refine gx_iload_n X dX0_turnIn_21 rfl 1 rfl ?_
  refine gx_aload_n X dX0_turnIn_22 rfl 0 rfl ?_
  refine gx_iload_n X dX0_turnIn_23 rfl 1 rfl ?_
  refine gx_iload_n X dX0_turnIn_24 rfl 2 rfl ?_
  refine gx_callVI (As := [.int (iI p), .int (iI t)]) (rest := [.int (iI p), .ref (q 5)]) X (hD _) lk_C_67 (ci := 0) rfl rfl 0 rfl (c_C_slantOf q (mA (mA S 5 p (S.1 3)) 2 p t) p t (hp0) (by omega) (by omega)) jn_all rfl ⟨by decide, by decide⟩ (Nat.le_of_ble_eq_true rfl) dX0_turnIn_25 ?_
  refine gC_s4 X (hD _) (by omega) dX0_turnIn_28 ?_
  refine gx_aload_n X dX0_turnIn_29 rfl 0 rfl ?_
  refine gx_iload_n X dX0_turnIn_30 rfl 2 rfl ?_
  refine gx_callVV (As := [.int (iI t)]) (rest := []) X (hD _) lk_C_71 (ci := 0) rfl rfl 0 rfl (c_C_move q (mA (mA (mA S 5 p (S.1 3)) 2 p t) 4 p (C_slantOf (mA (mA S 5 p (S.1 3)) 2 p t) p t)) t (hp0) (by omega)) jn_all rfl ⟨by decide, by decide⟩ (Nat.le_of_ble_eq_true rfl) dX0_turnIn_31 ?_
  refine gx_aload_n X dX0_turnIn_34 rfl 0 rfl ?_
  refine gC_r3 X dX0_turnIn_35 ?_
  refine gx_iload_n X dX0_turnIn_38 rfl 1 rfl ?_
  refine gx_iload_n X dX0_turnIn_39 rfl 2 rfl ?_
  refine gx_iconst (z := 2) X dX0_turnIn_40 rfl ?_
  have J58 : ∀ (m58 : Int), m58 = (if t = 2 then (C_showing (C_move (mA (mA (mA S 5 p (S.1 3)) 2 p t) 4 p (C_slantOf (mA (mA S 5 p (S.1 3)) 2 p t) p t)) t) p) else ((C_move (mA (mA (mA S 5 p (S.1 3)) 2 p t) 4 p (C_slantOf (mA (mA S 5 p (S.1 3)) 2 p t) p t)) t).2 0 t)) → GG l (rmK (3, 63)) K x (wC K q (C_move (mA (mA (mA S 5 p (S.1 3)) 2 p t) 4 p (C_slantOf (mA (mA S 5 p (S.1 3)) 2 p t) p t)) t)) 58 [(0, .ref (q 0)), (1, .int (iI p)), (2, .int (iI t))] [.int (iI m58), .int (iI p), .ref (q 4)] := by
    intro m58 e_m58
    refine gC_s3 X (hD _) (by omega) dX0_turnIn_58 ?_
    exact gx_vret hR (congrArg (fun z : Sta => (wC K q z)) ((show C_turnIn S p t = (mA (C_move (mA (mA (mA S 5 p (S.1 3)) 2 p t) 4 p (C_slantOf (mA (mA S 5 p (S.1 3)) 2 p t) p t)) t) 3 p m58) from congrArg (fun z0 => C_turnIn_m58 S p t z0) e_m58.symm))) dX0_turnIn_59
  refine gx_icmp_ne (tgt := 52) X dX0_turnIn_41 (by decide) (by omega) (fun hc41 => ?_) (fun hc41 => ?_)
  · refine gx_aload_n X dX0_turnIn_52 rfl 0 rfl ?_
    refine gC_r0 X dX0_turnIn_53 ?_
    refine gx_iload_n X dX0_turnIn_56 rfl 2 rfl ?_
    refine gC_l0 (v := ((C_move (mA (mA (mA S 5 p (S.1 3)) 2 p t) 4 p (C_slantOf (mA (mA S 5 p (S.1 3)) 2 p t) p t)) t).2 0 t)) X (by omega) rfl dX0_turnIn_57 ?_
    refine gx_sub [0, 1, 2] rfl ?_
    exact J58 ((C_move (mA (mA (mA S 5 p (S.1 3)) 2 p t) 4 p (C_slantOf (mA (mA S 5 p (S.1 3)) 2 p t) p t)) t).2 0 t) ((if_neg hc41).symm) 
  · refine gx_aload_n X dX0_turnIn_44 rfl 0 rfl ?_
    refine gx_iload_n X dX0_turnIn_45 rfl 1 rfl ?_
    refine gx_callVI (As := [.int (iI p)]) (rest := [.int (iI p), .ref (q 4)]) X (hD _) lk_C_75 (ci := 0) rfl rfl 0 rfl (c_C_showing q (C_move (mA (mA (mA S 5 p (S.1 3)) 2 p t) 4 p (C_slantOf (mA (mA S 5 p (S.1 3)) 2 p t) p t)) t) p (by omega)) jn_all rfl ⟨by decide, by decide⟩ (Nat.le_of_ble_eq_true rfl) dX0_turnIn_46 ?_
    refine gx_goto (tgt := 58) X dX0_turnIn_49 (by decide) ?_
    refine gx_sub [0, 1, 2] rfl ?_
    exact J58 (C_showing (C_move (mA (mA (mA S 5 p (S.1 3)) 2 p t) 4 p (C_slantOf (mA (mA S 5 p (S.1 3)) 2 p t) p t)) t) p) ((if_pos hc41).symm) 
def C_takeBack_m20 (p : Int) (S20 : Sta) : Sta := (C_move (mI S20 3 (S20.2 5 p)) (C_opposite (S20.2 2 p)))
def C_takeBack (S : Sta) (p : Int) : Sta := C_takeBack_m20 p (if (((S.1 3) - (S.2 5 p)) % 2) = 0 then S else (C_turnOver S))
set_option maxRecDepth 100000 in
theorem c_C_takeBack {l : Launch} {K : KK} {N : Int} (q : Nat → Nat) (S : Sta) (p : Int) (hI : InvC N S) (hp1 : 0 ≤ p ∧ p < 60) (hp2 : S.2 5 p ≤ S.1 3) : CtV l yX0_takeBack cX0_takeBack 2 (3, 63) K [.ref (q 0), .int (iI p)] (wC K q S) (wC K q (C_takeBack S p)) := by
  refine ctV_of (by decide) (Nat.le_of_ble_eq_true rfl) ?_
  intro x X hD hR
  have hD : ∀ S9 : Sta, va_D (cx_A x) (wC K q S9) := fun S9 => va_D_same hD rfl
  have hs0 := InvC_s0 hI
  have hs1 := InvC_s1 hI
  have hs3 := InvC_s3 hI
  have hs4 := InvC_s4 hI
  have hs5 := InvC_s5 hI
  have hs6 := InvC_s6 hI
  refine gx_aload_n X dX0_takeBack_0 rfl 0 rfl ?_
  refine gC_g3 (v := (S.1 3)) X rfl dX0_takeBack_1 ?_
  refine gx_aload_n X dX0_takeBack_4 rfl 0 rfl ?_
  refine gC_r5 X dX0_takeBack_5 ?_
  refine gx_iload_n X dX0_takeBack_8 rfl 1 rfl ?_
  refine gC_l5 (v := (S.2 5 p)) X (by omega) rfl dX0_takeBack_9 ?_
  have hr9 := InvC_a5 hI p
  refine gx_isub X dX0_takeBack_10 ?_
  refine gx_iconst (z := 2) X dX0_takeBack_11 rfl ?_
  refine gx_irem X dX0_takeBack_12 (by omega) ?_
  have J20 : ∀ (S20 : Sta), S20 = (if (((S.1 3) - (S.2 5 p)) % 2) = 0 then S else (C_turnOver S)) → (InvC N S20) → GG l (rmK (3, 63)) K x (wC K q S20) 20 [(0, .ref (q 0)), (1, .int (iI p))] [] := by
    intro S20 e_S20 hf20_0
    refine gx_aload_n X dX0_takeBack_20 rfl 0 rfl ?_
    refine gx_aload_n X dX0_takeBack_21 rfl 0 rfl ?_
    refine gC_r5 X dX0_takeBack_22 ?_
    refine gx_iload_n X dX0_takeBack_25 rfl 1 rfl ?_
    refine gC_l5 (v := (S20.2 5 p)) X (by omega) rfl dX0_takeBack_26 ?_
    have hr26 := InvC_a5 hf20_0 p
    refine gC_p3 X (hD _) dX0_takeBack_27 ?_
    refine gx_aload_n X dX0_takeBack_30 rfl 0 rfl ?_
    refine gx_aload_n X dX0_takeBack_31 rfl 0 rfl ?_
    refine gC_r2 X dX0_takeBack_32 ?_
    refine gx_iload_n X dX0_takeBack_35 rfl 1 rfl ?_
    refine gC_l2 (v := (S20.2 2 p)) X (by omega) rfl dX0_takeBack_36 ?_
    have hr36 := InvC_a2 hf20_0 p
    refine gx_callSI (As := [.int (iI (S20.2 2 p))]) (rest := [.ref (q 0)]) X (hD _) lk_C_82 (c_C_opposite (S20.2 2 p) (by omega)) jn_nil rfl ⟨by decide, by decide⟩ (Nat.le_of_ble_eq_true rfl) dX0_takeBack_37 ?_
    have hq37_0 := C_opposite_sp (S20.2 2 p)
    refine gx_callVV (As := [.int (iI (C_opposite (S20.2 2 p)))]) (rest := []) X (hD _) lk_C_71 (ci := 0) rfl rfl 0 rfl (c_C_move q (mI S20 3 (S20.2 5 p)) (C_opposite (S20.2 2 p)) (show 0 ≤ S20.1 0 ∧ S20.1 0 ≤ 1 from InvC_s0 hf20_0) (by omega)) jn_all rfl ⟨by decide, by decide⟩ (Nat.le_of_ble_eq_true rfl) dX0_takeBack_40 ?_
    exact gx_vret hR (congrArg (fun z : Sta => (wC K q z)) ((show C_takeBack S p = (C_move (mI S20 3 (S20.2 5 p)) (C_opposite (S20.2 2 p))) from congrArg (fun z0 => C_takeBack_m20 p z0) e_S20.symm))) dX0_takeBack_43
  refine gx_if_eq (tgt := 20) X dX0_takeBack_13 (by decide) (by omega) (fun hc13 => ?_) (fun hc13 => ?_)
  · refine gx_sub [0, 1] rfl ?_
    exact J20 S ((if_pos hc13).symm) (by first | exact hI | exact C_turnOver_inv hI)
  · refine gx_aload_n X dX0_takeBack_16 rfl 0 rfl ?_
    refine gx_callVV (As := []) (rest := []) X (hD _) lk_C_79 (ci := 0) rfl rfl 0 rfl (c_C_turnOver q S  ) jn_all rfl ⟨by decide, by decide⟩ (Nat.le_of_ble_eq_true rfl) dX0_takeBack_17 ?_
    refine gx_sub [0, 1] rfl ?_
    exact J20 (C_turnOver S) ((if_neg hc13).symm) (by first | exact hI | exact C_turnOver_inv hI)
end
