/-- a private method of a class that the tables say can be made, by its rows of tables_1 -/
def lw_okq (q : MethodName × Nat) : Prop := (q.1.cls ≠ "java/lang/invoke/MethodHandle" ∧ q.1.cls ≠ "java/lang/invoke/VarHandle") ∧ Cond.instantiable q.1.cls q.2 ∈ tables_1 ∧ Cond.privateMethod q.1 ∈ tables_1 ∧ Cond.instanceMethod q.1 ∈ tables_1
theorem lw_p0 : lw_okq (⟨"WalkedWays", "startRowsAnew", "(I)V"⟩, 14) := ⟨⟨by decide +kernel, by decide +kernel⟩, List.mem_of_getElem? (i := 14) (by decide +kernel), List.mem_of_getElem? (i := 266) (by decide +kernel), List.mem_of_getElem? (i := 267) (by decide +kernel)⟩
theorem lw_p1 : lw_okq (⟨"WalkedWays", "rowOf", "(II)LWalkedWays$Row;"⟩, 14) := ⟨⟨by decide +kernel, by decide +kernel⟩, List.mem_of_getElem? (i := 14) (by decide +kernel), List.mem_of_getElem? (i := 270) (by decide +kernel), List.mem_of_getElem? (i := 271) (by decide +kernel)⟩
theorem lw_p2 : lw_okq (⟨"WalkedWays", "loseAllOn", "(I)I"⟩, 14) := ⟨⟨by decide +kernel, by decide +kernel⟩, List.mem_of_getElem? (i := 14) (by decide +kernel), List.mem_of_getElem? (i := 302) (by decide +kernel), List.mem_of_getElem? (i := 303) (by decide +kernel)⟩
theorem lw_p3 : lw_okq (⟨"WalkedWays", "lose", "(LWalkedWays$Walker;)V"⟩, 14) := ⟨⟨by decide +kernel, by decide +kernel⟩, List.mem_of_getElem? (i := 14) (by decide +kernel), List.mem_of_getElem? (i := 306) (by decide +kernel), List.mem_of_getElem? (i := 307) (by decide +kernel)⟩
theorem lw_p4 : lw_okq (⟨"WalkedWays", "countOn", "(IZ)I"⟩, 14) := ⟨⟨by decide +kernel, by decide +kernel⟩, List.mem_of_getElem? (i := 14) (by decide +kernel), List.mem_of_getElem? (i := 326) (by decide +kernel), List.mem_of_getElem? (i := 327) (by decide +kernel)⟩
theorem lw_p5 : lw_okq (⟨"WalkedWays$Sharing", "sumOfValues", "(I)J"⟩, 3) := ⟨⟨by decide +kernel, by decide +kernel⟩, List.mem_of_getElem? (i := 56) (by decide +kernel), List.mem_of_getElem? (i := 363) (by decide +kernel), List.mem_of_getElem? (i := 364) (by decide +kernel)⟩
theorem lw_p6 : lw_okq (⟨"WalkedWays$Sharing", "giveOne", "(I[I)V"⟩, 3) := ⟨⟨by decide +kernel, by decide +kernel⟩, List.mem_of_getElem? (i := 56) (by decide +kernel), List.mem_of_getElem? (i := 368) (by decide +kernel), List.mem_of_getElem? (i := 369) (by decide +kernel)⟩
theorem lw_p7 : lw_okq (⟨"WalkedWays$Row", "lift", "(I)V"⟩, 5) := ⟨⟨by decide +kernel, by decide +kernel⟩, List.mem_of_getElem? (i := 93) (by decide +kernel), List.mem_of_getElem? (i := 373) (by decide +kernel), List.mem_of_getElem? (i := 374) (by decide +kernel)⟩
theorem lw_p8 : lw_okq (⟨"WalkedWays$Row", "leastBelow", "(I)I"⟩, 5) := ⟨⟨by decide +kernel, by decide +kernel⟩, List.mem_of_getElem? (i := 93) (by decide +kernel), List.mem_of_getElem? (i := 377) (by decide +kernel), List.mem_of_getElem? (i := 378) (by decide +kernel)⟩
theorem lw_p9 : lw_okq (⟨"WalkedWays", "freeWalker", "()I"⟩, 14) := ⟨⟨by decide +kernel, by decide +kernel⟩, List.mem_of_getElem? (i := 14) (by decide +kernel), List.mem_of_getElem? (i := 408) (by decide +kernel), List.mem_of_getElem? (i := 409) (by decide +kernel)⟩
theorem lw_p10 : lw_okq (⟨"WalkedWays", "goOn", "(LWalkedWays$Walker;I)V"⟩, 14) := ⟨⟨by decide +kernel, by decide +kernel⟩, List.mem_of_getElem? (i := 14) (by decide +kernel), List.mem_of_getElem? (i := 420) (by decide +kernel), List.mem_of_getElem? (i := 421) (by decide +kernel)⟩
theorem lw_p11 : lw_okq (⟨"WalkedWays", "pick", "(LWalkedWays$Walker;I)I"⟩, 14) := ⟨⟨by decide +kernel, by decide +kernel⟩, List.mem_of_getElem? (i := 14) (by decide +kernel), List.mem_of_getElem? (i := 424) (by decide +kernel), List.mem_of_getElem? (i := 425) (by decide +kernel)⟩
theorem lw_p12 : lw_okq (⟨"WalkedWays", "weigh", "(LWalkedWays$Walker;II)I"⟩, 14) := ⟨⟨by decide +kernel, by decide +kernel⟩, List.mem_of_getElem? (i := 14) (by decide +kernel), List.mem_of_getElem? (i := 432) (by decide +kernel), List.mem_of_getElem? (i := 433) (by decide +kernel)⟩
theorem lw_p13 : lw_okq (⟨"WalkedWays", "passTick", "()V"⟩, 14) := ⟨⟨by decide +kernel, by decide +kernel⟩, List.mem_of_getElem? (i := 14) (by decide +kernel), List.mem_of_getElem? (i := 458) (by decide +kernel), List.mem_of_getElem? (i := 459) (by decide +kernel)⟩
theorem lw_p14 : lw_okq (⟨"WalkedWays", "comeBack", "(LWalkedWays$Walker;)V"⟩, 14) := ⟨⟨by decide +kernel, by decide +kernel⟩, List.mem_of_getElem? (i := 14) (by decide +kernel), List.mem_of_getElem? (i := 462) (by decide +kernel), List.mem_of_getElem? (i := 463) (by decide +kernel)⟩
theorem lw_p15 : lw_okq (⟨"WalkedWays", "finish", "(LWalkedWays$Walker;I)V"⟩, 14) := ⟨⟨by decide +kernel, by decide +kernel⟩, List.mem_of_getElem? (i := 14) (by decide +kernel), List.mem_of_getElem? (i := 487) (by decide +kernel), List.mem_of_getElem? (i := 488) (by decide +kernel)⟩
def lw_privs_1 : List (MethodName × Nat) := [(⟨"WalkedWays", "startRowsAnew", "(I)V"⟩, 14), (⟨"WalkedWays", "rowOf", "(II)LWalkedWays$Row;"⟩, 14), (⟨"WalkedWays", "loseAllOn", "(I)I"⟩, 14), (⟨"WalkedWays", "lose", "(LWalkedWays$Walker;)V"⟩, 14), (⟨"WalkedWays", "countOn", "(IZ)I"⟩, 14), (⟨"WalkedWays$Sharing", "sumOfValues", "(I)J"⟩, 3), (⟨"WalkedWays$Sharing", "giveOne", "(I[I)V"⟩, 3), (⟨"WalkedWays$Row", "lift", "(I)V"⟩, 5), (⟨"WalkedWays$Row", "leastBelow", "(I)I"⟩, 5), (⟨"WalkedWays", "freeWalker", "()I"⟩, 14), (⟨"WalkedWays", "goOn", "(LWalkedWays$Walker;I)V"⟩, 14), (⟨"WalkedWays", "pick", "(LWalkedWays$Walker;I)I"⟩, 14), (⟨"WalkedWays", "weigh", "(LWalkedWays$Walker;II)I"⟩, 14), (⟨"WalkedWays", "passTick", "()V"⟩, 14), (⟨"WalkedWays", "comeBack", "(LWalkedWays$Walker;)V"⟩, 14), (⟨"WalkedWays", "finish", "(LWalkedWays$Walker;I)V"⟩, 14)]
theorem lw_r1 : ∀ q ∈ lw_privs_1, lw_okq q := List.forall_mem_cons.mpr ⟨lw_p0, List.forall_mem_cons.mpr ⟨lw_p1, List.forall_mem_cons.mpr ⟨lw_p2, List.forall_mem_cons.mpr ⟨lw_p3, List.forall_mem_cons.mpr ⟨lw_p4, List.forall_mem_cons.mpr ⟨lw_p5, List.forall_mem_cons.mpr ⟨lw_p6, List.forall_mem_cons.mpr ⟨lw_p7, List.forall_mem_cons.mpr ⟨lw_p8, List.forall_mem_cons.mpr ⟨lw_p9, List.forall_mem_cons.mpr ⟨lw_p10, List.forall_mem_cons.mpr ⟨lw_p11, List.forall_mem_cons.mpr ⟨lw_p12, List.forall_mem_cons.mpr ⟨lw_p13, List.forall_mem_cons.mpr ⟨lw_p14, List.forall_mem_cons.mpr ⟨lw_p15, fun _ h => absurd h List.not_mem_nil⟩⟩⟩⟩⟩⟩⟩⟩⟩⟩⟩⟩⟩⟩⟩⟩
theorem lw_p16 : lw_okq (⟨"WalkedWays", "stepBack", "(LWalkedWays$Walker;)V"⟩, 14) := ⟨⟨by decide +kernel, by decide +kernel⟩, List.mem_of_getElem? (i := 14) (by decide +kernel), List.mem_of_getElem? (i := 491) (by decide +kernel), List.mem_of_getElem? (i := 492) (by decide +kernel)⟩
theorem lw_p17 : lw_okq (⟨"WalkedWays", "comeOut", "(LWalkedWays$Walker;)V"⟩, 14) := ⟨⟨by decide +kernel, by decide +kernel⟩, List.mem_of_getElem? (i := 14) (by decide +kernel), List.mem_of_getElem? (i := 495) (by decide +kernel), List.mem_of_getElem? (i := 496) (by decide +kernel)⟩
theorem lw_p18 : lw_okq (⟨"WalkedWays", "isWalker", "(I)Z"⟩, 14) := ⟨⟨by decide +kernel, by decide +kernel⟩, List.mem_of_getElem? (i := 14) (by decide +kernel), List.mem_of_getElem? (i := 508) (by decide +kernel), List.mem_of_getElem? (i := 509) (by decide +kernel)⟩
theorem lw_p19 : lw_okq (⟨"WalkedWays", "followLearnt", "(II)I"⟩, 14) := ⟨⟨by decide +kernel, by decide +kernel⟩, List.mem_of_getElem? (i := 14) (by decide +kernel), List.mem_of_getElem? (i := 532) (by decide +kernel), List.mem_of_getElem? (i := 533) (by decide +kernel)⟩
theorem lw_p20 : lw_okq (⟨"WalkedWays", "delaysOfWay", "(I)I"⟩, 14) := ⟨⟨by decide +kernel, by decide +kernel⟩, List.mem_of_getElem? (i := 14) (by decide +kernel), List.mem_of_getElem? (i := 537) (by decide +kernel), List.mem_of_getElem? (i := 538) (by decide +kernel)⟩
theorem lw_p21 : lw_okq (⟨"WalkedWays", "setOfWay", "(I)I"⟩, 14) := ⟨⟨by decide +kernel, by decide +kernel⟩, List.mem_of_getElem? (i := 14) (by decide +kernel), List.mem_of_getElem? (i := 546) (by decide +kernel), List.mem_of_getElem? (i := 547) (by decide +kernel)⟩
theorem lw_p22 : lw_okq (⟨"WalkedWays", "nodeOfWay", "(II)I"⟩, 14) := ⟨⟨by decide +kernel, by decide +kernel⟩, List.mem_of_getElem? (i := 14) (by decide +kernel), List.mem_of_getElem? (i := 550) (by decide +kernel), List.mem_of_getElem? (i := 551) (by decide +kernel)⟩
theorem lw_p23 : lw_okq (⟨"WalkedWays$Net", "reach", "(III)V"⟩, 6) := ⟨⟨by decide +kernel, by decide +kernel⟩, List.mem_of_getElem? (i := 22) (by decide +kernel), List.mem_of_getElem? (i := 562) (by decide +kernel), List.mem_of_getElem? (i := 563) (by decide +kernel)⟩
theorem lw_p24 : lw_okq (⟨"WalkedWays", "countWalkers", "(Z)I"⟩, 14) := ⟨⟨by decide +kernel, by decide +kernel⟩, List.mem_of_getElem? (i := 14) (by decide +kernel), List.mem_of_getElem? (i := 579) (by decide +kernel), List.mem_of_getElem? (i := 580) (by decide +kernel)⟩
theorem lw_p25 : lw_okq (⟨"WalkedWaysModel", "isNext", "(II)Z"⟩, 34) := ⟨⟨by decide +kernel, by decide +kernel⟩, List.mem_of_getElem? (i := 583) (by decide +kernel), List.mem_of_getElem? (i := 703) (by decide +kernel), List.mem_of_getElem? (i := 704) (by decide +kernel)⟩
theorem lw_p26 : lw_okq (⟨"WalkedWaysModel", "freeLink", "()I"⟩, 34) := ⟨⟨by decide +kernel, by decide +kernel⟩, List.mem_of_getElem? (i := 583) (by decide +kernel), List.mem_of_getElem? (i := 707) (by decide +kernel), List.mem_of_getElem? (i := 708) (by decide +kernel)⟩
theorem lw_p27 : lw_okq (⟨"WalkedWaysModel", "forgets", "(I)V"⟩, 34) := ⟨⟨by decide +kernel, by decide +kernel⟩, List.mem_of_getElem? (i := 583) (by decide +kernel), List.mem_of_getElem? (i := 711) (by decide +kernel), List.mem_of_getElem? (i := 712) (by decide +kernel)⟩
theorem lw_p28 : lw_okq (⟨"WalkedWaysModel", "makeEven", "(II)V"⟩, 34) := ⟨⟨by decide +kernel, by decide +kernel⟩, List.mem_of_getElem? (i := 583) (by decide +kernel), List.mem_of_getElem? (i := 715) (by decide +kernel), List.mem_of_getElem? (i := 716) (by decide +kernel)⟩
theorem lw_p29 : lw_okq (⟨"WalkedWaysModel", "spreadEven", "(IIII)V"⟩, 34) := ⟨⟨by decide +kernel, by decide +kernel⟩, List.mem_of_getElem? (i := 583) (by decide +kernel), List.mem_of_getElem? (i := 722) (by decide +kernel), List.mem_of_getElem? (i := 723) (by decide +kernel)⟩
theorem lw_p30 : lw_okq (⟨"WalkedWaysModel", "manyNext", "(I)I"⟩, 34) := ⟨⟨by decide +kernel, by decide +kernel⟩, List.mem_of_getElem? (i := 583) (by decide +kernel), List.mem_of_getElem? (i := 726) (by decide +kernel), List.mem_of_getElem? (i := 727) (by decide +kernel)⟩
theorem lw_p31 : lw_okq (⟨"WalkedWaysModel", "isThere", "(I)Z"⟩, 34) := ⟨⟨by decide +kernel, by decide +kernel⟩, List.mem_of_getElem? (i := 583) (by decide +kernel), List.mem_of_getElem? (i := 734) (by decide +kernel), List.mem_of_getElem? (i := 735) (by decide +kernel)⟩
def lw_privs_2 : List (MethodName × Nat) := [(⟨"WalkedWays", "stepBack", "(LWalkedWays$Walker;)V"⟩, 14), (⟨"WalkedWays", "comeOut", "(LWalkedWays$Walker;)V"⟩, 14), (⟨"WalkedWays", "isWalker", "(I)Z"⟩, 14), (⟨"WalkedWays", "followLearnt", "(II)I"⟩, 14), (⟨"WalkedWays", "delaysOfWay", "(I)I"⟩, 14), (⟨"WalkedWays", "setOfWay", "(I)I"⟩, 14), (⟨"WalkedWays", "nodeOfWay", "(II)I"⟩, 14), (⟨"WalkedWays$Net", "reach", "(III)V"⟩, 6), (⟨"WalkedWays", "countWalkers", "(Z)I"⟩, 14), (⟨"WalkedWaysModel", "isNext", "(II)Z"⟩, 34), (⟨"WalkedWaysModel", "freeLink", "()I"⟩, 34), (⟨"WalkedWaysModel", "forgets", "(I)V"⟩, 34), (⟨"WalkedWaysModel", "makeEven", "(II)V"⟩, 34), (⟨"WalkedWaysModel", "spreadEven", "(IIII)V"⟩, 34), (⟨"WalkedWaysModel", "manyNext", "(I)I"⟩, 34), (⟨"WalkedWaysModel", "isThere", "(I)Z"⟩, 34)]
theorem lw_r2 : ∀ q ∈ lw_privs_2, lw_okq q := List.forall_mem_cons.mpr ⟨lw_p16, List.forall_mem_cons.mpr ⟨lw_p17, List.forall_mem_cons.mpr ⟨lw_p18, List.forall_mem_cons.mpr ⟨lw_p19, List.forall_mem_cons.mpr ⟨lw_p20, List.forall_mem_cons.mpr ⟨lw_p21, List.forall_mem_cons.mpr ⟨lw_p22, List.forall_mem_cons.mpr ⟨lw_p23, List.forall_mem_cons.mpr ⟨lw_p24, List.forall_mem_cons.mpr ⟨lw_p25, List.forall_mem_cons.mpr ⟨lw_p26, List.forall_mem_cons.mpr ⟨lw_p27, List.forall_mem_cons.mpr ⟨lw_p28, List.forall_mem_cons.mpr ⟨lw_p29, List.forall_mem_cons.mpr ⟨lw_p30, List.forall_mem_cons.mpr ⟨lw_p31, fun _ h => absurd h List.not_mem_nil⟩⟩⟩⟩⟩⟩⟩⟩⟩⟩⟩⟩⟩⟩⟩⟩
theorem lw_p32 : lw_okq (⟨"WalkedWaysModel", "loses", "(I)V"⟩, 34) := ⟨⟨by decide +kernel, by decide +kernel⟩, List.mem_of_getElem? (i := 583) (by decide +kernel), List.mem_of_getElem? (i := 738) (by decide +kernel), List.mem_of_getElem? (i := 739) (by decide +kernel)⟩
theorem lw_p33 : lw_okq (⟨"WalkedWaysModel", "onIt", "(IZ)I"⟩, 34) := ⟨⟨by decide +kernel, by decide +kernel⟩, List.mem_of_getElem? (i := 583) (by decide +kernel), List.mem_of_getElem? (i := 750) (by decide +kernel), List.mem_of_getElem? (i := 751) (by decide +kernel)⟩
theorem lw_p34 : lw_okq (⟨"WalkedWaysModel", "fadeRow", "(III)I"⟩, 34) := ⟨⟨by decide +kernel, by decide +kernel⟩, List.mem_of_getElem? (i := 583) (by decide +kernel), List.mem_of_getElem? (i := 774) (by decide +kernel), List.mem_of_getElem? (i := 775) (by decide +kernel)⟩
theorem lw_p35 : lw_okq (⟨"WalkedWaysModel", "shareOut", "(IIJI)V"⟩, 34) := ⟨⟨by decide +kernel, by decide +kernel⟩, List.mem_of_getElem? (i := 583) (by decide +kernel), List.mem_of_getElem? (i := 779) (by decide +kernel), List.mem_of_getElem? (i := 780) (by decide +kernel)⟩
theorem lw_p36 : lw_okq (⟨"WalkedWaysModel", "lift", "(II)V"⟩, 34) := ⟨⟨by decide +kernel, by decide +kernel⟩, List.mem_of_getElem? (i := 583) (by decide +kernel), List.mem_of_getElem? (i := 784) (by decide +kernel), List.mem_of_getElem? (i := 785) (by decide +kernel)⟩
theorem lw_p37 : lw_okq (⟨"WalkedWaysModel", "lowest", "(II)I"⟩, 34) := ⟨⟨by decide +kernel, by decide +kernel⟩, List.mem_of_getElem? (i := 583) (by decide +kernel), List.mem_of_getElem? (i := 788) (by decide +kernel), List.mem_of_getElem? (i := 789) (by decide +kernel)⟩
theorem lw_p38 : lw_okq (⟨"WalkedWaysModel", "greatest", "(II)I"⟩, 34) := ⟨⟨by decide +kernel, by decide +kernel⟩, List.mem_of_getElem? (i := 583) (by decide +kernel), List.mem_of_getElem? (i := 792) (by decide +kernel), List.mem_of_getElem? (i := 793) (by decide +kernel)⟩
theorem lw_p39 : lw_okq (⟨"WalkedWaysModel", "raiseBy", "(IIII)V"⟩, 34) := ⟨⟨by decide +kernel, by decide +kernel⟩, List.mem_of_getElem? (i := 583) (by decide +kernel), List.mem_of_getElem? (i := 800) (by decide +kernel), List.mem_of_getElem? (i := 801) (by decide +kernel)⟩
theorem lw_p40 : lw_okq (⟨"WalkedWaysModel", "goesOn", "(II)Z"⟩, 34) := ⟨⟨by decide +kernel, by decide +kernel⟩, List.mem_of_getElem? (i := 583) (by decide +kernel), List.mem_of_getElem? (i := 816) (by decide +kernel), List.mem_of_getElem? (i := 817) (by decide +kernel)⟩
theorem lw_p41 : lw_okq (⟨"WalkedWaysModel", "pick", "(II)I"⟩, 34) := ⟨⟨by decide +kernel, by decide +kernel⟩, List.mem_of_getElem? (i := 583) (by decide +kernel), List.mem_of_getElem? (i := 820) (by decide +kernel), List.mem_of_getElem? (i := 821) (by decide +kernel)⟩
theorem lw_p42 : lw_okq (⟨"WalkedWaysModel", "placeIn", "(II)I"⟩, 34) := ⟨⟨by decide +kernel, by decide +kernel⟩, List.mem_of_getElem? (i := 583) (by decide +kernel), List.mem_of_getElem? (i := 824) (by decide +kernel), List.mem_of_getElem? (i := 825) (by decide +kernel)⟩
theorem lw_p43 : lw_okq (⟨"WalkedWaysModel", "mayPick", "(IIIZ)Z"⟩, 34) := ⟨⟨by decide +kernel, by decide +kernel⟩, List.mem_of_getElem? (i := 583) (by decide +kernel), List.mem_of_getElem? (i := 828) (by decide +kernel), List.mem_of_getElem? (i := 829) (by decide +kernel)⟩
theorem lw_p44 : lw_okq (⟨"WalkedWaysModel", "weight", "(III)I"⟩, 34) := ⟨⟨by decide +kernel, by decide +kernel⟩, List.mem_of_getElem? (i := 583) (by decide +kernel), List.mem_of_getElem? (i := 832) (by decide +kernel), List.mem_of_getElem? (i := 833) (by decide +kernel)⟩
theorem lw_p45 : lw_okq (⟨"WalkedWaysModel", "draw", "(I)I"⟩, 34) := ⟨⟨by decide +kernel, by decide +kernel⟩, List.mem_of_getElem? (i := 583) (by decide +kernel), List.mem_of_getElem? (i := 836) (by decide +kernel), List.mem_of_getElem? (i := 837) (by decide +kernel)⟩
theorem lw_p46 : lw_okq (⟨"WalkedWaysModel", "comesBack", "(I)Z"⟩, 34) := ⟨⟨by decide +kernel, by decide +kernel⟩, List.mem_of_getElem? (i := 583) (by decide +kernel), List.mem_of_getElem? (i := 845) (by decide +kernel), List.mem_of_getElem? (i := 846) (by decide +kernel)⟩
theorem lw_p47 : lw_okq (⟨"WalkedWaysModel", "note", "(II)V"⟩, 34) := ⟨⟨by decide +kernel, by decide +kernel⟩, List.mem_of_getElem? (i := 583) (by decide +kernel), List.mem_of_getElem? (i := 849) (by decide +kernel), List.mem_of_getElem? (i := 850) (by decide +kernel)⟩
def lw_privs_3 : List (MethodName × Nat) := [(⟨"WalkedWaysModel", "loses", "(I)V"⟩, 34), (⟨"WalkedWaysModel", "onIt", "(IZ)I"⟩, 34), (⟨"WalkedWaysModel", "fadeRow", "(III)I"⟩, 34), (⟨"WalkedWaysModel", "shareOut", "(IIJI)V"⟩, 34), (⟨"WalkedWaysModel", "lift", "(II)V"⟩, 34), (⟨"WalkedWaysModel", "lowest", "(II)I"⟩, 34), (⟨"WalkedWaysModel", "greatest", "(II)I"⟩, 34), (⟨"WalkedWaysModel", "raiseBy", "(IIII)V"⟩, 34), (⟨"WalkedWaysModel", "goesOn", "(II)Z"⟩, 34), (⟨"WalkedWaysModel", "pick", "(II)I"⟩, 34), (⟨"WalkedWaysModel", "placeIn", "(II)I"⟩, 34), (⟨"WalkedWaysModel", "mayPick", "(IIIZ)Z"⟩, 34), (⟨"WalkedWaysModel", "weight", "(III)I"⟩, 34), (⟨"WalkedWaysModel", "draw", "(I)I"⟩, 34), (⟨"WalkedWaysModel", "comesBack", "(I)Z"⟩, 34), (⟨"WalkedWaysModel", "note", "(II)V"⟩, 34)]
theorem lw_r3 : ∀ q ∈ lw_privs_3, lw_okq q := List.forall_mem_cons.mpr ⟨lw_p32, List.forall_mem_cons.mpr ⟨lw_p33, List.forall_mem_cons.mpr ⟨lw_p34, List.forall_mem_cons.mpr ⟨lw_p35, List.forall_mem_cons.mpr ⟨lw_p36, List.forall_mem_cons.mpr ⟨lw_p37, List.forall_mem_cons.mpr ⟨lw_p38, List.forall_mem_cons.mpr ⟨lw_p39, List.forall_mem_cons.mpr ⟨lw_p40, List.forall_mem_cons.mpr ⟨lw_p41, List.forall_mem_cons.mpr ⟨lw_p42, List.forall_mem_cons.mpr ⟨lw_p43, List.forall_mem_cons.mpr ⟨lw_p44, List.forall_mem_cons.mpr ⟨lw_p45, List.forall_mem_cons.mpr ⟨lw_p46, List.forall_mem_cons.mpr ⟨lw_p47, fun _ h => absurd h List.not_mem_nil⟩⟩⟩⟩⟩⟩⟩⟩⟩⟩⟩⟩⟩⟩⟩⟩
theorem lw_p48 : lw_okq (⟨"WalkedWaysModel", "bestNote", "(I)I"⟩, 34) := ⟨⟨by decide +kernel, by decide +kernel⟩, List.mem_of_getElem? (i := 583) (by decide +kernel), List.mem_of_getElem? (i := 853) (by decide +kernel), List.mem_of_getElem? (i := 854) (by decide +kernel)⟩
theorem lw_p49 : lw_okq (⟨"WalkedWaysModel", "goesBack", "(I)V"⟩, 34) := ⟨⟨by decide +kernel, by decide +kernel⟩, List.mem_of_getElem? (i := 583) (by decide +kernel), List.mem_of_getElem? (i := 857) (by decide +kernel), List.mem_of_getElem? (i := 858) (by decide +kernel)⟩
theorem lw_p50 : lw_okq (⟨"WalkedWaysModel", "comesOut", "(I)V"⟩, 34) := ⟨⟨by decide +kernel, by decide +kernel⟩, List.mem_of_getElem? (i := 583) (by decide +kernel), List.mem_of_getElem? (i := 861) (by decide +kernel), List.mem_of_getElem? (i := 862) (by decide +kernel)⟩
theorem lw_p51 : lw_okq (⟨"WalkedWaysModel", "remembers", "(II)V"⟩, 34) := ⟨⟨by decide +kernel, by decide +kernel⟩, List.mem_of_getElem? (i := 583) (by decide +kernel), List.mem_of_getElem? (i := 865) (by decide +kernel), List.mem_of_getElem? (i := 866) (by decide +kernel)⟩
theorem lw_p52 : lw_okq (⟨"WalkedWaysModel", "isOne", "(I)Z"⟩, 34) := ⟨⟨by decide +kernel, by decide +kernel⟩, List.mem_of_getElem? (i := 583) (by decide +kernel), List.mem_of_getElem? (i := 873) (by decide +kernel), List.mem_of_getElem? (i := 874) (by decide +kernel)⟩
theorem lw_p53 : lw_okq (⟨"WalkedWaysModel", "findLearnt", "(II)I"⟩, 34) := ⟨⟨by decide +kernel, by decide +kernel⟩, List.mem_of_getElem? (i := 583) (by decide +kernel), List.mem_of_getElem? (i := 889) (by decide +kernel), List.mem_of_getElem? (i := 890) (by decide +kernel)⟩
theorem lw_p54 : lw_okq (⟨"WalkedWaysModel", "findFar", "()V"⟩, 34) := ⟨⟨by decide +kernel, by decide +kernel⟩, List.mem_of_getElem? (i := 583) (by decide +kernel), List.mem_of_getElem? (i := 897) (by decide +kernel), List.mem_of_getElem? (i := 898) (by decide +kernel)⟩
theorem lw_p55 : lw_okq (⟨"WalkedWaysModel", "manyWalkers", "(Z)I"⟩, 34) := ⟨⟨by decide +kernel, by decide +kernel⟩, List.mem_of_getElem? (i := 583) (by decide +kernel), List.mem_of_getElem? (i := 910) (by decide +kernel), List.mem_of_getElem? (i := 911) (by decide +kernel)⟩
def lw_privs_4 : List (MethodName × Nat) := [(⟨"WalkedWaysModel", "bestNote", "(I)I"⟩, 34), (⟨"WalkedWaysModel", "goesBack", "(I)V"⟩, 34), (⟨"WalkedWaysModel", "comesOut", "(I)V"⟩, 34), (⟨"WalkedWaysModel", "remembers", "(II)V"⟩, 34), (⟨"WalkedWaysModel", "isOne", "(I)Z"⟩, 34), (⟨"WalkedWaysModel", "findLearnt", "(II)I"⟩, 34), (⟨"WalkedWaysModel", "findFar", "()V"⟩, 34), (⟨"WalkedWaysModel", "manyWalkers", "(Z)I"⟩, 34)]
theorem lw_r4 : ∀ q ∈ lw_privs_4, lw_okq q := List.forall_mem_cons.mpr ⟨lw_p48, List.forall_mem_cons.mpr ⟨lw_p49, List.forall_mem_cons.mpr ⟨lw_p50, List.forall_mem_cons.mpr ⟨lw_p51, List.forall_mem_cons.mpr ⟨lw_p52, List.forall_mem_cons.mpr ⟨lw_p53, List.forall_mem_cons.mpr ⟨lw_p54, List.forall_mem_cons.mpr ⟨lw_p55, fun _ h => absurd h List.not_mem_nil⟩⟩⟩⟩⟩⟩⟩⟩
def lw_privs : List (MethodName × Nat) := lw_privs_1 ++ (lw_privs_2 ++ (lw_privs_3 ++ (lw_privs_4)))
def lw_tbl : List Cond := k2_sels lw_privs ++ tables_1
theorem lw_privs_ok : ∀ q ∈ lw_privs, lw_okq q := by
  show ∀ q ∈ lw_privs_1 ++ (lw_privs_2 ++ (lw_privs_3 ++ (lw_privs_4))), lw_okq q
  exact List.forall_mem_append.mpr ⟨lw_r1, List.forall_mem_append.mpr ⟨lw_r2, List.forall_mem_append.mpr ⟨lw_r3, lw_r4⟩⟩⟩
def RX0 : String := "WalkedWays$Dice"
def TX0 : u_T := fun k => match k with
  | 0 => ("WalkedWays$Dice", "state", "I", false)
  | _ => ("WalkedWays$Dice", "draws", "I", false)
def tyX0 : Nat → FieldType := fun k => match k with
  | 0 => .int
  | _ => .int
theorem nmX0 : ∀ a, a < 2 → ∀ b, b < 2 → a ≠ b → (TX0 a).2.1 ≠ (TX0 b).2.1 := by decide +kernel
theorem tyX0_ok : ∀ k, k < 2 → parseFieldDescriptor (TX0 k).2.2.1 = some (tyX0 k) := by decide +kernel
abbrev cX0_init : ByteArray := prog_2_method_1_code
def yX0_init : MethodName := ⟨RX0, "<init>", "()V"⟩
abbrev cX0_draw : ByteArray := prog_2_method_2_code
def yX0_draw : MethodName := ⟨RX0, "draw", "(I)I"⟩
def RX1 : String := "WalkedWays$Eager"
def TX1 : u_T := fun k => match k with
  | _ => ("", "", "", false)
def tyX1 : Nat → FieldType := fun k => match k with
  | _ => .int
theorem nmX1 : ∀ a, a < 0 → ∀ b, b < 0 → a ≠ b → (TX1 a).2.1 ≠ (TX1 b).2.1 := by decide +kernel
theorem tyX1_ok : ∀ k, k < 0 → parseFieldDescriptor (TX1 k).2.2.1 = some (tyX1 k) := by decide +kernel
abbrev cX1_init : ByteArray := prog_3_method_1_code
def yX1_init : MethodName := ⟨RX1, "<init>", "()V"⟩
abbrev cX1_reward : ByteArray := prog_3_method_2_code
def yX1_reward : MethodName := ⟨RX1, "reward", "(III)I"⟩
def RX2 : String := "WalkedWays$Heedful"
def TX2 : u_T := fun k => match k with
  | _ => ("", "", "", false)
def tyX2 : Nat → FieldType := fun k => match k with
  | _ => .int
theorem nmX2 : ∀ a, a < 0 → ∀ b, b < 0 → a ≠ b → (TX2 a).2.1 ≠ (TX2 b).2.1 := by decide +kernel
theorem tyX2_ok : ∀ k, k < 0 → parseFieldDescriptor (TX2 k).2.2.1 = some (tyX2 k) := by decide +kernel
abbrev cX2_init : ByteArray := prog_4_method_1_code
def yX2_init : MethodName := ⟨RX2, "<init>", "()V"⟩
abbrev cX2_weight : ByteArray := prog_4_method_2_code
def yX2_weight : MethodName := ⟨RX2, "weight", "(II)I"⟩
def RX3 : String := "WalkedWays$Net"
def TX3 : u_T := fun k => match k with
  | 0 => ("WalkedWays$Net", "lesser", "[I", true)
  | 1 => ("WalkedWays$Net", "greater", "[I", true)
  | 2 => ("WalkedWays$Net", "delays", "[I", true)
  | 3 => ("WalkedWays$Net", "near", "[I", true)
  | 4 => ("WalkedWays$Net", "far", "[I", true)
  | _ => ("WalkedWays$Net", "count", "I", false)
def tyX3 : Nat → FieldType := fun k => match k with
  | 0 => .array .int
  | 1 => .array .int
  | 2 => .array .int
  | 3 => .array .int
  | 4 => .array .int
  | _ => .int
theorem nmX3 : ∀ a, a < 6 → ∀ b, b < 6 → a ≠ b → (TX3 a).2.1 ≠ (TX3 b).2.1 := by decide +kernel
theorem tyX3_ok : ∀ k, k < 6 → parseFieldDescriptor (TX3 k).2.2.1 = some (tyX3 k) := by decide +kernel
abbrev cX3_init : ByteArray := prog_5_method_1_code
def yX3_init : MethodName := ⟨RX3, "<init>", "()V"⟩
abbrev cX3_has : ByteArray := prog_5_method_2_code
def yX3_has : MethodName := ⟨RX3, "has", "(I)Z"⟩
abbrev cX3_freeNumber : ByteArray := prog_5_method_3_code
def yX3_freeNumber : MethodName := ⟨RX3, "freeNumber", "()I"⟩
abbrev cX3_between : ByteArray := prog_5_method_4_code
def yX3_between : MethodName := ⟨RX3, "between", "(II)I"⟩
abbrev cX3_delayBetween : ByteArray := prog_5_method_5_code
def yX3_delayBetween : MethodName := ⟨RX3, "delayBetween", "(II)I"⟩
abbrev cX3_join : ByteArray := prog_5_method_6_code
def yX3_join : MethodName := ⟨RX3, "join", "(IIII)V"⟩
abbrev cX3_part : ByteArray := prog_5_method_7_code
def yX3_part : MethodName := ⟨RX3, "part", "(I)V"⟩
abbrev cX3_measureTo : ByteArray := prog_5_method_8_code
def yX3_measureTo : MethodName := ⟨RX3, "measureTo", "(I)V"⟩
abbrev cX3_reach : ByteArray := prog_5_method_9_code
def yX3_reach : MethodName := ⟨RX3, "reach", "(III)V"⟩
abbrev cX3_isOnShortest : ByteArray := prog_5_method_10_code
def yX3_isOnShortest : MethodName := ⟨RX3, "isOnShortest", "(II)Z"⟩
def RX4 : String := "WalkedWays$Plain"
def TX4 : u_T := fun k => match k with
  | _ => ("", "", "", false)
def tyX4 : Nat → FieldType := fun k => match k with
  | _ => .int
theorem nmX4 : ∀ a, a < 0 → ∀ b, b < 0 → a ≠ b → (TX4 a).2.1 ≠ (TX4 b).2.1 := by decide +kernel
theorem tyX4_ok : ∀ k, k < 0 → parseFieldDescriptor (TX4 k).2.2.1 = some (tyX4 k) := by decide +kernel
abbrev cX4_init : ByteArray := prog_6_method_1_code
def yX4_init : MethodName := ⟨RX4, "<init>", "()V"⟩
abbrev cX4_weight : ByteArray := prog_6_method_2_code
def yX4_weight : MethodName := ⟨RX4, "weight", "(II)I"⟩
abbrev cX4_reward : ByteArray := prog_6_method_3_code
def yX4_reward : MethodName := ⟨RX4, "reward", "(III)I"⟩
def RX5 : String := "WalkedWays$Row"
def TX5 : u_T := fun k => match k with
  | 0 => ("WalkedWays$Row", "shares", "[I", true)
  | 1 => ("WalkedWays$Row", "notes", "[I", true)
  | 2 => ("WalkedWays$Row", "near", "I", false)
  | 3 => ("WalkedWays$Row", "kept", "I", false)
  | _ => ("WalkedWays$Row", "nextNote", "I", false)
def tyX5 : Nat → FieldType := fun k => match k with
  | 0 => .array .int
  | 1 => .array .int
  | 2 => .int
  | 3 => .int
  | _ => .int
theorem nmX5 : ∀ a, a < 5 → ∀ b, b < 5 → a ≠ b → (TX5 a).2.1 ≠ (TX5 b).2.1 := by decide +kernel
theorem tyX5_ok : ∀ k, k < 5 → parseFieldDescriptor (TX5 k).2.2.1 = some (tyX5 k) := by decide +kernel
abbrev cX5_init : ByteArray := prog_7_method_1_code
def yX5_init : MethodName := ⟨RX5, "<init>", "()V"⟩
abbrev cX5_startAnew : ByteArray := prog_7_method_2_code
def yX5_startAnew : MethodName := ⟨RX5, "startAnew", "(I)V"⟩
abbrev cX5_becomeEven : ByteArray := prog_7_method_3_code
def yX5_becomeEven : MethodName := ⟨RX5, "becomeEven", "()V"⟩
abbrev cX5_greatest : ByteArray := prog_7_method_4_code
def yX5_greatest : MethodName := ⟨RX5, "greatest", "()I"⟩
abbrev cX5_leastBelow : ByteArray := prog_7_method_5_code
def yX5_leastBelow : MethodName := ⟨RX5, "leastBelow", "(I)I"⟩
abbrev cX5_lift : ByteArray := prog_7_method_6_code
def yX5_lift : MethodName := ⟨RX5, "lift", "(I)V"⟩
abbrev cX5_raiseBy : ByteArray := prog_7_method_7_code
def yX5_raiseBy : MethodName := ⟨RX5, "raiseBy", "(IIILWalkedWays$Sharing;)V"⟩
abbrev cX5_fadeBy : ByteArray := prog_7_method_8_code
def yX5_fadeBy : MethodName := ⟨RX5, "fadeBy", "(IILWalkedWays$Sharing;)I"⟩
abbrev cX5_note : ByteArray := prog_7_method_9_code
def yX5_note : MethodName := ⟨RX5, "note", "(I)V"⟩
abbrev cX5_bestNote : ByteArray := prog_7_method_10_code
def yX5_bestNote : MethodName := ⟨RX5, "bestNote", "()I"⟩
abbrev cX5_lastNote : ByteArray := prog_7_method_11_code
def yX5_lastNote : MethodName := ⟨RX5, "lastNote", "()I"⟩
abbrev cX5_sumOfNotes : ByteArray := prog_7_method_12_code
def yX5_sumOfNotes : MethodName := ⟨RX5, "sumOfNotes", "()I"⟩
def RX6 : String := "WalkedWays$Sharing"
def TX6 : u_T := fun k => match k with
  | 0 => ("WalkedWays$Sharing", "values", "[J", true)
  | 1 => ("WalkedWays$Sharing", "before", "[I", true)
  | _ => ("WalkedWays$Sharing", "rests", "[J", true)
def tyX6 : Nat → FieldType := fun k => match k with
  | 0 => .array .long
  | 1 => .array .int
  | _ => .array .long
theorem nmX6 : ∀ a, a < 3 → ∀ b, b < 3 → a ≠ b → (TX6 a).2.1 ≠ (TX6 b).2.1 := by decide +kernel
theorem tyX6_ok : ∀ k, k < 3 → parseFieldDescriptor (TX6 k).2.2.1 = some (tyX6 k) := by decide +kernel
abbrev cX6_init : ByteArray := prog_8_method_1_code
def yX6_init : MethodName := ⟨RX6, "<init>", "()V"⟩
abbrev cX6_evenOut : ByteArray := prog_8_method_2_code
def yX6_evenOut : MethodName := ⟨RX6, "evenOut", "(II[I)V"⟩
abbrev cX6_shareOut : ByteArray := prog_8_method_3_code
def yX6_shareOut : MethodName := ⟨RX6, "shareOut", "(II[I)V"⟩
abbrev cX6_sumOfValues : ByteArray := prog_8_method_4_code
def yX6_sumOfValues : MethodName := ⟨RX6, "sumOfValues", "(I)J"⟩
abbrev cX6_giveOne : ByteArray := prog_8_method_5_code
def yX6_giveOne : MethodName := ⟨RX6, "giveOne", "(I[I)V"⟩
def RX7 : String := "WalkedWays$Walker"
def TX7 : u_T := fun k => match k with
  | 0 => ("WalkedWays$Walker", "nodes", "[I", true)
  | 1 => ("WalkedWays$Walker", "times", "[I", true)
  | 2 => ("WalkedWays$Walker", "remembered", "I", false)
  | 3 => ("WalkedWays$Walker", "walks", "Z", false)
  | 4 => ("WalkedWays$Walker", "isBack", "Z", false)
  | 5 => ("WalkedWays$Walker", "kind", "I", false)
  | 6 => ("WalkedWays$Walker", "start", "I", false)
  | 7 => ("WalkedWays$Walker", "aim", "I", false)
  | 8 => ("WalkedWays$Walker", "onLink", "I", false)
  | 9 => ("WalkedWays$Walker", "to", "I", false)
  | 10 => ("WalkedWays$Walker", "due", "I", false)
  | 11 => ("WalkedWays$Walker", "begun", "I", false)
  | _ => ("WalkedWays$Walker", "place", "I", false)
def tyX7 : Nat → FieldType := fun k => match k with
  | 0 => .array .int
  | 1 => .array .int
  | 2 => .int
  | 3 => .boolean
  | 4 => .boolean
  | 5 => .int
  | 6 => .int
  | 7 => .int
  | 8 => .int
  | 9 => .int
  | 10 => .int
  | 11 => .int
  | _ => .int
theorem nmX7 : ∀ a, a < 13 → ∀ b, b < 13 → a ≠ b → (TX7 a).2.1 ≠ (TX7 b).2.1 := by decide +kernel
theorem tyX7_ok : ∀ k, k < 13 → parseFieldDescriptor (TX7 k).2.2.1 = some (tyX7 k) := by decide +kernel
abbrev cX7_init : ByteArray := prog_9_method_1_code
def yX7_init : MethodName := ⟨RX7, "<init>", "()V"⟩
abbrev cX7_setOut : ByteArray := prog_9_method_2_code
def yX7_setOut : MethodName := ⟨RX7, "setOut", "(IIII)V"⟩
abbrev cX7_remember : ByteArray := prog_9_method_3_code
def yX7_remember : MethodName := ⟨RX7, "remember", "(II)V"⟩
abbrev cX7_rememberedSet : ByteArray := prog_9_method_4_code
def yX7_rememberedSet : MethodName := ⟨RX7, "rememberedSet", "()I"⟩
abbrev cX7_stop : ByteArray := prog_9_method_5_code
def yX7_stop : MethodName := ⟨RX7, "stop", "()V"⟩
abbrev cX7_turn : ByteArray := prog_9_method_6_code
def yX7_turn : MethodName := ⟨RX7, "turn", "()V"⟩
abbrev cX7_travel : ByteArray := prog_9_method_7_code
def yX7_travel : MethodName := ⟨RX7, "travel", "(III)V"⟩
def RX8 : String := "WalkedWays"
def TX8 : u_T := fun k => match k with
  | 0 => ("WalkedWays", "net", "LWalkedWays$Net;", true)
  | 1 => ("WalkedWays", "rows", "[LWalkedWays$Row;", true)
  | 2 => ("WalkedWays", "sharing", "LWalkedWays$Sharing;", true)
  | 3 => ("WalkedWays", "walkers", "[LWalkedWays$Walker;", true)
  | 4 => ("WalkedWays", "kinds", "[LWalkedWays$Plain;", true)
  | 5 => ("WalkedWays", "dice", "LWalkedWays$Dice;", true)
  | 6 => ("WalkedWays", "weights", "[I", true)
  | 7 => ("WalkedWays", "way", "[I", true)
  | 8 => ("WalkedWays", "lowestShare", "I", false)
  | 9 => ("WalkedWays", "rewardOfBest", "I", false)
  | 10 => ("WalkedWays", "time", "I", false)
  | 11 => ("WalkedWays", "doneSoFar", "I", false)
  | 12 => ("WalkedWays", "lostSoFar", "I", false)
  | _ => ("WalkedWays", "tripsSoFar", "I", false)
def tyX8 : Nat → FieldType := fun k => match k with
  | 0 => .object "WalkedWays$Net"
  | 1 => .array (.object "WalkedWays$Row")
  | 2 => .object "WalkedWays$Sharing"
  | 3 => .array (.object "WalkedWays$Walker")
  | 4 => .array (.object "WalkedWays$Plain")
  | 5 => .object "WalkedWays$Dice"
  | 6 => .array .int
  | 7 => .array .int
  | 8 => .int
  | 9 => .int
  | 10 => .int
  | 11 => .int
  | 12 => .int
  | _ => .int
theorem nmX8 : ∀ a, a < 14 → ∀ b, b < 14 → a ≠ b → (TX8 a).2.1 ≠ (TX8 b).2.1 := by decide +kernel
theorem tyX8_ok : ∀ k, k < 14 → parseFieldDescriptor (TX8 k).2.2.1 = some (tyX8 k) := by decide +kernel
abbrev cX8_init : ByteArray := prog_1_method_1_code
def yX8_init : MethodName := ⟨RX8, "<init>", "()V"⟩
abbrev cX8_link : ByteArray := prog_1_method_2_code
def yX8_link : MethodName := ⟨RX8, "link", "(III)I"⟩
abbrev cX8_cut : ByteArray := prog_1_method_3_code
def yX8_cut : MethodName := ⟨RX8, "cut", "(I)I"⟩
abbrev cX8_delay : ByteArray := prog_1_method_4_code
def yX8_delay : MethodName := ⟨RX8, "delay", "(II)I"⟩
abbrev cX8_ofLink : ByteArray := prog_1_method_5_code
def yX8_ofLink : MethodName := ⟨RX8, "ofLink", "(II)I"⟩
abbrev cX8_neighbours : ByteArray := prog_1_method_6_code
def yX8_neighbours : MethodName := ⟨RX8, "neighbours", "(I)I"⟩
abbrev cX8_share : ByteArray := prog_1_method_7_code
def yX8_share : MethodName := ⟨RX8, "share", "(III)I"⟩
abbrev cX8_floor : ByteArray := prog_1_method_8_code
def yX8_floor : MethodName := ⟨RX8, "floor", "(I)I"⟩
abbrev cX8_gain : ByteArray := prog_1_method_9_code
def yX8_gain : MethodName := ⟨RX8, "gain", "(I)I"⟩
abbrev cX8_fade : ByteArray := prog_1_method_10_code
def yX8_fade : MethodName := ⟨RX8, "fade", "(I)I"⟩
abbrev cX8_raise : ByteArray := prog_1_method_11_code
def yX8_raise : MethodName := ⟨RX8, "raise", "(IIII)I"⟩
abbrev cX8_even : ByteArray := prog_1_method_12_code
def yX8_even : MethodName := ⟨RX8, "even", "(II)I"⟩
abbrev cX8_seed : ByteArray := prog_1_method_13_code
def yX8_seed : MethodName := ⟨RX8, "seed", "(I)I"⟩
abbrev cX8_send : ByteArray := prog_1_method_14_code
def yX8_send : MethodName := ⟨RX8, "send", "(III)I"⟩
abbrev cX8_ticks : ByteArray := prog_1_method_15_code
def yX8_ticks : MethodName := ⟨RX8, "ticks", "(I)I"⟩
abbrev cX8_walker : ByteArray := prog_1_method_16_code
def yX8_walker : MethodName := ⟨RX8, "walker", "(II)I"⟩
abbrev cX8_memory : ByteArray := prog_1_method_17_code
def yX8_memory : MethodName := ⟨RX8, "memory", "(III)I"⟩
abbrev cX8_noted : ByteArray := prog_1_method_18_code
def yX8_noted : MethodName := ⟨RX8, "noted", "(III)I"⟩
abbrev cX8_learnt : ByteArray := prog_1_method_19_code
def yX8_learnt : MethodName := ⟨RX8, "learnt", "(III)I"⟩
abbrev cX8_shortest : ByteArray := prog_1_method_20_code
def yX8_shortest : MethodName := ⟨RX8, "shortest", "(II)I"⟩
abbrev cX8_right : ByteArray := prog_1_method_21_code
def yX8_right : MethodName := ⟨RX8, "right", "()I"⟩
abbrev cX8_many : ByteArray := prog_1_method_22_code
def yX8_many : MethodName := ⟨RX8, "many", "(I)I"⟩
abbrev cX8_isNode : ByteArray := prog_1_method_23_code
def yX8_isNode : MethodName := ⟨RX8, "isNode", "(I)Z"⟩
abbrev cX8_isDelay : ByteArray := prog_1_method_24_code
def yX8_isDelay : MethodName := ⟨RX8, "isDelay", "(I)Z"⟩
abbrev cX8_isOfWhole : ByteArray := prog_1_method_25_code
def yX8_isOfWhole : MethodName := ⟨RX8, "isOfWhole", "(I)Z"⟩
abbrev cX8_isWalker : ByteArray := prog_1_method_26_code
def yX8_isWalker : MethodName := ⟨RX8, "isWalker", "(I)Z"⟩
abbrev cX8_isIn : ByteArray := prog_1_method_27_code
def yX8_isIn : MethodName := ⟨RX8, "isIn", "(II)Z"⟩
abbrev cX8_rowOf : ByteArray := prog_1_method_28_code
def yX8_rowOf : MethodName := ⟨RX8, "rowOf", "(II)LWalkedWays$Row;"⟩
abbrev cX8_startRowsAnew : ByteArray := prog_1_method_29_code
def yX8_startRowsAnew : MethodName := ⟨RX8, "startRowsAnew", "(I)V"⟩
abbrev cX8_freeWalker : ByteArray := prog_1_method_30_code
def yX8_freeWalker : MethodName := ⟨RX8, "freeWalker", "()I"⟩
abbrev cX8_countWalkers : ByteArray := prog_1_method_31_code
def yX8_countWalkers : MethodName := ⟨RX8, "countWalkers", "(Z)I"⟩
abbrev cX8_countOn : ByteArray := prog_1_method_32_code
def yX8_countOn : MethodName := ⟨RX8, "countOn", "(IZ)I"⟩
abbrev cX8_loseAllOn : ByteArray := prog_1_method_33_code
def yX8_loseAllOn : MethodName := ⟨RX8, "loseAllOn", "(I)I"⟩
abbrev cX8_lose : ByteArray := prog_1_method_34_code
def yX8_lose : MethodName := ⟨RX8, "lose", "(LWalkedWays$Walker;)V"⟩
abbrev cX8_finish : ByteArray := prog_1_method_35_code
def yX8_finish : MethodName := ⟨RX8, "finish", "(LWalkedWays$Walker;I)V"⟩
abbrev cX8_passTick : ByteArray := prog_1_method_36_code
def yX8_passTick : MethodName := ⟨RX8, "passTick", "()V"⟩
abbrev cX8_comeOut : ByteArray := prog_1_method_37_code
def yX8_comeOut : MethodName := ⟨RX8, "comeOut", "(LWalkedWays$Walker;)V"⟩
abbrev cX8_goOn : ByteArray := prog_1_method_38_code
def yX8_goOn : MethodName := ⟨RX8, "goOn", "(LWalkedWays$Walker;I)V"⟩
abbrev cX8_pick : ByteArray := prog_1_method_39_code
def yX8_pick : MethodName := ⟨RX8, "pick", "(LWalkedWays$Walker;I)I"⟩
abbrev cX8_weigh : ByteArray := prog_1_method_40_code
def yX8_weigh : MethodName := ⟨RX8, "weigh", "(LWalkedWays$Walker;II)I"⟩
abbrev cX8_stepBack : ByteArray := prog_1_method_41_code
def yX8_stepBack : MethodName := ⟨RX8, "stepBack", "(LWalkedWays$Walker;)V"⟩
abbrev cX8_comeBack : ByteArray := prog_1_method_42_code
def yX8_comeBack : MethodName := ⟨RX8, "comeBack", "(LWalkedWays$Walker;)V"⟩
abbrev cX8_followLearnt : ByteArray := prog_1_method_43_code
def yX8_followLearnt : MethodName := ⟨RX8, "followLearnt", "(II)I"⟩
abbrev cX8_delaysOfWay : ByteArray := prog_1_method_44_code
def yX8_delaysOfWay : MethodName := ⟨RX8, "delaysOfWay", "(I)I"⟩
abbrev cX8_setOfWay : ByteArray := prog_1_method_45_code
def yX8_setOfWay : MethodName := ⟨RX8, "setOfWay", "(I)I"⟩
abbrev cX8_nodeOfWay : ByteArray := prog_1_method_46_code
def yX8_nodeOfWay : MethodName := ⟨RX8, "nodeOfWay", "(II)I"⟩
def RX9 : String := "WalkedWaysModel"
def TX9 : u_T := fun k => match k with
  | 0 => ("WalkedWaysModel", "isLink", "[Z", true)
  | 1 => ("WalkedWaysModel", "nodeA", "[I", true)
  | 2 => ("WalkedWaysModel", "nodeB", "[I", true)
  | 3 => ("WalkedWaysModel", "delayOf", "[I", true)
  | 4 => ("WalkedWaysModel", "linkOf", "[I", true)
  | 5 => ("WalkedWaysModel", "shares", "[I", true)
  | 6 => ("WalkedWaysModel", "floor", "I", false)
  | 7 => ("WalkedWaysModel", "gain", "I", false)
  | 8 => ("WalkedWaysModel", "parts", "[J", true)
  | 9 => ("WalkedWaysModel", "rests", "[J", true)
  | 10 => ("WalkedWaysModel", "were", "[I", true)
  | 11 => ("WalkedWaysModel", "seed", "I", false)
  | 12 => ("WalkedWaysModel", "time", "I", false)
  | 13 => ("WalkedWaysModel", "draws", "I", false)
  | 14 => ("WalkedWaysModel", "done", "I", false)
  | 15 => ("WalkedWaysModel", "lost", "I", false)
  | 16 => ("WalkedWaysModel", "trips", "I", false)
  | 17 => ("WalkedWaysModel", "isWalker", "[Z", true)
  | 18 => ("WalkedWaysModel", "kindOf", "[I", true)
  | 19 => ("WalkedWaysModel", "startOf", "[I", true)
  | 20 => ("WalkedWaysModel", "aimOf", "[I", true)
  | 21 => ("WalkedWaysModel", "isBack", "[Z", true)
  | 22 => ("WalkedWaysModel", "onLink", "[I", true)
  | 23 => ("WalkedWaysModel", "toNode", "[I", true)
  | 24 => ("WalkedWaysModel", "comesAt", "[I", true)
  | 25 => ("WalkedWaysModel", "begun", "[I", true)
  | 26 => ("WalkedWaysModel", "memoryMany", "[I", true)
  | 27 => ("WalkedWaysModel", "memoryNode", "[I", true)
  | 28 => ("WalkedWaysModel", "memoryTime", "[I", true)
  | 29 => ("WalkedWaysModel", "backAt", "[I", true)
  | 30 => ("WalkedWaysModel", "noteMany", "[I", true)
  | 31 => ("WalkedWaysModel", "notes", "[I", true)
  | 32 => ("WalkedWaysModel", "way", "[I", true)
  | _ => ("WalkedWaysModel", "far", "[I", true)
def tyX9 : Nat → FieldType := fun k => match k with
  | 0 => .array .boolean
  | 1 => .array .int
  | 2 => .array .int
  | 3 => .array .int
  | 4 => .array .int
  | 5 => .array .int
  | 6 => .int
  | 7 => .int
  | 8 => .array .long
  | 9 => .array .long
  | 10 => .array .int
  | 11 => .int
  | 12 => .int
  | 13 => .int
  | 14 => .int
  | 15 => .int
  | 16 => .int
  | 17 => .array .boolean
  | 18 => .array .int
  | 19 => .array .int
  | 20 => .array .int
  | 21 => .array .boolean
  | 22 => .array .int
  | 23 => .array .int
  | 24 => .array .int
  | 25 => .array .int
  | 26 => .array .int
  | 27 => .array .int
  | 28 => .array .int
  | 29 => .array .int
  | 30 => .array .int
  | 31 => .array .int
  | 32 => .array .int
  | _ => .array .int
theorem nmX9 : ∀ a, a < 34 → ∀ b, b < 34 → a ≠ b → (TX9 a).2.1 ≠ (TX9 b).2.1 := by decide +kernel
theorem tyX9_ok : ∀ k, k < 34 → parseFieldDescriptor (TX9 k).2.2.1 = some (tyX9 k) := by decide +kernel
abbrev cX9_init : ByteArray := prog_11_method_1_code
def yX9_init : MethodName := ⟨RX9, "<init>", "()V"⟩
abbrev cX9_within : ByteArray := prog_11_method_2_code
def yX9_within : MethodName := ⟨RX9, "within", "(III)Z"⟩
abbrev cX9_isNode : ByteArray := prog_11_method_3_code
def yX9_isNode : MethodName := ⟨RX9, "isNode", "(I)Z"⟩
abbrev cX9_isNext : ByteArray := prog_11_method_4_code
def yX9_isNext : MethodName := ⟨RX9, "isNext", "(II)Z"⟩
abbrev cX9_manyNext : ByteArray := prog_11_method_5_code
def yX9_manyNext : MethodName := ⟨RX9, "manyNext", "(I)I"⟩
abbrev cX9_rowOf : ByteArray := prog_11_method_6_code
def yX9_rowOf : MethodName := ⟨RX9, "rowOf", "(II)I"⟩
abbrev cX9_spreadEven : ByteArray := prog_11_method_7_code
def yX9_spreadEven : MethodName := ⟨RX9, "spreadEven", "(IIII)V"⟩
abbrev cX9_makeEven : ByteArray := prog_11_method_8_code
def yX9_makeEven : MethodName := ⟨RX9, "makeEven", "(II)V"⟩
abbrev cX9_forgets : ByteArray := prog_11_method_9_code
def yX9_forgets : MethodName := ⟨RX9, "forgets", "(I)V"⟩
abbrev cX9_freeLink : ByteArray := prog_11_method_10_code
def yX9_freeLink : MethodName := ⟨RX9, "freeLink", "()I"⟩
abbrev cX9_link : ByteArray := prog_11_method_11_code
def yX9_link : MethodName := ⟨RX9, "link", "(III)I"⟩
abbrev cX9_isThere : ByteArray := prog_11_method_12_code
def yX9_isThere : MethodName := ⟨RX9, "isThere", "(I)Z"⟩
abbrev cX9_cut : ByteArray := prog_11_method_13_code
def yX9_cut : MethodName := ⟨RX9, "cut", "(I)I"⟩
abbrev cX9_delay : ByteArray := prog_11_method_14_code
def yX9_delay : MethodName := ⟨RX9, "delay", "(II)I"⟩
abbrev cX9_onIt : ByteArray := prog_11_method_15_code
def yX9_onIt : MethodName := ⟨RX9, "onIt", "(IZ)I"⟩
abbrev cX9_ofLink : ByteArray := prog_11_method_16_code
def yX9_ofLink : MethodName := ⟨RX9, "ofLink", "(II)I"⟩
abbrev cX9_neighbours : ByteArray := prog_11_method_17_code
def yX9_neighbours : MethodName := ⟨RX9, "neighbours", "(I)I"⟩
abbrev cX9_share : ByteArray := prog_11_method_18_code
def yX9_share : MethodName := ⟨RX9, "share", "(III)I"⟩
abbrev cX9_floor : ByteArray := prog_11_method_19_code
def yX9_floor : MethodName := ⟨RX9, "floor", "(I)I"⟩
abbrev cX9_gain : ByteArray := prog_11_method_20_code
def yX9_gain : MethodName := ⟨RX9, "gain", "(I)I"⟩
abbrev cX9_shareOut : ByteArray := prog_11_method_21_code
def yX9_shareOut : MethodName := ⟨RX9, "shareOut", "(IIJI)V"⟩
abbrev cX9_greatest : ByteArray := prog_11_method_22_code
def yX9_greatest : MethodName := ⟨RX9, "greatest", "(II)I"⟩
abbrev cX9_lowest : ByteArray := prog_11_method_23_code
def yX9_lowest : MethodName := ⟨RX9, "lowest", "(II)I"⟩
abbrev cX9_lift : ByteArray := prog_11_method_24_code
def yX9_lift : MethodName := ⟨RX9, "lift", "(II)V"⟩
abbrev cX9_raiseBy : ByteArray := prog_11_method_25_code
def yX9_raiseBy : MethodName := ⟨RX9, "raiseBy", "(IIII)V"⟩
abbrev cX9_fade : ByteArray := prog_11_method_26_code
def yX9_fade : MethodName := ⟨RX9, "fade", "(I)I"⟩
abbrev cX9_fadeRow : ByteArray := prog_11_method_27_code
def yX9_fadeRow : MethodName := ⟨RX9, "fadeRow", "(III)I"⟩
abbrev cX9_raise : ByteArray := prog_11_method_28_code
def yX9_raise : MethodName := ⟨RX9, "raise", "(IIII)I"⟩
abbrev cX9_even : ByteArray := prog_11_method_29_code
def yX9_even : MethodName := ⟨RX9, "even", "(II)I"⟩
abbrev cX9_seed : ByteArray := prog_11_method_30_code
def yX9_seed : MethodName := ⟨RX9, "seed", "(I)I"⟩
abbrev cX9_draw : ByteArray := prog_11_method_31_code
def yX9_draw : MethodName := ⟨RX9, "draw", "(I)I"⟩
abbrev cX9_loses : ByteArray := prog_11_method_32_code
def yX9_loses : MethodName := ⟨RX9, "loses", "(I)V"⟩
abbrev cX9_placeIn : ByteArray := prog_11_method_33_code
def yX9_placeIn : MethodName := ⟨RX9, "placeIn", "(II)I"⟩
abbrev cX9_weight : ByteArray := prog_11_method_34_code
def yX9_weight : MethodName := ⟨RX9, "weight", "(III)I"⟩
abbrev cX9_mayPick : ByteArray := prog_11_method_35_code
def yX9_mayPick : MethodName := ⟨RX9, "mayPick", "(IIIZ)Z"⟩
abbrev cX9_pick : ByteArray := prog_11_method_36_code
def yX9_pick : MethodName := ⟨RX9, "pick", "(II)I"⟩
abbrev cX9_goesOn : ByteArray := prog_11_method_37_code
def yX9_goesOn : MethodName := ⟨RX9, "goesOn", "(II)Z"⟩
abbrev cX9_send : ByteArray := prog_11_method_38_code
def yX9_send : MethodName := ⟨RX9, "send", "(III)I"⟩
abbrev cX9_remembers : ByteArray := prog_11_method_39_code
def yX9_remembers : MethodName := ⟨RX9, "remembers", "(II)V"⟩
abbrev cX9_goesBack : ByteArray := prog_11_method_40_code
def yX9_goesBack : MethodName := ⟨RX9, "goesBack", "(I)V"⟩
abbrev cX9_note : ByteArray := prog_11_method_41_code
def yX9_note : MethodName := ⟨RX9, "note", "(II)V"⟩
abbrev cX9_bestNote : ByteArray := prog_11_method_42_code
def yX9_bestNote : MethodName := ⟨RX9, "bestNote", "(I)I"⟩
abbrev cX9_comesBack : ByteArray := prog_11_method_43_code
def yX9_comesBack : MethodName := ⟨RX9, "comesBack", "(I)Z"⟩
abbrev cX9_comesOut : ByteArray := prog_11_method_44_code
def yX9_comesOut : MethodName := ⟨RX9, "comesOut", "(I)V"⟩
abbrev cX9_ticks : ByteArray := prog_11_method_45_code
def yX9_ticks : MethodName := ⟨RX9, "ticks", "(I)I"⟩
abbrev cX9_isOne : ByteArray := prog_11_method_46_code
def yX9_isOne : MethodName := ⟨RX9, "isOne", "(I)Z"⟩
abbrev cX9_walker : ByteArray := prog_11_method_47_code
def yX9_walker : MethodName := ⟨RX9, "walker", "(II)I"⟩
abbrev cX9_memory : ByteArray := prog_11_method_48_code
def yX9_memory : MethodName := ⟨RX9, "memory", "(III)I"⟩
abbrev cX9_noted : ByteArray := prog_11_method_49_code
def yX9_noted : MethodName := ⟨RX9, "noted", "(III)I"⟩
abbrev cX9_findLearnt : ByteArray := prog_11_method_50_code
def yX9_findLearnt : MethodName := ⟨RX9, "findLearnt", "(II)I"⟩
abbrev cX9_learnt : ByteArray := prog_11_method_51_code
def yX9_learnt : MethodName := ⟨RX9, "learnt", "(III)I"⟩
abbrev cX9_findFar : ByteArray := prog_11_method_52_code
def yX9_findFar : MethodName := ⟨RX9, "findFar", "()V"⟩
abbrev cX9_shortest : ByteArray := prog_11_method_53_code
def yX9_shortest : MethodName := ⟨RX9, "shortest", "(II)I"⟩
abbrev cX9_right : ByteArray := prog_11_method_54_code
def yX9_right : MethodName := ⟨RX9, "right", "()I"⟩
abbrev cX9_manyWalkers : ByteArray := prog_11_method_55_code
def yX9_manyWalkers : MethodName := ⟨RX9, "manyWalkers", "(Z)I"⟩
abbrev cX9_many : ByteArray := prog_11_method_56_code
def yX9_many : MethodName := ⟨RX9, "many", "(I)I"⟩
def RJ6 : String := "java/lang/Integer"
abbrev cJ6_bitCount_0f7a4 : ByteArray := prog_12_method_49_code
def yJ6_bitCount_0f7a4 : MethodName := ⟨RJ6, "bitCount", "(I)I"⟩
def RJ9 : String := "java/lang/Math"
abbrev cJ9_max_7cf53 : ByteArray := prog_13_method_65_code
def yJ9_max_7cf53 : MethodName := ⟨RJ9, "max", "(II)I"⟩
abbrev cJ9_min_7cf53 : ByteArray := prog_13_method_69_code
def yJ9_min_7cf53 : MethodName := ⟨RJ9, "min", "(II)I"⟩
def RL : String := "WalkedWaysLaw"
abbrev cL_law : ByteArray := code
def yL_law : MethodName := ⟨RL, "law", "([I)Z"⟩
abbrev vwCl : List vw_C := [(RX0, TX0, 2), (RX1, TX1, 0), (RX2, TX2, 0), (RX3, TX3, 6), (RX4, TX4, 0), (RX5, TX5, 5), (RX6, TX6, 3), (RX7, TX7, 13), (RX8, TX8, 14), (RX9, TX9, 34)]
