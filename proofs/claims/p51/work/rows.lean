section
-- ===== PART A: goes FIRST, ahead of the names: the tables' words, and 'selects' of the private methods out of them =====
/-- a private method of a class that the tables say can be made, by its rows of tables_1 -/
def lw_okq (q : MethodName × Nat) : Prop := (q.1.cls ≠ "java/lang/invoke/MethodHandle" ∧ q.1.cls ≠ "java/lang/invoke/VarHandle") ∧ Cond.instantiable q.1.cls q.2 ∈ tables_1 ∧ Cond.privateMethod q.1 ∈ tables_1 ∧ Cond.instanceMethod q.1 ∈ tables_1
theorem lw_p0 : lw_okq (⟨"SluiceChain", "existingBasin", "(I)LSluiceChain$Basin;"⟩, 12) := ⟨⟨by decide +kernel, by decide +kernel⟩, List.mem_of_getElem? (i := 35) (by decide +kernel), List.mem_of_getElem? (i := 271) (by decide +kernel), List.mem_of_getElem? (i := 272) (by decide +kernel)⟩
theorem lw_p1 : lw_okq (⟨"SluiceChain$Chain", "hasBasin", "(I)Z"⟩, 8) := ⟨⟨by decide +kernel, by decide +kernel⟩, List.mem_of_getElem? (i := 43) (by decide +kernel), List.mem_of_getElem? (i := 275) (by decide +kernel), List.mem_of_getElem? (i := 276) (by decide +kernel)⟩
theorem lw_p2 : lw_okq (⟨"java/lang/Throwable", "fillInStackTrace", "(I)Ljava/lang/Throwable;"⟩, 6) := ⟨⟨by decide +kernel, by decide +kernel⟩, List.mem_of_getElem? (i := 320) (by decide +kernel), List.mem_of_getElem? (i := 318) (by decide +kernel), List.mem_of_getElem? (i := 319) (by decide +kernel)⟩
theorem lw_p3 : lw_okq (⟨"SluiceChain$Chain", "rankOf", "(I)I"⟩, 8) := ⟨⟨by decide +kernel, by decide +kernel⟩, List.mem_of_getElem? (i := 43) (by decide +kernel), List.mem_of_getElem? (i := 378) (by decide +kernel), List.mem_of_getElem? (i := 379) (by decide +kernel)⟩
theorem lw_p4 : lw_okq (⟨"SluiceChain$Chain", "isRankedBefore", "(II)Z"⟩, 8) := ⟨⟨by decide +kernel, by decide +kernel⟩, List.mem_of_getElem? (i := 43) (by decide +kernel), List.mem_of_getElem? (i := 382) (by decide +kernel), List.mem_of_getElem? (i := 383) (by decide +kernel)⟩
theorem lw_p5 : lw_okq (⟨"SluiceChain$Chain", "sumOfLevels", "()I"⟩, 8) := ⟨⟨by decide +kernel, by decide +kernel⟩, List.mem_of_getElem? (i := 43) (by decide +kernel), List.mem_of_getElem? (i := 419) (by decide +kernel), List.mem_of_getElem? (i := 420) (by decide +kernel)⟩
theorem lw_p6 : lw_okq (⟨"SluiceChain$Chain", "balanceOfAccounts", "()I"⟩, 8) := ⟨⟨by decide +kernel, by decide +kernel⟩, List.mem_of_getElem? (i := 43) (by decide +kernel), List.mem_of_getElem? (i := 427) (by decide +kernel), List.mem_of_getElem? (i := 428) (by decide +kernel)⟩
theorem lw_p7 : lw_okq (⟨"SluiceChain$Chain", "sumOfFloodedSteps", "()I"⟩, 8) := ⟨⟨by decide +kernel, by decide +kernel⟩, List.mem_of_getElem? (i := 43) (by decide +kernel), List.mem_of_getElem? (i := 460) (by decide +kernel), List.mem_of_getElem? (i := 461) (by decide +kernel)⟩
theorem lw_p8 : lw_okq (⟨"SluiceChain$Chain", "faultOfPrediction", "(II)LSluiceChain$Fault;"⟩, 8) := ⟨⟨by decide +kernel, by decide +kernel⟩, List.mem_of_getElem? (i := 43) (by decide +kernel), List.mem_of_getElem? (i := 468) (by decide +kernel), List.mem_of_getElem? (i := 469) (by decide +kernel)⟩
theorem lw_p9 : lw_okq (⟨"SluiceChain$Chain", "faultAtBasin", "(IIII)LSluiceChain$Fault;"⟩, 8) := ⟨⟨by decide +kernel, by decide +kernel⟩, List.mem_of_getElem? (i := 43) (by decide +kernel), List.mem_of_getElem? (i := 472) (by decide +kernel), List.mem_of_getElem? (i := 473) (by decide +kernel)⟩
theorem lw_p10 : lw_okq (⟨"SluiceChain", "lookAhead", "(I)V"⟩, 12) := ⟨⟨by decide +kernel, by decide +kernel⟩, List.mem_of_getElem? (i := 35) (by decide +kernel), List.mem_of_getElem? (i := 524) (by decide +kernel), List.mem_of_getElem? (i := 525) (by decide +kernel)⟩
theorem lw_p11 : lw_okq (⟨"SluiceChain$Chain", "copyFrom", "(LSluiceChain$Chain;)V"⟩, 8) := ⟨⟨by decide +kernel, by decide +kernel⟩, List.mem_of_getElem? (i := 43) (by decide +kernel), List.mem_of_getElem? (i := 528) (by decide +kernel), List.mem_of_getElem? (i := 529) (by decide +kernel)⟩
theorem lw_p12 : lw_okq (⟨"SluiceChain$Basin", "copyFrom", "(LSluiceChain$Basin;)V"⟩, 9) := ⟨⟨by decide +kernel, by decide +kernel⟩, List.mem_of_getElem? (i := 50) (by decide +kernel), List.mem_of_getElem? (i := 532) (by decide +kernel), List.mem_of_getElem? (i := 533) (by decide +kernel)⟩
theorem lw_p13 : lw_okq (⟨"SluiceChain$Chain", "passStep", "()I"⟩, 8) := ⟨⟨by decide +kernel, by decide +kernel⟩, List.mem_of_getElem? (i := 43) (by decide +kernel), List.mem_of_getElem? (i := 536) (by decide +kernel), List.mem_of_getElem? (i := 537) (by decide +kernel)⟩
theorem lw_p14 : lw_okq (⟨"SluiceChain$Chain", "takeRain", "()I"⟩, 8) := ⟨⟨by decide +kernel, by decide +kernel⟩, List.mem_of_getElem? (i := 43) (by decide +kernel), List.mem_of_getElem? (i := 540) (by decide +kernel), List.mem_of_getElem? (i := 541) (by decide +kernel)⟩
theorem lw_p15 : lw_okq (⟨"SluiceChain$Chain", "rainDown", "(I)V"⟩, 8) := ⟨⟨by decide +kernel, by decide +kernel⟩, List.mem_of_getElem? (i := 43) (by decide +kernel), List.mem_of_getElem? (i := 544) (by decide +kernel), List.mem_of_getElem? (i := 545) (by decide +kernel)⟩
def lw_privs_1 : List (MethodName × Nat) := [(⟨"SluiceChain", "existingBasin", "(I)LSluiceChain$Basin;"⟩, 12), (⟨"SluiceChain$Chain", "hasBasin", "(I)Z"⟩, 8), (⟨"java/lang/Throwable", "fillInStackTrace", "(I)Ljava/lang/Throwable;"⟩, 6), (⟨"SluiceChain$Chain", "rankOf", "(I)I"⟩, 8), (⟨"SluiceChain$Chain", "isRankedBefore", "(II)Z"⟩, 8), (⟨"SluiceChain$Chain", "sumOfLevels", "()I"⟩, 8), (⟨"SluiceChain$Chain", "balanceOfAccounts", "()I"⟩, 8), (⟨"SluiceChain$Chain", "sumOfFloodedSteps", "()I"⟩, 8), (⟨"SluiceChain$Chain", "faultOfPrediction", "(II)LSluiceChain$Fault;"⟩, 8), (⟨"SluiceChain$Chain", "faultAtBasin", "(IIII)LSluiceChain$Fault;"⟩, 8), (⟨"SluiceChain", "lookAhead", "(I)V"⟩, 12), (⟨"SluiceChain$Chain", "copyFrom", "(LSluiceChain$Chain;)V"⟩, 8), (⟨"SluiceChain$Basin", "copyFrom", "(LSluiceChain$Basin;)V"⟩, 9), (⟨"SluiceChain$Chain", "passStep", "()I"⟩, 8), (⟨"SluiceChain$Chain", "takeRain", "()I"⟩, 8), (⟨"SluiceChain$Chain", "rainDown", "(I)V"⟩, 8)]
theorem lw_r1 : ∀ q ∈ lw_privs_1, lw_okq q := List.forall_mem_cons.mpr ⟨lw_p0, List.forall_mem_cons.mpr ⟨lw_p1, List.forall_mem_cons.mpr ⟨lw_p2, List.forall_mem_cons.mpr ⟨lw_p3, List.forall_mem_cons.mpr ⟨lw_p4, List.forall_mem_cons.mpr ⟨lw_p5, List.forall_mem_cons.mpr ⟨lw_p6, List.forall_mem_cons.mpr ⟨lw_p7, List.forall_mem_cons.mpr ⟨lw_p8, List.forall_mem_cons.mpr ⟨lw_p9, List.forall_mem_cons.mpr ⟨lw_p10, List.forall_mem_cons.mpr ⟨lw_p11, List.forall_mem_cons.mpr ⟨lw_p12, List.forall_mem_cons.mpr ⟨lw_p13, List.forall_mem_cons.mpr ⟨lw_p14, List.forall_mem_cons.mpr ⟨lw_p15, fun _ h => absurd h List.not_mem_nil⟩⟩⟩⟩⟩⟩⟩⟩⟩⟩⟩⟩⟩⟩⟩⟩
theorem lw_p16 : lw_okq (⟨"SluiceChain$Chain", "flowDown", "()I"⟩, 8) := ⟨⟨by decide +kernel, by decide +kernel⟩, List.mem_of_getElem? (i := 43) (by decide +kernel), List.mem_of_getElem? (i := 548) (by decide +kernel), List.mem_of_getElem? (i := 549) (by decide +kernel)⟩
theorem lw_p17 : lw_okq (⟨"SluiceChain$Basin", "moveAutomaticGate", "()V"⟩, 9) := ⟨⟨by decide +kernel, by decide +kernel⟩, List.mem_of_getElem? (i := 50) (by decide +kernel), List.mem_of_getElem? (i := 552) (by decide +kernel), List.mem_of_getElem? (i := 553) (by decide +kernel)⟩
theorem lw_p18 : lw_okq (⟨"SluiceChain$Basin", "letOut", "()I"⟩, 9) := ⟨⟨by decide +kernel, by decide +kernel⟩, List.mem_of_getElem? (i := 50) (by decide +kernel), List.mem_of_getElem? (i := 556) (by decide +kernel), List.mem_of_getElem? (i := 557) (by decide +kernel)⟩
theorem lw_p19 : lw_okq (⟨"SluiceChain$Basin", "spillOver", "()I"⟩, 9) := ⟨⟨by decide +kernel, by decide +kernel⟩, List.mem_of_getElem? (i := 50) (by decide +kernel), List.mem_of_getElem? (i := 560) (by decide +kernel), List.mem_of_getElem? (i := 561) (by decide +kernel)⟩
theorem lw_p20 : lw_okq (⟨"SluiceChain", "expectedSpill", "(I)I"⟩, 12) := ⟨⟨by decide +kernel, by decide +kernel⟩, List.mem_of_getElem? (i := 35) (by decide +kernel), List.mem_of_getElem? (i := 568) (by decide +kernel), List.mem_of_getElem? (i := 569) (by decide +kernel)⟩
theorem lw_p21 : lw_okq (⟨"SluiceChain$Chain", "faultOfPlan", "(II)LSluiceChain$Fault;"⟩, 8) := ⟨⟨by decide +kernel, by decide +kernel⟩, List.mem_of_getElem? (i := 43) (by decide +kernel), List.mem_of_getElem? (i := 576) (by decide +kernel), List.mem_of_getElem? (i := 577) (by decide +kernel)⟩
theorem lw_p22 : lw_okq (⟨"SluiceChain$PlanSearch", "leastOfAll", "(LSluiceChain$Chain;II)I"⟩, 1) := ⟨⟨by decide +kernel, by decide +kernel⟩, List.mem_of_getElem? (i := 151) (by decide +kernel), List.mem_of_getElem? (i := 582) (by decide +kernel), List.mem_of_getElem? (i := 583) (by decide +kernel)⟩
theorem lw_p23 : lw_okq (⟨"SluiceChain$Chain", "copyWithOpening", "(LSluiceChain$Chain;II)V"⟩, 8) := ⟨⟨by decide +kernel, by decide +kernel⟩, List.mem_of_getElem? (i := 43) (by decide +kernel), List.mem_of_getElem? (i := 590) (by decide +kernel), List.mem_of_getElem? (i := 591) (by decide +kernel)⟩
theorem lw_p24 : lw_okq (⟨"SluiceChain$PlanSearch", "leastByCutting", "(LSluiceChain$Chain;II)I"⟩, 1) := ⟨⟨by decide +kernel, by decide +kernel⟩, List.mem_of_getElem? (i := 151) (by decide +kernel), List.mem_of_getElem? (i := 603) (by decide +kernel), List.mem_of_getElem? (i := 604) (by decide +kernel)⟩
theorem lw_p25 : lw_okq (⟨"SluiceChain$PlanSearch", "lowestFirstOpening", "(LSluiceChain$Chain;II)I"⟩, 1) := ⟨⟨by decide +kernel, by decide +kernel⟩, List.mem_of_getElem? (i := 151) (by decide +kernel), List.mem_of_getElem? (i := 614) (by decide +kernel), List.mem_of_getElem? (i := 615) (by decide +kernel)⟩
theorem lw_p26 : lw_okq (⟨"SluiceChain", "gatherEndangered", "(I)V"⟩, 12) := ⟨⟨by decide +kernel, by decide +kernel⟩, List.mem_of_getElem? (i := 35) (by decide +kernel), List.mem_of_getElem? (i := 623) (by decide +kernel), List.mem_of_getElem? (i := 624) (by decide +kernel)⟩
theorem lw_p27 : lw_okq (⟨"SluiceChain$Protection", "include", "(II)V"⟩, 4) := ⟨⟨by decide +kernel, by decide +kernel⟩, List.mem_of_getElem? (i := 163) (by decide +kernel), List.mem_of_getElem? (i := 627) (by decide +kernel), List.mem_of_getElem? (i := 628) (by decide +kernel)⟩
theorem lw_p28 : lw_okq (⟨"SluiceChain$Protection", "bestByTable", "(I)I"⟩, 4) := ⟨⟨by decide +kernel, by decide +kernel⟩, List.mem_of_getElem? (i := 163) (by decide +kernel), List.mem_of_getElem? (i := 635) (by decide +kernel), List.mem_of_getElem? (i := 636) (by decide +kernel)⟩
theorem lw_p29 : lw_okq (⟨"SluiceChain$Protection", "improveTable", "(II)V"⟩, 4) := ⟨⟨by decide +kernel, by decide +kernel⟩, List.mem_of_getElem? (i := 163) (by decide +kernel), List.mem_of_getElem? (i := 639) (by decide +kernel), List.mem_of_getElem? (i := 640) (by decide +kernel)⟩
theorem lw_p30 : lw_okq (⟨"SluiceChain$Protection", "bestBySets", "(I)I"⟩, 4) := ⟨⟨by decide +kernel, by decide +kernel⟩, List.mem_of_getElem? (i := 163) (by decide +kernel), List.mem_of_getElem? (i := 650) (by decide +kernel), List.mem_of_getElem? (i := 651) (by decide +kernel)⟩
theorem lw_p31 : lw_okq (⟨"SluiceChain$Protection", "bagsOfSet", "(I)I"⟩, 4) := ⟨⟨by decide +kernel, by decide +kernel⟩, List.mem_of_getElem? (i := 163) (by decide +kernel), List.mem_of_getElem? (i := 654) (by decide +kernel), List.mem_of_getElem? (i := 655) (by decide +kernel)⟩
def lw_privs_2 : List (MethodName × Nat) := [(⟨"SluiceChain$Chain", "flowDown", "()I"⟩, 8), (⟨"SluiceChain$Basin", "moveAutomaticGate", "()V"⟩, 9), (⟨"SluiceChain$Basin", "letOut", "()I"⟩, 9), (⟨"SluiceChain$Basin", "spillOver", "()I"⟩, 9), (⟨"SluiceChain", "expectedSpill", "(I)I"⟩, 12), (⟨"SluiceChain$Chain", "faultOfPlan", "(II)LSluiceChain$Fault;"⟩, 8), (⟨"SluiceChain$PlanSearch", "leastOfAll", "(LSluiceChain$Chain;II)I"⟩, 1), (⟨"SluiceChain$Chain", "copyWithOpening", "(LSluiceChain$Chain;II)V"⟩, 8), (⟨"SluiceChain$PlanSearch", "leastByCutting", "(LSluiceChain$Chain;II)I"⟩, 1), (⟨"SluiceChain$PlanSearch", "lowestFirstOpening", "(LSluiceChain$Chain;II)I"⟩, 1), (⟨"SluiceChain", "gatherEndangered", "(I)V"⟩, 12), (⟨"SluiceChain$Protection", "include", "(II)V"⟩, 4), (⟨"SluiceChain$Protection", "bestByTable", "(I)I"⟩, 4), (⟨"SluiceChain$Protection", "improveTable", "(II)V"⟩, 4), (⟨"SluiceChain$Protection", "bestBySets", "(I)I"⟩, 4), (⟨"SluiceChain$Protection", "bagsOfSet", "(I)I"⟩, 4)]
theorem lw_r2 : ∀ q ∈ lw_privs_2, lw_okq q := List.forall_mem_cons.mpr ⟨lw_p16, List.forall_mem_cons.mpr ⟨lw_p17, List.forall_mem_cons.mpr ⟨lw_p18, List.forall_mem_cons.mpr ⟨lw_p19, List.forall_mem_cons.mpr ⟨lw_p20, List.forall_mem_cons.mpr ⟨lw_p21, List.forall_mem_cons.mpr ⟨lw_p22, List.forall_mem_cons.mpr ⟨lw_p23, List.forall_mem_cons.mpr ⟨lw_p24, List.forall_mem_cons.mpr ⟨lw_p25, List.forall_mem_cons.mpr ⟨lw_p26, List.forall_mem_cons.mpr ⟨lw_p27, List.forall_mem_cons.mpr ⟨lw_p28, List.forall_mem_cons.mpr ⟨lw_p29, List.forall_mem_cons.mpr ⟨lw_p30, List.forall_mem_cons.mpr ⟨lw_p31, fun _ h => absurd h List.not_mem_nil⟩⟩⟩⟩⟩⟩⟩⟩⟩⟩⟩⟩⟩⟩⟩⟩
theorem lw_p32 : lw_okq (⟨"SluiceChain$Protection", "valueOfSet", "(I)I"⟩, 4) := ⟨⟨by decide +kernel, by decide +kernel⟩, List.mem_of_getElem? (i := 163) (by decide +kernel), List.mem_of_getElem? (i := 658) (by decide +kernel), List.mem_of_getElem? (i := 659) (by decide +kernel)⟩
theorem lw_p33 : lw_okq (⟨"SluiceChain$Protection", "sumOfBags", "()I"⟩, 4) := ⟨⟨by decide +kernel, by decide +kernel⟩, List.mem_of_getElem? (i := 163) (by decide +kernel), List.mem_of_getElem? (i := 666) (by decide +kernel), List.mem_of_getElem? (i := 667) (by decide +kernel)⟩
theorem lw_p34 : lw_okq (⟨"SluiceChain$Chain", "levelsFit", "()Z"⟩, 8) := ⟨⟨by decide +kernel, by decide +kernel⟩, List.mem_of_getElem? (i := 43) (by decide +kernel), List.mem_of_getElem? (i := 674) (by decide +kernel), List.mem_of_getElem? (i := 675) (by decide +kernel)⟩
theorem lw_p35 : lw_okq (⟨"SluiceChain", "leastSpillsAgree", "()Z"⟩, 12) := ⟨⟨by decide +kernel, by decide +kernel⟩, List.mem_of_getElem? (i := 35) (by decide +kernel), List.mem_of_getElem? (i := 678) (by decide +kernel), List.mem_of_getElem? (i := 679) (by decide +kernel)⟩
theorem lw_p36 : lw_okq (⟨"SluiceChain", "protectionsAgree", "()Z"⟩, 12) := ⟨⟨by decide +kernel, by decide +kernel⟩, List.mem_of_getElem? (i := 35) (by decide +kernel), List.mem_of_getElem? (i := 682) (by decide +kernel), List.mem_of_getElem? (i := 683) (by decide +kernel)⟩
theorem lw_p37 : lw_okq (⟨"SluiceChain$Line", "put", "(C)V"⟩, 2) := ⟨⟨by decide +kernel, by decide +kernel⟩, List.mem_of_getElem? (i := 211) (by decide +kernel), List.mem_of_getElem? (i := 690) (by decide +kernel), List.mem_of_getElem? (i := 691) (by decide +kernel)⟩
theorem lw_p38 : lw_okq (⟨"SluiceChain", "writeBasin", "(LSluiceChain$Basin;)V"⟩, 12) := ⟨⟨by decide +kernel, by decide +kernel⟩, List.mem_of_getElem? (i := 35) (by decide +kernel), List.mem_of_getElem? (i := 694) (by decide +kernel), List.mem_of_getElem? (i := 695) (by decide +kernel)⟩
theorem lw_p39 : lw_okq (⟨"SluiceChain$Line", "putNumber", "(I)V"⟩, 2) := ⟨⟨by decide +kernel, by decide +kernel⟩, List.mem_of_getElem? (i := 211) (by decide +kernel), List.mem_of_getElem? (i := 698) (by decide +kernel), List.mem_of_getElem? (i := 699) (by decide +kernel)⟩
theorem lw_p40 : lw_okq (⟨"SluiceChain$Line", "putDigit", "(I)V"⟩, 2) := ⟨⟨by decide +kernel, by decide +kernel⟩, List.mem_of_getElem? (i := 211) (by decide +kernel), List.mem_of_getElem? (i := 702) (by decide +kernel), List.mem_of_getElem? (i := 703) (by decide +kernel)⟩
theorem lw_p41 : lw_okq (⟨"SluiceChain", "change", "(LSluiceChain$Command;III)I"⟩, 12) := ⟨⟨by decide +kernel, by decide +kernel⟩, List.mem_of_getElem? (i := 35) (by decide +kernel), List.mem_of_getElem? (i := 775) (by decide +kernel), List.mem_of_getElem? (i := 776) (by decide +kernel)⟩
theorem lw_p42 : lw_okq (⟨"SluiceChain$Chain", "faultOf", "(LSluiceChain$Command;III)LSluiceChain$Fault;"⟩, 8) := ⟨⟨by decide +kernel, by decide +kernel⟩, List.mem_of_getElem? (i := 43) (by decide +kernel), List.mem_of_getElem? (i := 779) (by decide +kernel), List.mem_of_getElem? (i := 780) (by decide +kernel)⟩
theorem lw_p43 : lw_okq (⟨"SluiceChain$Chain", "faultOfNewBasin", "(III)LSluiceChain$Fault;"⟩, 8) := ⟨⟨by decide +kernel, by decide +kernel⟩, List.mem_of_getElem? (i := 43) (by decide +kernel), List.mem_of_getElem? (i := 791) (by decide +kernel), List.mem_of_getElem? (i := 792) (by decide +kernel)⟩
theorem lw_p44 : lw_okq (⟨"SluiceChain$Chain", "faultOfGate", "(II)LSluiceChain$Fault;"⟩, 8) := ⟨⟨by decide +kernel, by decide +kernel⟩, List.mem_of_getElem? (i := 43) (by decide +kernel), List.mem_of_getElem? (i := 796) (by decide +kernel), List.mem_of_getElem? (i := 797) (by decide +kernel)⟩
theorem lw_p45 : lw_okq (⟨"SluiceChain$Chain", "faultOfHand", "(I)LSluiceChain$Fault;"⟩, 8) := ⟨⟨by decide +kernel, by decide +kernel⟩, List.mem_of_getElem? (i := 43) (by decide +kernel), List.mem_of_getElem? (i := 800) (by decide +kernel), List.mem_of_getElem? (i := 801) (by decide +kernel)⟩
theorem lw_p46 : lw_okq (⟨"SluiceChain$Chain", "faultOfRain", "(I)LSluiceChain$Fault;"⟩, 8) := ⟨⟨by decide +kernel, by decide +kernel⟩, List.mem_of_getElem? (i := 43) (by decide +kernel), List.mem_of_getElem? (i := 804) (by decide +kernel), List.mem_of_getElem? (i := 805) (by decide +kernel)⟩
theorem lw_p47 : lw_okq (⟨"SluiceChain$Chain", "faultOfPour", "(II)LSluiceChain$Fault;"⟩, 8) := ⟨⟨by decide +kernel, by decide +kernel⟩, List.mem_of_getElem? (i := 43) (by decide +kernel), List.mem_of_getElem? (i := 808) (by decide +kernel), List.mem_of_getElem? (i := 809) (by decide +kernel)⟩
def lw_privs_3 : List (MethodName × Nat) := [(⟨"SluiceChain$Protection", "valueOfSet", "(I)I"⟩, 4), (⟨"SluiceChain$Protection", "sumOfBags", "()I"⟩, 4), (⟨"SluiceChain$Chain", "levelsFit", "()Z"⟩, 8), (⟨"SluiceChain", "leastSpillsAgree", "()Z"⟩, 12), (⟨"SluiceChain", "protectionsAgree", "()Z"⟩, 12), (⟨"SluiceChain$Line", "put", "(C)V"⟩, 2), (⟨"SluiceChain", "writeBasin", "(LSluiceChain$Basin;)V"⟩, 12), (⟨"SluiceChain$Line", "putNumber", "(I)V"⟩, 2), (⟨"SluiceChain$Line", "putDigit", "(I)V"⟩, 2), (⟨"SluiceChain", "change", "(LSluiceChain$Command;III)I"⟩, 12), (⟨"SluiceChain$Chain", "faultOf", "(LSluiceChain$Command;III)LSluiceChain$Fault;"⟩, 8), (⟨"SluiceChain$Chain", "faultOfNewBasin", "(III)LSluiceChain$Fault;"⟩, 8), (⟨"SluiceChain$Chain", "faultOfGate", "(II)LSluiceChain$Fault;"⟩, 8), (⟨"SluiceChain$Chain", "faultOfHand", "(I)LSluiceChain$Fault;"⟩, 8), (⟨"SluiceChain$Chain", "faultOfRain", "(I)LSluiceChain$Fault;"⟩, 8), (⟨"SluiceChain$Chain", "faultOfPour", "(II)LSluiceChain$Fault;"⟩, 8)]
theorem lw_r3 : ∀ q ∈ lw_privs_3, lw_okq q := List.forall_mem_cons.mpr ⟨lw_p32, List.forall_mem_cons.mpr ⟨lw_p33, List.forall_mem_cons.mpr ⟨lw_p34, List.forall_mem_cons.mpr ⟨lw_p35, List.forall_mem_cons.mpr ⟨lw_p36, List.forall_mem_cons.mpr ⟨lw_p37, List.forall_mem_cons.mpr ⟨lw_p38, List.forall_mem_cons.mpr ⟨lw_p39, List.forall_mem_cons.mpr ⟨lw_p40, List.forall_mem_cons.mpr ⟨lw_p41, List.forall_mem_cons.mpr ⟨lw_p42, List.forall_mem_cons.mpr ⟨lw_p43, List.forall_mem_cons.mpr ⟨lw_p44, List.forall_mem_cons.mpr ⟨lw_p45, List.forall_mem_cons.mpr ⟨lw_p46, List.forall_mem_cons.mpr ⟨lw_p47, fun _ h => absurd h List.not_mem_nil⟩⟩⟩⟩⟩⟩⟩⟩⟩⟩⟩⟩⟩⟩⟩⟩
theorem lw_p48 : lw_okq (⟨"SluiceChain$History", "remember", "(LSluiceChain$Chain;)V"⟩, 3) := ⟨⟨by decide +kernel, by decide +kernel⟩, List.mem_of_getElem? (i := 132) (by decide +kernel), List.mem_of_getElem? (i := 812) (by decide +kernel), List.mem_of_getElem? (i := 813) (by decide +kernel)⟩
theorem lw_p49 : lw_okq (⟨"SluiceChain$Chain", "carryOut", "(LSluiceChain$Command;III)I"⟩, 8) := ⟨⟨by decide +kernel, by decide +kernel⟩, List.mem_of_getElem? (i := 43) (by decide +kernel), List.mem_of_getElem? (i := 818) (by decide +kernel), List.mem_of_getElem? (i := 819) (by decide +kernel)⟩
theorem lw_p50 : lw_okq (⟨"SluiceChain$Chain", "useNextBasin", "(III)I"⟩, 8) := ⟨⟨by decide +kernel, by decide +kernel⟩, List.mem_of_getElem? (i := 43) (by decide +kernel), List.mem_of_getElem? (i := 822) (by decide +kernel), List.mem_of_getElem? (i := 823) (by decide +kernel)⟩
theorem lw_p51 : lw_okq (⟨"SluiceChain$Basin", "begin", "(III)V"⟩, 9) := ⟨⟨by decide +kernel, by decide +kernel⟩, List.mem_of_getElem? (i := 50) (by decide +kernel), List.mem_of_getElem? (i := 826) (by decide +kernel), List.mem_of_getElem? (i := 827) (by decide +kernel)⟩
theorem lw_p52 : lw_okq (⟨"SluiceChain$Chain", "turnGate", "(II)I"⟩, 8) := ⟨⟨by decide +kernel, by decide +kernel⟩, List.mem_of_getElem? (i := 43) (by decide +kernel), List.mem_of_getElem? (i := 830) (by decide +kernel), List.mem_of_getElem? (i := 831) (by decide +kernel)⟩
theorem lw_p53 : lw_okq (⟨"SluiceChain$Chain", "makeAutomatic", "(II)I"⟩, 8) := ⟨⟨by decide +kernel, by decide +kernel⟩, List.mem_of_getElem? (i := 43) (by decide +kernel), List.mem_of_getElem? (i := 834) (by decide +kernel), List.mem_of_getElem? (i := 835) (by decide +kernel)⟩
theorem lw_p54 : lw_okq (⟨"SluiceChain$Chain", "countAutomatic", "()I"⟩, 8) := ⟨⟨by decide +kernel, by decide +kernel⟩, List.mem_of_getElem? (i := 43) (by decide +kernel), List.mem_of_getElem? (i := 838) (by decide +kernel), List.mem_of_getElem? (i := 839) (by decide +kernel)⟩
theorem lw_p55 : lw_okq (⟨"SluiceChain$Chain", "makeManual", "(I)I"⟩, 8) := ⟨⟨by decide +kernel, by decide +kernel⟩, List.mem_of_getElem? (i := 43) (by decide +kernel), List.mem_of_getElem? (i := 842) (by decide +kernel), List.mem_of_getElem? (i := 843) (by decide +kernel)⟩
theorem lw_p56 : lw_okq (⟨"SluiceChain$Chain", "expectRain", "(I)I"⟩, 8) := ⟨⟨by decide +kernel, by decide +kernel⟩, List.mem_of_getElem? (i := 43) (by decide +kernel), List.mem_of_getElem? (i := 846) (by decide +kernel), List.mem_of_getElem? (i := 847) (by decide +kernel)⟩
theorem lw_p57 : lw_okq (⟨"SluiceChain$Chain", "pourInto", "(II)I"⟩, 8) := ⟨⟨by decide +kernel, by decide +kernel⟩, List.mem_of_getElem? (i := 43) (by decide +kernel), List.mem_of_getElem? (i := 850) (by decide +kernel), List.mem_of_getElem? (i := 851) (by decide +kernel)⟩
theorem lw_p58 : lw_okq (⟨"SluiceChain$Chain", "passSteps", "(I)I"⟩, 8) := ⟨⟨by decide +kernel, by decide +kernel⟩, List.mem_of_getElem? (i := 43) (by decide +kernel), List.mem_of_getElem? (i := 854) (by decide +kernel), List.mem_of_getElem? (i := 855) (by decide +kernel)⟩
theorem lw_p59 : lw_okq (⟨"SluiceChain$Chain", "dropForecast", "()I"⟩, 8) := ⟨⟨by decide +kernel, by decide +kernel⟩, List.mem_of_getElem? (i := 43) (by decide +kernel), List.mem_of_getElem? (i := 859) (by decide +kernel), List.mem_of_getElem? (i := 860) (by decide +kernel)⟩
def lw_privs_4 : List (MethodName × Nat) := [(⟨"SluiceChain$History", "remember", "(LSluiceChain$Chain;)V"⟩, 3), (⟨"SluiceChain$Chain", "carryOut", "(LSluiceChain$Command;III)I"⟩, 8), (⟨"SluiceChain$Chain", "useNextBasin", "(III)I"⟩, 8), (⟨"SluiceChain$Basin", "begin", "(III)V"⟩, 9), (⟨"SluiceChain$Chain", "turnGate", "(II)I"⟩, 8), (⟨"SluiceChain$Chain", "makeAutomatic", "(II)I"⟩, 8), (⟨"SluiceChain$Chain", "countAutomatic", "()I"⟩, 8), (⟨"SluiceChain$Chain", "makeManual", "(I)I"⟩, 8), (⟨"SluiceChain$Chain", "expectRain", "(I)I"⟩, 8), (⟨"SluiceChain$Chain", "pourInto", "(II)I"⟩, 8), (⟨"SluiceChain$Chain", "passSteps", "(I)I"⟩, 8), (⟨"SluiceChain$Chain", "dropForecast", "()I"⟩, 8)]
theorem lw_r4 : ∀ q ∈ lw_privs_4, lw_okq q := List.forall_mem_cons.mpr ⟨lw_p48, List.forall_mem_cons.mpr ⟨lw_p49, List.forall_mem_cons.mpr ⟨lw_p50, List.forall_mem_cons.mpr ⟨lw_p51, List.forall_mem_cons.mpr ⟨lw_p52, List.forall_mem_cons.mpr ⟨lw_p53, List.forall_mem_cons.mpr ⟨lw_p54, List.forall_mem_cons.mpr ⟨lw_p55, List.forall_mem_cons.mpr ⟨lw_p56, List.forall_mem_cons.mpr ⟨lw_p57, List.forall_mem_cons.mpr ⟨lw_p58, List.forall_mem_cons.mpr ⟨lw_p59, fun _ h => absurd h List.not_mem_nil⟩⟩⟩⟩⟩⟩⟩⟩⟩⟩⟩⟩
def lw_privs : List (MethodName × Nat) := lw_privs_1 ++ (lw_privs_2 ++ (lw_privs_3 ++ (lw_privs_4)))
def lw_tbl : List Cond := k2_sels lw_privs ++ tables_1
theorem lw_privs_ok : ∀ q ∈ lw_privs, lw_okq q := by
  show ∀ q ∈ lw_privs_1 ++ (lw_privs_2 ++ (lw_privs_3 ++ (lw_privs_4))), lw_okq q
  exact List.forall_mem_append.mpr ⟨lw_r1, List.forall_mem_append.mpr ⟨lw_r2, List.forall_mem_append.mpr ⟨lw_r3, lw_r4⟩⟩⟩
/-- the streams that the claim lets the run draw from -/
abbrev lw_cs : List Choice := [Jvm.Choice.named "NaN.bits"]
theorem lw_bits : nanBits ∈ lw_cs := by first | decide | exact List.mem_cons_self | simp [lw_cs, nanBits]
/-! ===== BEGIN words of one list among another's, by their places ===== -/
theorem goodIn_r {big : List Cond} (ws : List Cond) (ps : List Nat) (hp : ws = ps.filterMap (fun i => big[i]?)) (h : ws.all goodWord = true) : GoodIn big ws := by
  intro w hw
  have h1 := List.all_eq_true.mp h w hw
  rw [hp] at hw
  obtain ⟨i, -, hi⟩ := List.mem_filterMap.mp hw
  have hm : w ∈ big := by first | exact List.mem_of_getElem? hi | exact List.getElem?_mem hi
  exact ⟨hm, good_of_word h1⟩
theorem goodIn_app {big a b : List Cond} (ha : GoodIn big a) (hb : GoodIn big b) : GoodIn big (a ++ b) := fun w h => (List.mem_append.mp h).elim (ha w) (hb w)
theorem goodIn_ca {big a b : List Cond} {c : Cond} (ha : GoodIn big (c :: a)) (hb : GoodIn big b) : GoodIn big (c :: (a ++ b)) := fun w h => (List.mem_cons.mp h).elim (fun e => ha w (List.mem_cons.mpr (Or.inl e))) (fun h => (List.mem_append.mp h).elim (fun h => ha w (List.mem_cons.mpr (Or.inr h))) (hb w))
theorem goodIn_sub {big ws : List Cond} (hm : ∀ w ∈ ws, w ∈ big) (h : ws.all goodWord = true) : GoodIn big ws := fun w hw => ⟨hm w hw, good_of_word (List.all_eq_true.mp h w hw)⟩
/-! ===== END ===== -/

/-! ===== BEGIN exceptions that leave a method, and their catching by the caller (launches without stack traces) ===== -/
section VXA
/-! The laws vx_back, vx_callV, vx_callS, vx_callSW, vx_throw0, vx_throwS follow proofs of the library, with one case more: JvmDerived/Free/Laws.lean (Back.of_free), Shelf42/LK1.lean (callV, callS), Shelf/KitTraced.lean (throwNew0V, throwNewS). -/
/-- where a method has thrown q: the class by its name, the cell, what was written, the world -/
def vx_T (XC : String → State → State → Prop) (st : State) (q : Addr) (t : State) (mc ms : Nat) (free : Addr → Prop) : Prop :=
  ∃ (E : String) (ce : Cell) (L : List Loc), XC E st t ∧ t.heap[q]? = some ce ∧ ce.vm = .none ∧ st.vm.findClass E = some ce.cls ∧ st.WarmedH t.vm ∧ st.sameButNew ({ t with vm := st.vm } : State) L mc ms ∧ ∀ z ∈ L, free z.base
def vx_Q (Qc : Array Value → State → Outcome → State → Prop) (XC : String → State → State → Prop) (mc ms : Nat) (free : Addr → Prop) : Array Value → State → Outcome → State → Prop := fun a st o t =>
  (Qc a st o t ∧ ∃ L, FrameEnd st o t L mc ms ∧ ∀ q ∈ L, free q.base) ∨ ∃ q, o = .threw q ∧ vx_T XC st q t mc ms free
/-- a callee that returns or throws -/
def vx_Met (l : Launch) (y : MethodName) (ws : List Cond) (rm : Room) (Pc : Array Value → State → Prop) (Qc : Array Value → State → Outcome → State → Prop) (XC : String → State → State → Prop) (mc ms : Nat) (free : Addr → Prop) : Prop :=
  MetFree l y (headSpec ws rm) Pc (fun _ _ _ _ _ => True) (vx_Q Qc XC mc ms free)
def vx_Post (XC : String → State → State → Prop) (mc ms : Nat) (free : Addr → Prop) : Pt → Array Value → Addr → Pt → Prop := fun A a q B =>
  ∃ (g : JFrame) (mk : MethodId) (t : State) (L : List Loc) (E : String) (ce : Cell), B.U.heap = t.heap ∧ B.U.vm = t.vm ∧ XC E (A.U.calling g mk a) t ∧ t.heap[q]? = some ce ∧ ce.vm = .none ∧ A.U.vm.findClass E = some ce.cls ∧ B.locs = A.locs ++ L ∧ (∀ z ∈ L, free z.base) ∧ B.cells = A.cells + mc ∧ B.slots = A.slots + ms
def vx_Back (l : Launch) (R : Room) (p : Program) (e : Env) (below : List Frame) (s : State) (sargs : Array Value) (y : MethodName) (len W9 : Nat)
    (Pre : Pt → Array Value → Prop) (Post : Pt → Array Value → Option Value → Pt → Prop) (PostX : Pt → Array Value → Addr → Pt → Prop) : Prop :=
  ∀ (m : MethodId) (meth : Method) (c : Code) (A : Pt) (g : JFrame) (ig : Instr) (mk : MethodId) (a : Array Value),
    Stand p l e R s m sargs below meth c A.U A.locs A.cells A.slots → g.method = m → g.locals.size = c.maxLocals → decode c.code g.pc = .ok (ig, len) →
    2 * g.monitorRoom + (g.stack.map fun v => v.category).sum ≤ W9 → A.U.methodNamed? y = some mk → Pre A a →
    (∃ (v : Option Value) (B : Pt), Stand p l e R s m sargs below meth c B.U B.locs B.cells B.slots ∧ Post A a v B ∧
      Steps p.tables e below (doInvoke e (A.U.setTop g) [] mk a).1 (B.U.setTop { g with pc := g.pc + len, stack := v.toList ++ g.stack })) ∨
    (∃ (q : Addr) (B : Pt), Stand p l e R s m sargs below meth c B.U B.locs B.cells B.slots ∧ PostX A a q B ∧
      Steps p.tables e below (doInvoke e (A.U.setTop g) [] mk a).1 ((B.U.setTop g).pushFrame (.throwing q)))
section Payer
variable {l : Launch} {R : Room} {p : Program} {e : Env} {below : List Frame} {s : State} {sargs : Array Value} {y : MethodName} {len W9 : Nat}
theorem vx_back {ws : List Cond} {rm : Room} {Pc : Array Value → State → Prop} {Qc : Array Value → State → Outcome → State → Prop} {XC : String → State → State → Prop} {mc ms : Nat} {free : Addr → Prop} {bytes : ByteArray} {maxL : Nat} {ret : Option FieldType}
    (hM : vx_Met l y ws rm Pc Qc XC mc ms free) (hblind : FrameBlind Pc) (hrc : rm.cells = mc) (hrs : rm.slots = ms)
    (hframes : rm.frames + 1 ≤ R.frames) (hlocals : W9 + (maxL + 11) + rm.locals ≤ R.locals)
    (hws : ∀ w ∈ ws, ∀ a' U, s.WarmedH U.vm → w.before a' U = true) (hcode : Cond.code y bytes maxL ret ∈ ws) (hinit : ∀ a' U, s.WarmedH U.vm → (Cond.initialized y.cls).before a' U = true) :
    vx_Back l R p e below s sargs y len W9 (PreOf R mc ms Pc) (PostOf Qc mc ms free) (vx_Post XC mc ms free) := by
  intro m meth c A g ig mk a X hg hsize hdg hW hn hp
  have h1 : (headSpec ws rm).pre.before a A.U = true := atoms_intro fun w hw => hws w hw _ _ X.warmed
  have h2 : (Cond.code y bytes maxL ret).before a A.U = true := hws _ hcode _ _ X.warmed
  have h3 : (Cond.initialized y.cls).before a A.U = true := hinit _ _ X.warmed
  have h4 : A.cells + (headSpec ws rm).room.cells ≤ R.cells := by rw [show (headSpec ws rm).room.cells = mc from hrc]; exact hp.1
  have h5 : A.slots + (headSpec ws rm).room.slots ≤ R.slots := by rw [show (headSpec ws rm).room.slots = ms from hrs]; exact hp.2.1
  have hPc : Pc a (A.U.calling g mk a) := hblind _ _ _ _ hp.2.2
  obtain ⟨U, Ls, c0, s0⟩ := A
  dsimp only [Pt.U, Pt.locs, Pt.cells, Pt.slots] at h1 h2 h3 h4 h5 X hn hPc ⊢
  obtain ⟨methY, cY, hmY, hcY, -, hlY, -, -, -, -⟩ := Cond.code_spec hn h2
  obtain ⟨kY, hkY, -⟩ := className_of_methodNamed hn
  have hinitY : kY.init = .initialized := Cond.initialized_spec (findClass_of_methodNamed hn) hkY h3
  have h : At U g.method c below := by rw [hg]; exact X.here
  have hlocals9 : W9 + (maxL + 11) + (headSpec ws rm).room.locals ≤ R.locals := hlocals
  have happ : (headSpec ws rm).appliesLoose y e.platform (U.calling g mk a) = true :=
    Spec.appliesLoose_calling (g := g) h hdg hn hkY hinitY
      (X.room_calling (g := g) (R' := (headSpec ws rm).room) hsize hmY hcY hframes (by rw [hlY]; omega) h4 h5) h1
  obtain ⟨mid, hmid⟩ := h.above
  have hfr : (U.setTop g).frames = (.java g :: mid) ++ below := by rw [State.frames_setTop' g h.top, hmid]; rfl
  obtain ⟨o, s₂, hsteps, -, hend, hq⟩ := Steps.callFree hM p X.admits X.cas X.clock (acts := []) hfr happ hPc trivial
  have hq' : vx_Q Qc XC mc ms free a (U.calling g mk a) o s₂ := hq
  rw [State.frames_setTop' g h.top] at hend
  obtain ⟨g₀, hg0⟩ := Option.isSome_iff_exists.mp h.top
  obtain ⟨r, hr⟩ := State.topJava?_eq_some.mp hg0
  have hr' : (({ U with heap := s₂.heap, slotsUsed := s₂.slotsUsed } : State).setVm s₂.vm).frames = .java g₀ :: r := hr
  rcases hq' with ⟨hqc, L, hfe, hL⟩ | ⟨q, rfl, E, ce, L, hx, hce, hcv, hcl, hW₂, hsm, hL⟩
  · obtain ⟨⟨v, rfl⟩, hW₂, e2, q2, q3, q4, q5, q6⟩ := id hfe
    have e3 : s₂ = ({ (U.calling g mk a).setFrames s₂.frames with heap := s₂.heap, slotsUsed := s₂.slotsUsed } : State).setVm s₂.vm := by
      have : s₂ = ({ s₂ with vm := (U.calling g mk a).vm } : State).setVm s₂.vm := rfl
      rw [e2] at this
      exact this
    obtain ⟨c₂, i₂, len₂, hc₂, hd₂, hf₂⟩ := hend
    have hW' : U.WarmedH s₂.vm := hW₂
    have hcc : c₂ = c := by
      have h1 : s₂.code? g.method = U.code? g.method := by
        rw [State.code?_eq, State.code?_eq, hW'.alike.method?]
      exact Option.some.inj (hc₂.symm.trans (h1.trans h.code))
    subst hcc
    have hlen : len₂ = len := by rw [hdg] at hd₂; cases hd₂; rfl
    subst hlen
    have hs₂ : s₂ = (({ U with heap := s₂.heap, slotsUsed := s₂.slotsUsed } : State).setVm s₂.vm).setTop { g with pc := g.pc + len₂, stack := v.toList ++ g.stack } := by
      refine e3.trans ?_
      rw [hf₂, State.calling_eq h.top, State.setFrames_setFrames, State.setTop_of_frames _ hr', hr]
      rfl
    have hsame : U.sameButNew ({ U with heap := s₂.heap, slotsUsed := s₂.slotsUsed } : State) L mc ms := by
      refine ⟨?_, q2, q3, q4, q5, q6⟩
      obtain ⟨t, ht, -⟩ := State.frames_cons hr
      show ({ U with heap := s₂.heap, slotsUsed := s₂.slotsUsed } : State) = { U.setFrames U.frames with heap := s₂.heap, slotsUsed := s₂.slotsUsed }
      rw [State.setFrames_self ht]
    subst hg
    refine Or.inl ⟨v, ⟨(({ U with heap := s₂.heap, slotsUsed := s₂.slotsUsed } : State).setVm s₂.vm), Ls ++ L, c0 + mc, s0 + ms⟩,
      ⟨X.admits, X.cas, X.clock, X.frames, X.room, X.hears, X.method, X.code, (X.here.setHeapUsed s₂.heap s₂.slotsUsed).setVm hW'.alike, X.tail, State.WarmedH.trans X.warmed hW', X.limits, X.bytes, X.same.trans (hsame.setVm s.vm)⟩,
      ⟨g, mk, s₂, L, rfl, rfl, hqc, rfl, hL, rfl, rfl⟩, ?_⟩
    show Steps p.tables e below _ ((({ U with heap := s₂.heap, slotsUsed := s₂.slotsUsed } : State).setVm s₂.vm).setTop { g with pc := g.pc + len₂, stack := v.toList ++ g.stack })
    rw [← hs₂]
    exact hsteps
  · obtain ⟨e2, q2, q3, q4, q5, q6⟩ := id hsm
    have e3 : s₂ = ({ (U.calling g mk a).setFrames s₂.frames with heap := s₂.heap, slotsUsed := s₂.slotsUsed } : State).setVm s₂.vm := by
      have : s₂ = ({ s₂ with vm := (U.calling g mk a).vm } : State).setVm s₂.vm := rfl
      rw [e2] at this
      exact this
    have hf₂ : s₂.frames = .throwing q :: .java g :: U.frames.tail := hend
    have hW' : U.WarmedH s₂.vm := hW₂
    have hs₂ : s₂ = ((({ U with heap := s₂.heap, slotsUsed := s₂.slotsUsed } : State).setVm s₂.vm).setTop g).pushFrame (.throwing q) := by
      refine e3.trans ?_
      rw [hf₂, State.calling_eq h.top, State.setFrames_setFrames, State.pushFrame, State.frames_setTop _ hr', State.setTop_of_frames _ hr', State.setFrames_setFrames, hr]
      rfl
    have hsame : U.sameButNew ({ U with heap := s₂.heap, slotsUsed := s₂.slotsUsed } : State) L mc ms := by
      refine ⟨?_, q2, q3, q4, q5, q6⟩
      obtain ⟨t, ht, -⟩ := State.frames_cons hr
      show ({ U with heap := s₂.heap, slotsUsed := s₂.slotsUsed } : State) = { U.setFrames U.frames with heap := s₂.heap, slotsUsed := s₂.slotsUsed }
      rw [State.setFrames_self ht]
    subst hg
    refine Or.inr ⟨q, ⟨(({ U with heap := s₂.heap, slotsUsed := s₂.slotsUsed } : State).setVm s₂.vm), Ls ++ L, c0 + mc, s0 + ms⟩,
      ⟨X.admits, X.cas, X.clock, X.frames, X.room, X.hears, X.method, X.code, (X.here.setHeapUsed s₂.heap s₂.slotsUsed).setVm hW'.alike, X.tail, State.WarmedH.trans X.warmed hW', X.limits, X.bytes, X.same.trans (hsame.setVm s.vm)⟩,
      ⟨g, mk, s₂, L, E, ce, rfl, rfl, hx, hce, hcv, hcl, rfl, hL, rfl, rfl⟩, ?_⟩
    show Steps p.tables e below _ (((({ U with heap := s₂.heap, slotsUsed := s₂.slotsUsed } : State).setVm s₂.vm).setTop g).pushFrame (.throwing q))
    rw [← hs₂]
    exact hsteps
end Payer
section Calls
variable {p : Program} {l : Launch} {e : Env} {R : Room} {s : State} {m : MethodId} {args : Array Value} {below : List Frame} {meth : Method} {c : Code} {T : State} {locs : List Loc} {cells slots : Nat}
theorem vx_callV (X : Stand p l e R s m args below meth c T locs cells slots) (hexec : p.tables.exec = Jvm.exec) {own C : String} {index : Nat} {y : MethodName} {bytes : ByteArray} {maxL : Nat} {ret : Option FieldType}
    (hown : s.vm.findClass own = some m.cls) (hlink : (Cond.methodLink own index y).before args s = true) (hinst : (Cond.instanceMethod y).before args s = true) (hsel : (Cond.selects C y y).before args s = true)
    (hcode : (Cond.code y bytes maxL ret).before args s = true) (hy : y.cls ≠ "java/lang/invoke/MethodHandle" ∧ y.cls ≠ "java/lang/invoke/VarHandle")
    {W9 : Nat} {Pre : Pt → Array Value → Prop} {Post : Pt → Array Value → Option Value → Pt → Prop} {PostX : Pt → Array Value → Addr → Pt → Prop} (hK : vx_Back l R p e below s args y 3 W9 Pre Post PostX)
    {b : Addr} {cellB : Cell} (hcell : T.heap[b]? = some cellB) (hobj : cellB.vm.isStatics = false) (hcls : s.vm.findClass C = some cellB.cls)
    {g : JFrame} (hg : g.method = m) (hsize : g.locals.size = c.maxLocals) {argsL rest : List Value} (hlen : ∀ sig, parseMethodDescriptor y.desc = some sig → argsL.length = sig.parameters.length)
    (hstack : g.stack = argsL.reverse ++ .ref b :: rest) (hW : 2 * g.monitorRoom + (rest.map fun v => v.category).sum ≤ W9) (hdg : decode c.code g.pc = .ok (.invokevirtual index, 3))
    (hpre : ∀ vm₁, s.WarmedH vm₁ → Pre ⟨T.setVm vm₁, locs, cells, slots⟩ (Value.ref b :: argsL).toArray) :
    (∃ (v : Option Value) (vm₁ : Vm) (B : Pt), s.WarmedH vm₁ ∧ Stand p l e R s m args below meth c B.U B.locs B.cells B.slots ∧ Post ⟨T.setVm vm₁, locs, cells, slots⟩ (Value.ref b :: argsL).toArray v B ∧
      ∀ target, Steps p.tables e below (B.U.setTop { g with pc := g.pc + 3, stack := v.toList ++ rest }) target → Steps p.tables e below (T.setTop g) target) ∨
    (∃ (q : Addr) (vm₁ : Vm) (B : Pt), s.WarmedH vm₁ ∧ Stand p l e R s m args below meth c B.U B.locs B.cells B.slots ∧ PostX ⟨T.setVm vm₁, locs, cells, slots⟩ (Value.ref b :: argsL).toArray q B ∧
      Steps p.tables e below (T.setTop g) ((B.U.setTop { g with stack := rest }).pushFrame (.throwing q))) := by
  obtain ⟨mk, methM, hnamed, hmethM, hstM, habM⟩ := Cond.instanceMethod_spec hinst
  obtain ⟨methM', cM, hmethM', -, -, -, -, -, -, hsigM⟩ := Cond.code_spec hnamed hcode
  cases hmethM.symm.trans hmethM'
  obtain ⟨c2, r2, m2, q1, q2, q3, q4, kP, hkP, hkPi⟩ := Cond.selects_spec hsel
  cases hcls.symm.trans q1
  cases (State.methodFound?_of_named hnamed hy).symm.trans q2
  cases hnamed.symm.trans q3
  have hselP : selectMethod e.platform s.vm cellB.cls mk = .method mk := by rw [Launch.admits_selectMethod X.admits]; exact q4
  obtain ⟨vm₁, X₁, hstep₁⟩ := X.invokevirtual hexec hown hlink hnamed hmethM hstM hkP hkPi hy (a := b) (cell := cellB) hcell
    (fun z h => by rw [h] at hobj; cases hobj) hselP hmethM habM hkP hkPi (g := g) hg (argsL := argsL) (rest := rest) (hlen _ hsigM) hstack hdg
  rcases hK m meth c ⟨T.setVm vm₁, locs, cells, slots⟩ { g with stack := rest } (.invokevirtual index) mk (Value.ref b :: argsL).toArray X₁ hg hsize hdg hW (X₁.named hnamed) (hpre vm₁ X₁.warmed) with ⟨v, B, X', hpost, hsteps⟩ | ⟨q, B, X', hpost, hsteps⟩
  · exact Or.inl ⟨v, vm₁, B, X₁.warmed, X', hpost, fun target h => hstep₁ _ fun acts => by rw [doInvoke_state]; exact hsteps.trans h⟩
  · exact Or.inr ⟨q, vm₁, B, X₁.warmed, X', hpost, hstep₁ _ fun acts => by rw [doInvoke_state]; exact hsteps⟩
theorem vx_callS (X : Stand p l e R s m args below meth c T locs cells slots) (hexec : p.tables.exec = Jvm.exec) {own : String} {index : Nat} {y : MethodName} {bytes : ByteArray} {maxL : Nat} {ret : Option FieldType}
    (hown : s.vm.findClass own = some m.cls) (hlink : (Cond.methodLink own index y).before args s = true) (hstat : (Cond.static y).before args s = true) (hinit : (Cond.initialized y.cls).before args s = true)
    (hcode : (Cond.code y bytes maxL ret).before args s = true) (hy : y.cls ≠ "java/lang/invoke/MethodHandle" ∧ y.cls ≠ "java/lang/invoke/VarHandle")
    {W9 : Nat} {Pre : Pt → Array Value → Prop} {Post : Pt → Array Value → Option Value → Pt → Prop} {PostX : Pt → Array Value → Addr → Pt → Prop} (hK : vx_Back l R p e below s args y 3 W9 Pre Post PostX)
    {g : JFrame} (hg : g.method = m) (hsize : g.locals.size = c.maxLocals) {argsL rest : List Value} (hlen : ∀ sig, parseMethodDescriptor y.desc = some sig → argsL.length = sig.parameters.length)
    (hstack : g.stack = argsL.reverse ++ rest) (hW : 2 * g.monitorRoom + (rest.map fun v => v.category).sum ≤ W9) (hdg : decode c.code g.pc = .ok (.invokestatic index, 3))
    (hpre : ∀ vm₁, s.WarmedH vm₁ → Pre ⟨T.setVm vm₁, locs, cells, slots⟩ argsL.toArray) :
    (∃ (v : Option Value) (vm₁ : Vm) (B : Pt), s.WarmedH vm₁ ∧ Stand p l e R s m args below meth c B.U B.locs B.cells B.slots ∧ Post ⟨T.setVm vm₁, locs, cells, slots⟩ argsL.toArray v B ∧
      ∀ target, Steps p.tables e below (B.U.setTop { g with pc := g.pc + 3, stack := v.toList ++ rest }) target → Steps p.tables e below (T.setTop g) target) ∨
    (∃ (q : Addr) (vm₁ : Vm) (B : Pt), s.WarmedH vm₁ ∧ Stand p l e R s m args below meth c B.U B.locs B.cells B.slots ∧ PostX ⟨T.setVm vm₁, locs, cells, slots⟩ argsL.toArray q B ∧
      Steps p.tables e below (T.setTop g) ((B.U.setTop { g with stack := rest }).pushFrame (.throwing q))) := by
  obtain ⟨mk, hnamed⟩ := Cond.code_named hcode
  obtain ⟨methM, cM, hmethM, -, -, -, -, -, -, hsigM⟩ := Cond.code_spec hnamed hcode
  have hstatic : methM.isStatic = true := Cond.static_spec hnamed hmethM hstat
  obtain ⟨kP, hkP, -⟩ := className_of_methodNamed hnamed
  have hinitP : kP.init = .initialized := Cond.initialized_spec (findClass_of_methodNamed hnamed) hkP hinit
  obtain ⟨vm₁, X₁, hstep₁⟩ := X.invokestatic hexec hown hlink hnamed hmethM hstatic hkP hinitP hy (g := g) hg (argsL := argsL) (rest := rest) (hlen _ hsigM) hstack hdg
  rcases hK m meth c ⟨T.setVm vm₁, locs, cells, slots⟩ { g with stack := rest } (.invokestatic index) mk argsL.toArray X₁ hg hsize hdg hW (X₁.named hnamed) (hpre vm₁ X₁.warmed) with ⟨v, B, X', hpost, hsteps⟩ | ⟨q, B, X', hpost, hsteps⟩
  · exact Or.inl ⟨v, vm₁, B, X₁.warmed, X', hpost, fun target h => hstep₁ _ fun acts => by rw [doInvoke_state]; exact hsteps.trans h⟩
  · exact Or.inr ⟨q, vm₁, B, X₁.warmed, X', hpost, hstep₁ _ fun acts => by rw [doInvoke_state]; exact hsteps⟩
end Calls
theorem vx_cls {s : State} {T : State} {vm₁ : Vm} {E : String} {k : ClassId} (hW : s.WarmedH vm₁) (h : (T.setVm vm₁).vm.findClass E = some k) : s.vm.findClass E = some k := by
  have h1 : vm₁.findClass E = some k := h
  rw [hW.alike.findClass] at h1
  exact h1
/-- the method's frame g, with q thrown over it -/
def vx_W (p : Program) (l : Launch) (e : Env) (R : Room) (s : State) (m : MethodId) (args : Array Value) (below : List Frame) (meth : Method) (c : Code) (H : Heap) (locs : List Loc) (cells slots : Nat) (Q : State → Prop) (g : JFrame) (q : Addr) : Prop :=
  ∀ T : State, T.heap = H → Stand p l e R s m args below meth c T locs cells slots → ∃ t, Steps p.tables e below ((T.setTop g).pushFrame (.throwing q)) t ∧ Q t
def vx_Run (p : Program) (l : Launch) (e : Env) (R : Room) (s : State) (m : MethodId) (args : Array Value) (below : List Frame) (meth : Method) (c : Code) (H : Heap) (locs : List Loc) (cells slots mc ms : Nat) (g : JFrame) (rest : List Value) (Qa : State → Outcome → State → Prop) (XC : String → State → State → Prop) (free : Addr → Prop) : Prop :=
  ∀ T : State, T.heap = H → Stand p l e R s m args below meth c T locs cells slots →
    (∃ (v : Option Value) (st₀ t T' : State) (L : List Loc), st₀.heap = H ∧ Stand p l e R s m args below meth c T' (locs ++ L) (cells + mc) (slots + ms) ∧ (∀ q ∈ L, free q.base) ∧ T'.heap = t.heap ∧ T'.vm = t.vm ∧ Qa st₀ (.returned v) t ∧
      Goes p e below T g T' { g with pc := g.pc + 3, stack := v.toList ++ rest }) ∨
    (∃ (q : Addr) (st₀ t T' : State) (L : List Loc) (E : String) (ce : Cell), st₀.heap = H ∧ Stand p l e R s m args below meth c T' (locs ++ L) (cells + mc) (slots + ms) ∧ (∀ z ∈ L, free z.base) ∧ T'.heap = t.heap ∧ T'.vm = t.vm ∧ XC E st₀ t ∧ t.heap[q]? = some ce ∧ ce.vm = .none ∧ s.vm.findClass E = some ce.cls ∧
      Steps p.tables e below (T.setTop g) ((T'.setTop { g with stack := rest }).pushFrame (.throwing q)))
def vx_X {S : Type} (px : S → Prop) (B : String → S → State → Prop) (A : Nat → Prop) : String → State → State → Prop := fun E st t => ∃ u : S, px u ∧ B E u t ∧ va_F A st t
section Runs
variable {p : Program} {l : Launch} {e : Env} {R : Room} {s : State} {m : MethodId} {args : Array Value} {below : List Frame} {meth : Method} {c : Code} {H : Heap} {locs : List Loc} {cells slots : Nat}
variable {y : MethodName} {bytes cc : ByteArray} {maxL nL mc ms n index : Nat} {ret : Option FieldType} {ws : List Cond} {rm : Room} {Pc : Array Value → State → Prop} {Qc : Array Value → State → Outcome → State → Prop} {XC : String → State → State → Prop} {free : Addr → Prop} {Ts : List Cond} {own C : String} {b : Addr} {As rest : List Value} {g : JFrame}
theorem vx_callBack (cb : CallB R s args own index y bytes maxL ret ws rm mc ms n) (hM : vx_Met l y ws rm Pc Qc XC mc ms free) (hbl : FrameBlind Pc) : vx_Back l R p e below s args y 3 8 (PreOf R mc ms Pc) (PostOf Qc mc ms free) (vx_Post XC mc ms free) := by
  obtain ⟨hrc, hrs, hfr, hlo, hws, hcw, -, hini, -⟩ := cb
  exact vx_back (bytes := bytes) (maxL := maxL) (ret := ret) hM hbl hrc hrs hfr hlo hws hcw (fun a' U hW => word_at hW (Or.inl (by first | rfl | simp [Cond.onTables, Cond.keeps, Cond.steady])) hini)
theorem vx_runV (S : CallFix p m c cc nL s args Ts own) (hM : vx_Met l y ws rm Pc Qc XC mc ms free) (cw : CallW R s args own C index y bytes maxL ret ws rm mc ms n) (hp : PreV s H C b Pc As)
    (hg : g.method = m) (hn : As.length = n) (hsize : g.locals.size = nL) (hstack : g.stack = As.reverse ++ .ref b :: rest) (hW : 2 * g.monitorRoom + (rest.map fun v => v.category).sum ≤ 8) (hdg : decode cc g.pc = .ok (.invokevirtual index, 3)) (hf : cells + mc ≤ R.cells ∧ slots + ms ≤ R.slots) :
    vx_Run p l e R s m args below meth c H locs cells slots mc ms g rest (Qc (Value.ref b :: As).toArray) XC free := by
  have hK : vx_Back l R p e below s args y 3 8 (PreOf R mc ms Pc) (PostOf Qc mc ms free) (vx_Post XC mc ms free) := vx_callBack cw.1 hM hp.1
  obtain ⟨⟨-, -, -, -, -, -, hcode, -, hy, hlen, hl⟩, hin, hse⟩ := cw
  obtain ⟨hx, hb, hml, ho, -⟩ := S
  obtain ⟨-, ⟨cellB, hcB, hoB, hclB⟩, hPc⟩ := hp
  intro T hT X
  rcases vx_callV X hx (C := C) (bytes := bytes) (maxL := maxL) (ret := ret) ho hl hin hse hcode hy hK (by rw [hT]; exact hcB) hoB hclB hg (hsize.trans hml.symm) (argsL := As) (rest := rest) (fun sig h => hn.trans (hlen sig h)) hstack hW (by rw [hb]; exact hdg)
    (fun vm₁ hW₁ => ⟨hf.1, hf.2, hPc (T.setVm vm₁) hT hW₁⟩) with ⟨v, vm₁, ⟨U', l2, c2, s2⟩, hW₁, X', ⟨g', mk, t, L, e1, e2, hq, h1, hL, h2, h3⟩, st⟩ | ⟨q, vm₁, ⟨U', l2, c2, s2⟩, hW₁, X', ⟨g', mk, t, L, E, ce, e1, e2, hq, hce, hcv, hcl, h1, hL, h2, h3⟩, st⟩
  · dsimp only [Pt.U, Pt.locs, Pt.cells, Pt.slots] at X' e1 e2 h1 h2 h3 st
    subst h1; subst h2; subst h3
    exact Or.inl ⟨v, (T.setVm vm₁).calling g' mk (Value.ref b :: As).toArray, t, U', L, hT, X', hL, e1, e2, hq, st⟩
  · dsimp only [Pt.U, Pt.locs, Pt.cells, Pt.slots] at X' e1 e2 h1 h2 h3 st hcl
    subst h1; subst h2; subst h3
    exact Or.inr ⟨q, (T.setVm vm₁).calling g' mk (Value.ref b :: As).toArray, t, U', L, E, ce, hT, X', hL, e1, e2, hq, hce, hcv, vx_cls hW₁ hcl, st⟩
theorem vx_runS (S : CallFix p m c cc nL s args Ts own) (hM : vx_Met l y ws rm Pc Qc XC mc ms free) (cw : CallB R s args own index y bytes maxL ret ws rm mc ms n ∧ (Cond.static y).before args s = true) (hp : PreS s H Pc As)
    (hg : g.method = m) (hn : As.length = n) (hsize : g.locals.size = nL) (hstack : g.stack = As.reverse ++ rest) (hW : 2 * g.monitorRoom + (rest.map fun v => v.category).sum ≤ 8) (hdg : decode cc g.pc = .ok (.invokestatic index, 3)) (hf : cells + mc ≤ R.cells ∧ slots + ms ≤ R.slots) :
    vx_Run p l e R s m args below meth c H locs cells slots mc ms g rest (Qc As.toArray) XC free := by
  have hK : vx_Back l R p e below s args y 3 8 (PreOf R mc ms Pc) (PostOf Qc mc ms free) (vx_Post XC mc ms free) := vx_callBack cw.1 hM hp.1
  obtain ⟨⟨-, -, -, -, -, -, hcode, hini, hy, hlen, hl⟩, hstt⟩ := cw
  obtain ⟨hx, hb, hml, ho, -⟩ := S
  intro T hT X
  rcases vx_callS X hx (bytes := bytes) (maxL := maxL) (ret := ret) ho hl hstt hini hcode hy hK hg (hsize.trans hml.symm) (argsL := As) (rest := rest) (fun sig h => hn.trans (hlen sig h)) hstack hW (by rw [hb]; exact hdg)
    (fun vm₁ hW₁ => ⟨hf.1, hf.2, hp.2 (T.setVm vm₁) hT hW₁⟩) with ⟨v, vm₁, ⟨U', l2, c2, s2⟩, hW₁, X', ⟨g', mk, t, L, e1, e2, hq, h1, hL, h2, h3⟩, st⟩ | ⟨q, vm₁, ⟨U', l2, c2, s2⟩, hW₁, X', ⟨g', mk, t, L, E, ce, e1, e2, hq, hce, hcv, hcl, h1, hL, h2, h3⟩, st⟩
  · dsimp only [Pt.U, Pt.locs, Pt.cells, Pt.slots] at X' e1 e2 h1 h2 h3 st
    subst h1; subst h2; subst h3
    exact Or.inl ⟨v, (T.setVm vm₁).calling g' mk As.toArray, t, U', L, hT, X', hL, e1, e2, hq, st⟩
  · dsimp only [Pt.U, Pt.locs, Pt.cells, Pt.slots] at X' e1 e2 h1 h2 h3 st hcl
    subst h1; subst h2; subst h3
    exact Or.inr ⟨q, (T.setVm vm₁).calling g' mk As.toArray, t, U', L, E, ce, hT, X', hL, e1, e2, hq, hce, hcv, vx_cls hW₁ hcl, st⟩
end Runs
section Rows
variable {p : Program} {l : Launch} {e : Env} {R : Room} {s : State} {m : MethodId} {args : Array Value} {below : List Frame} {meth : Method} {c : Code} {H : Heap} {locs : List Loc} {cells slots : Nat} {Q : State → Prop}
variable {mc ms : Nat} {free : Addr → Prop} {A0 A1 : Nat → Prop} {H0 : Heap} {a : Array Value} {pc : Nat} {ls : Array Slot} {st0 rest : List Value}
theorem vx_keep {st₀ t T' : State} {L : List Loc} (h0 : st₀.heap = H) (e1 : T'.heap = t.heap) (hS : va_S A0 H0 H locs) (hA : ∀ q, q < H.size → A1 q → A0 q) (hf : ∀ q, free q → A0 q) (hL : ∀ q ∈ L, free q.base) (hF : va_F A1 st₀ t) :
    H.size ≤ T'.heap.size ∧ (∀ q : Nat, q < H.size → ¬ A1 q → T'.heap[q]? = H[q]?) ∧ va_S A0 H0 T'.heap (locs ++ L) := by
  obtain ⟨hz, hk⟩ := hF
  rw [h0] at hz hk
  exact ⟨by rw [e1]; exact hz, fun q h1 h2 => by rw [e1]; exact hk q h1 h2,
    ⟨Nat.le_trans hS.1 (by rw [e1]; exact hz), fun q h1 h2 => by rw [e1, hk q (Nat.lt_of_lt_of_le h1 hS.1) (fun z => h2 (hA q (Nat.lt_of_lt_of_le h1 hS.1) z))]; exact hS.2.1 q h1 h2, fun q hq => by
      rcases List.mem_append.mp hq with h | h
      · exact hS.2.2 q h
      · exact hf _ (hL q h)⟩⟩
theorem vx_calli {S SX : Type} {post : Int32 → S → Prop} {px : SX → Prop} {B : S → State → Prop} {BX : String → SX → State → Prop} {AX : Nat → Prop} (hr : vx_Run p l e R s m args below meth c H locs cells slots mc ms (F0 m pc ls st0) rest (va_Qi post B A1 a) (vx_X px BX AX) free) (hS : va_S A0 H0 H locs) (hA : ∀ q, q < H.size → A1 q → A0 q) (hf : ∀ q, free q → A0 q) (hAX : ∀ q, q < H.size → AX q → A0 q)
    (kx : ∀ (E : String) (ce : Cell) (q9 : Addr) (u : SX) (t : State) (H1 : Heap) (locs1 : List Loc), t.heap = H1 → s.vm.Alike t.vm → px u → BX E u t → H.size ≤ H1.size → (∀ q : Nat, q < H.size → ¬ AX q → H1[q]? = H[q]?) → va_S A0 H0 H1 locs1 → H1[q9]? = some ce → ce.vm = .none → s.vm.findClass E = some ce.cls → vx_W p l e R s m args below meth c H1 locs1 (cells + mc) (slots + ms) Q (F0 m pc ls rest) q9)
    (kk : ∀ (r : Int32) (u : S) (t : State) (H1 : Heap) (locs1 : List Loc), t.heap = H1 → s.vm.Alike t.vm → post r u → B u t → H.size ≤ H1.size → (∀ q : Nat, q < H.size → ¬ A1 q → H1[q]? = H[q]?) → va_S A0 H0 H1 locs1 → W p l e R s m args below meth c H1 locs1 (cells + mc) (slots + ms) Q (F0 m (pc + 3) ls (.int r :: rest))) : W p l e R s m args below meth c H locs cells slots Q (F0 m pc ls st0) := by
  intro T hT X
  rcases hr T hT X with ⟨v, st₀, t, T', L, h0, X', hL, e1, e2, ⟨⟨r, u, hv, hp, hb⟩, hF⟩, st⟩ | ⟨q, st₀, t, T', L, E, ce, h0, X', hL, e1, e2, ⟨u, hp, hb, hF⟩, hce, hcv, hcl, st⟩
  · cases hv
    obtain ⟨k1, k2, k3⟩ := vx_keep h0 e1 hS hA hf hL hF
    obtain ⟨t2, a1, b1⟩ := kk r u t T'.heap (locs ++ L) e1.symm (by rw [← e2]; exact X'.warmed.alike) hp hb k1 k2 k3 T' rfl X'
    exact ⟨t2, st t2 a1, b1⟩
  · obtain ⟨k1, k2, k3⟩ := vx_keep h0 e1 hS hAX hf hL hF
    obtain ⟨t2, a1, b1⟩ := kx E ce q u t T'.heap (locs ++ L) e1.symm (by rw [← e2]; exact X'.warmed.alike) hp hb k1 k2 k3 (by rw [e1]; exact hce) hcv hcl T' rfl X'
    exact ⟨t2, st.trans a1, b1⟩
theorem vx_calll {S SX : Type} {post : Int64 → S → Prop} {px : SX → Prop} {B : S → State → Prop} {BX : String → SX → State → Prop} {AX : Nat → Prop} (hr : vx_Run p l e R s m args below meth c H locs cells slots mc ms (F0 m pc ls st0) rest (va_Ql post B A1 a) (vx_X px BX AX) free) (hS : va_S A0 H0 H locs) (hA : ∀ q, q < H.size → A1 q → A0 q) (hf : ∀ q, free q → A0 q) (hAX : ∀ q, q < H.size → AX q → A0 q)
    (kx : ∀ (E : String) (ce : Cell) (q9 : Addr) (u : SX) (t : State) (H1 : Heap) (locs1 : List Loc), t.heap = H1 → s.vm.Alike t.vm → px u → BX E u t → H.size ≤ H1.size → (∀ q : Nat, q < H.size → ¬ AX q → H1[q]? = H[q]?) → va_S A0 H0 H1 locs1 → H1[q9]? = some ce → ce.vm = .none → s.vm.findClass E = some ce.cls → vx_W p l e R s m args below meth c H1 locs1 (cells + mc) (slots + ms) Q (F0 m pc ls rest) q9)
    (kk : ∀ (r : Int64) (u : S) (t : State) (H1 : Heap) (locs1 : List Loc), t.heap = H1 → s.vm.Alike t.vm → post r u → B u t → H.size ≤ H1.size → (∀ q : Nat, q < H.size → ¬ A1 q → H1[q]? = H[q]?) → va_S A0 H0 H1 locs1 → W p l e R s m args below meth c H1 locs1 (cells + mc) (slots + ms) Q (F0 m (pc + 3) ls (.long r :: rest))) : W p l e R s m args below meth c H locs cells slots Q (F0 m pc ls st0) := by
  intro T hT X
  rcases hr T hT X with ⟨v, st₀, t, T', L, h0, X', hL, e1, e2, ⟨⟨r, u, hv, hp, hb⟩, hF⟩, st⟩ | ⟨q, st₀, t, T', L, E, ce, h0, X', hL, e1, e2, ⟨u, hp, hb, hF⟩, hce, hcv, hcl, st⟩
  · cases hv
    obtain ⟨k1, k2, k3⟩ := vx_keep h0 e1 hS hA hf hL hF
    obtain ⟨t2, a1, b1⟩ := kk r u t T'.heap (locs ++ L) e1.symm (by rw [← e2]; exact X'.warmed.alike) hp hb k1 k2 k3 T' rfl X'
    exact ⟨t2, st t2 a1, b1⟩
  · obtain ⟨k1, k2, k3⟩ := vx_keep h0 e1 hS hAX hf hL hF
    obtain ⟨t2, a1, b1⟩ := kx E ce q u t T'.heap (locs ++ L) e1.symm (by rw [← e2]; exact X'.warmed.alike) hp hb k1 k2 k3 (by rw [e1]; exact hce) hcv hcl T' rfl X'
    exact ⟨t2, st.trans a1, b1⟩
theorem vx_callf {S SX : Type} {post : UInt32 → S → Prop} {px : SX → Prop} {B : S → State → Prop} {BX : String → SX → State → Prop} {AX : Nat → Prop} (hr : vx_Run p l e R s m args below meth c H locs cells slots mc ms (F0 m pc ls st0) rest (va_Qf post B A1 a) (vx_X px BX AX) free) (hS : va_S A0 H0 H locs) (hA : ∀ q, q < H.size → A1 q → A0 q) (hf : ∀ q, free q → A0 q) (hAX : ∀ q, q < H.size → AX q → A0 q)
    (kx : ∀ (E : String) (ce : Cell) (q9 : Addr) (u : SX) (t : State) (H1 : Heap) (locs1 : List Loc), t.heap = H1 → s.vm.Alike t.vm → px u → BX E u t → H.size ≤ H1.size → (∀ q : Nat, q < H.size → ¬ AX q → H1[q]? = H[q]?) → va_S A0 H0 H1 locs1 → H1[q9]? = some ce → ce.vm = .none → s.vm.findClass E = some ce.cls → vx_W p l e R s m args below meth c H1 locs1 (cells + mc) (slots + ms) Q (F0 m pc ls rest) q9)
    (kk : ∀ (r : UInt32) (u : S) (t : State) (H1 : Heap) (locs1 : List Loc), t.heap = H1 → s.vm.Alike t.vm → post r u → B u t → H.size ≤ H1.size → (∀ q : Nat, q < H.size → ¬ A1 q → H1[q]? = H[q]?) → va_S A0 H0 H1 locs1 → W p l e R s m args below meth c H1 locs1 (cells + mc) (slots + ms) Q (F0 m (pc + 3) ls (.float r :: rest))) : W p l e R s m args below meth c H locs cells slots Q (F0 m pc ls st0) := by
  intro T hT X
  rcases hr T hT X with ⟨v, st₀, t, T', L, h0, X', hL, e1, e2, ⟨⟨r, u, hv, hp, hb⟩, hF⟩, st⟩ | ⟨q, st₀, t, T', L, E, ce, h0, X', hL, e1, e2, ⟨u, hp, hb, hF⟩, hce, hcv, hcl, st⟩
  · cases hv
    obtain ⟨k1, k2, k3⟩ := vx_keep h0 e1 hS hA hf hL hF
    obtain ⟨t2, a1, b1⟩ := kk r u t T'.heap (locs ++ L) e1.symm (by rw [← e2]; exact X'.warmed.alike) hp hb k1 k2 k3 T' rfl X'
    exact ⟨t2, st t2 a1, b1⟩
  · obtain ⟨k1, k2, k3⟩ := vx_keep h0 e1 hS hAX hf hL hF
    obtain ⟨t2, a1, b1⟩ := kx E ce q u t T'.heap (locs ++ L) e1.symm (by rw [← e2]; exact X'.warmed.alike) hp hb k1 k2 k3 (by rw [e1]; exact hce) hcv hcl T' rfl X'
    exact ⟨t2, st.trans a1, b1⟩
theorem vx_calld {S SX : Type} {post : UInt64 → S → Prop} {px : SX → Prop} {B : S → State → Prop} {BX : String → SX → State → Prop} {AX : Nat → Prop} (hr : vx_Run p l e R s m args below meth c H locs cells slots mc ms (F0 m pc ls st0) rest (va_Qd post B A1 a) (vx_X px BX AX) free) (hS : va_S A0 H0 H locs) (hA : ∀ q, q < H.size → A1 q → A0 q) (hf : ∀ q, free q → A0 q) (hAX : ∀ q, q < H.size → AX q → A0 q)
    (kx : ∀ (E : String) (ce : Cell) (q9 : Addr) (u : SX) (t : State) (H1 : Heap) (locs1 : List Loc), t.heap = H1 → s.vm.Alike t.vm → px u → BX E u t → H.size ≤ H1.size → (∀ q : Nat, q < H.size → ¬ AX q → H1[q]? = H[q]?) → va_S A0 H0 H1 locs1 → H1[q9]? = some ce → ce.vm = .none → s.vm.findClass E = some ce.cls → vx_W p l e R s m args below meth c H1 locs1 (cells + mc) (slots + ms) Q (F0 m pc ls rest) q9)
    (kk : ∀ (r : UInt64) (u : S) (t : State) (H1 : Heap) (locs1 : List Loc), t.heap = H1 → s.vm.Alike t.vm → post r u → B u t → H.size ≤ H1.size → (∀ q : Nat, q < H.size → ¬ A1 q → H1[q]? = H[q]?) → va_S A0 H0 H1 locs1 → W p l e R s m args below meth c H1 locs1 (cells + mc) (slots + ms) Q (F0 m (pc + 3) ls (.double r :: rest))) : W p l e R s m args below meth c H locs cells slots Q (F0 m pc ls st0) := by
  intro T hT X
  rcases hr T hT X with ⟨v, st₀, t, T', L, h0, X', hL, e1, e2, ⟨⟨r, u, hv, hp, hb⟩, hF⟩, st⟩ | ⟨q, st₀, t, T', L, E, ce, h0, X', hL, e1, e2, ⟨u, hp, hb, hF⟩, hce, hcv, hcl, st⟩
  · cases hv
    obtain ⟨k1, k2, k3⟩ := vx_keep h0 e1 hS hA hf hL hF
    obtain ⟨t2, a1, b1⟩ := kk r u t T'.heap (locs ++ L) e1.symm (by rw [← e2]; exact X'.warmed.alike) hp hb k1 k2 k3 T' rfl X'
    exact ⟨t2, st t2 a1, b1⟩
  · obtain ⟨k1, k2, k3⟩ := vx_keep h0 e1 hS hAX hf hL hF
    obtain ⟨t2, a1, b1⟩ := kx E ce q u t T'.heap (locs ++ L) e1.symm (by rw [← e2]; exact X'.warmed.alike) hp hb k1 k2 k3 (by rw [e1]; exact hce) hcv hcl T' rfl X'
    exact ⟨t2, st.trans a1, b1⟩
theorem vx_callv {S SX : Type} {post : S → Prop} {px : SX → Prop} {B : S → State → Prop} {BX : String → SX → State → Prop} {AX : Nat → Prop} (hr : vx_Run p l e R s m args below meth c H locs cells slots mc ms (F0 m pc ls st0) rest (va_Qv post B A1 a) (vx_X px BX AX) free) (hS : va_S A0 H0 H locs) (hA : ∀ q, q < H.size → A1 q → A0 q) (hf : ∀ q, free q → A0 q) (hAX : ∀ q, q < H.size → AX q → A0 q)
    (kx : ∀ (E : String) (ce : Cell) (q9 : Addr) (u : SX) (t : State) (H1 : Heap) (locs1 : List Loc), t.heap = H1 → s.vm.Alike t.vm → px u → BX E u t → H.size ≤ H1.size → (∀ q : Nat, q < H.size → ¬ AX q → H1[q]? = H[q]?) → va_S A0 H0 H1 locs1 → H1[q9]? = some ce → ce.vm = .none → s.vm.findClass E = some ce.cls → vx_W p l e R s m args below meth c H1 locs1 (cells + mc) (slots + ms) Q (F0 m pc ls rest) q9)
    (kk : ∀ (u : S) (t : State) (H1 : Heap) (locs1 : List Loc), t.heap = H1 → s.vm.Alike t.vm → post u → B u t → H.size ≤ H1.size → (∀ q : Nat, q < H.size → ¬ A1 q → H1[q]? = H[q]?) → va_S A0 H0 H1 locs1 → W p l e R s m args below meth c H1 locs1 (cells + mc) (slots + ms) Q (F0 m (pc + 3) ls (rest))) : W p l e R s m args below meth c H locs cells slots Q (F0 m pc ls st0) := by
  intro T hT X
  rcases hr T hT X with ⟨v, st₀, t, T', L, h0, X', hL, e1, e2, ⟨⟨u, hv, hp, hb⟩, hF⟩, st⟩ | ⟨q, st₀, t, T', L, E, ce, h0, X', hL, e1, e2, ⟨u, hp, hb, hF⟩, hce, hcv, hcl, st⟩
  · cases hv
    obtain ⟨k1, k2, k3⟩ := vx_keep h0 e1 hS hA hf hL hF
    obtain ⟨t2, a1, b1⟩ := kk u t T'.heap (locs ++ L) e1.symm (by rw [← e2]; exact X'.warmed.alike) hp hb k1 k2 k3 T' rfl X'
    exact ⟨t2, st t2 a1, b1⟩
  · obtain ⟨k1, k2, k3⟩ := vx_keep h0 e1 hS hAX hf hL hF
    obtain ⟨t2, a1, b1⟩ := kx E ce q u t T'.heap (locs ++ L) e1.symm (by rw [← e2]; exact X'.warmed.alike) hp hb k1 k2 k3 (by rw [e1]; exact hce) hcv hcl T' rfl X'
    exact ⟨t2, st.trans a1, b1⟩
/-- caught by the row x of this method's table; the rows ahead don't take it -/
theorem vx_catch {own name : String} {E : String} {ce : Cell} {q : Addr} (hown : s.vm.findClass own = some m.cls) (pre : List ExceptionTableEntry) (x : ExceptionTableEntry) (suf : List ExceptionTableEntry) (hsplit : c.exceptionTable.toList = pre ++ x :: suf)
    (hpass : ∀ z ∈ pre, covers z pc = false ∨ (z.catchType ≠ 0 ∧ ∃ nm : String, (Cond.classLink own z.catchType nm).before args s = true ∧ va_Nc E nm s)) (hx : covers x pc = true) (h0 : x.catchType ≠ 0)
    (hlink : (Cond.classLink own x.catchType name).before args s = true) (hcast : (Cond.castable E name).before args s = true) (hcell : H[q]? = some ce) (hv : ce.vm = .none) (hcl : s.vm.findClass E = some ce.cls)
    (kk : W p l e R s m args below meth c H locs cells slots Q (F0 m x.handlerPc ls [.ref q])) : vx_W p l e R s m args below meth c H locs cells slots Q (F0 m pc ls rest) q := by
  intro T hT X
  have hpl : e.platform.magicAccessors = ({} : Platform).magicAccessors := by rw [X.admits.platform]
  obtain ⟨c3, c4, hc3, hc4, hasg⟩ := Cond.castable_spec hcast
  cases Option.some.inj (hc3.symm.trans hcl)
  obtain ⟨c5, hc5, hcl5⟩ := Cond.classLink_spec hown hlink e.platform hpl
  cases Option.some.inj (hc4.symm.trans hc5)
  obtain ⟨vm', X', st⟩ := X.thenCaughtThrough q (g := F0 m pc ls rest) rfl (Steps.refl _) (by rw [hT]; exact hcell) (by rw [hv]; rfl) (by obtain ⟨k9, h9, -⟩ := Vm.findClass_spec hcl; exact ⟨k9, h9⟩) pre x suf hsplit
    (fun z hz => by
      rcases hpass z hz with h | ⟨hz0, nm, hl1, hn1⟩
      · exact Or.inl h
      · obtain ⟨c6, hc6, hcl6⟩ := Cond.classLink_spec hown hl1 e.platform hpl
        obtain ⟨a8, b8, h1, h2, h3⟩ := hn1
        cases Option.some.inj (h1.symm.trans hcl)
        cases Option.some.inj (h2.symm.trans hc6)
        exact Or.inr ⟨hz0, _, hcl6, h3⟩) hx (Or.inr ⟨h0, c4, hcl5, hasg⟩)
  obtain ⟨t, a1, b1⟩ := kk (T.setVm vm') hT X'
  exact ⟨t, st.trans a1, b1⟩
end Rows
section Ends
variable {p : Program} {l : Launch} {e : Env} {R : Room} {s : State} {m : MethodId} {args : Array Value} {below : List Frame} {meth : Method} {c : Code} {H : Heap} {locs : List Loc} {cells slots : Nat} {Q : State → Prop}
variable {mc ms : Nat} {free : Addr → Prop} {A0 A1 : Nat → Prop} {H0 : Heap} {a : Array Value} {ls : Array Slot} {st0 rest : List Value}
variable {Qc : Array Value → State → Outcome → State → Prop} {XC : String → State → State → Prop}
/-- what a body that may throw owes at its end -/
def vx_MQ (below : List Frame) (Qc : Array Value → State → Outcome → State → Prop) (XC : String → State → State → Prop) (a : Array Value) (s : State) (mc ms : Nat) (free : Addr → Prop) : State → Prop := fun t =>
  ∃ o, t.status = .running ∧ Ended t below o ∧ vx_Q Qc XC mc ms free a s o t
theorem vx_ret {g : JFrame} {mc ms : Nat} (k : W p l e R s m args below meth c H locs cells slots (MQ below Qc args s mc ms free) g) : W p l e R s m args below meth c H locs cells slots (vx_MQ below Qc XC args s mc ms free) g := by
  intro T hT X
  obtain ⟨t, a1, o, b1, b2, b3, b4⟩ := k T hT X
  exact ⟨t, a1, o, b1, b2, Or.inl ⟨b3, b4⟩⟩
/-- not caught here: it goes on to the caller -/
theorem vx_widen {g : JFrame} {q : Addr} {k n : Nat} (h1 : cells ≤ k) (h2 : slots ≤ n) (kk : vx_W p l e R s m args below meth c H locs k n Q g q) : vx_W p l e R s m args below meth c H locs cells slots Q g q := fun T hT X => kk T hT (stand_widen X h1 h2)
theorem vx_out {pc : Nat} {E : String} {ce : Cell} {q : Addr} {mc ms : Nat} (hout : ∀ x ∈ c.exceptionTable.toList, covers x pc = false) (hlocks : meth.locks = false) (hcell : H[q]? = some ce) (hv : ce.vm = .none) (hcl : s.vm.findClass E = some ce.cls)
    (hx : ∀ t : State, t.heap = H → s.vm.Alike t.vm → XC E s t) (hf : ∀ z ∈ locs, free z.base) (hc : cells ≤ mc) (hs : slots ≤ ms) :
    vx_W p l e R s m args below meth c H locs cells slots (vx_MQ below Qc XC args s mc ms free) (F0 m pc ls rest) q := by
  intro T hT X
  obtain ⟨st1, hrun, hend, hW, hsm⟩ := X.leaveThrown q (g := F0 m pc ls rest) rfl rfl rfl hout hlocks
  have hcell9 : (T.setFrames (.throwing q :: below)).heap[q]? = some ce := by
    show T.heap[q]? = some ce
    rw [hT]; exact hcell
  exact ⟨_, st1, .threw q, hrun, hend, Or.inr ⟨q, rfl, E, ce, locs, hx _ hT hW.alike, hcell9, hv, hcl, hW, hsm.mono hc hs, hf⟩⟩
theorem vx_frame {U : State} {k n : Nat} (h : s.sameButNew ({ U with vm := s.vm } : State) locs k n) : s.heap.size ≤ U.heap.size ∧ ∀ q : Nat, q < s.heap.size → (∀ z ∈ locs, z.base ≠ q) → U.heap[q]? = s.heap[q]? := by
  obtain ⟨-, h2, -, -, -, h6⟩ := h
  refine ⟨h2, fun q hq hz => ?_⟩
  obtain ⟨c9, e1, e2, e3, e4⟩ := h6 q _ (Array.getElem?_eq_getElem hq)
  have hs : c9.slots = (s.heap[q]).slots := Array.ext_getElem? fun i => e4 i fun hm => hz _ hm rfl
  have h9 : c9 = s.heap[q] := by
    rw [hs] at e2
    exact e2
  have e5 : U.heap[q]? = some c9 := e1
  rw [e5, h9, Array.getElem?_eq_getElem hq]
/-- the words of a throw but the four that speak of the heap -/
def vx_no (w : Cond) : Bool := decide (w ≠ .isRef (.static Bundle.tN "UNASSIGNED_STACK" Bundle.steD)) && decide (w ≠ .isRef (.static Bundle.tN "SUPPRESSED_SENTINEL" Bundle.listD)) && decide (w ≠ .laysStatic Bundle.tN "UNASSIGNED_STACK" Bundle.steD) && decide (w ≠ .laysStatic Bundle.tN "SUPPRESSED_SENTINEL" Bundle.listD)
def vx_at0 (own : String) (ic : Nat) (X : String) (names : List String) : List Cond := (Bundle.ownAtoms0 own ic X names).filter vx_no
def vx_atS (own : String) (ic : Nat) (X : String) (names : List String) : List Cond := (Bundle.ownAtoms own ic X names).filter vx_no
/-- a word that the tables alone decide, or a good one -/
def vx_ot (w : Cond) : Bool := w.onTables || goodWord w
theorem vx_ot_at {args a' : Array Value} {s U : State} {w : Cond} (hW : s.WarmedH U.vm) (hvm : s.vm = U.vm) (hg : vx_ot w = true) (h : w.before args s = true) : w.before a' U = true := by
  simp only [vx_ot, Bool.or_eq_true] at hg
  rcases hg with hg | hg
  · exact va_tabs hg hvm h
  · exact word_at hW (good_of_word hg) h
/-- a list's words: the good ones out of the method's own list, the others by premises of their own -/
theorem vx_hat {args : Array Value} {s : State} {L B : List Cond} (h1 : ∀ w ∈ L.filter goodWord, w.before args s = true) (h2 : ∀ w ∈ L.filter (fun w => !goodWord w), w ∈ B) (h3 : ∀ w ∈ B, w.before args s = true) : ∀ w ∈ L, w.before args s = true := by
  intro w hw
  by_cases g : goodWord w = true
  · exact h1 w (List.mem_filter.mpr ⟨hw, g⟩)
  · refine h3 w (h2 w (List.mem_filter.mpr ⟨hw, ?_⟩))
    show (!goodWord w) = true
    cases hgw : goodWord w
    · rfl
    · exact absurd hgw g
theorem vx_c {args : Array Value} {s : State} {w : Cond} {B : List Cond} (h : w.before args s = true) (t : ∀ w ∈ B, w.before args s = true) : ∀ w' ∈ w :: B, w'.before args s = true := fun w' h' => (List.mem_cons.mp h').elim (fun e => by rw [e]; exact h) (t w')
theorem vx_n {args : Array Value} {s : State} : ∀ w ∈ ([] : List Cond), w.before args s = true := fun _ h => nomatch h
theorem vx_own {args : Array Value} {s : State} {L : List Cond} (h1 : ∀ w ∈ L.filter vx_no, w.before args s = true)
    (hU : (Cond.isRef (.static Bundle.tN "UNASSIGNED_STACK" Bundle.steD)).before args s = true) (hN : (Cond.isRef (.static Bundle.tN "SUPPRESSED_SENTINEL" Bundle.listD)).before args s = true)
    (lU : (Cond.laysStatic Bundle.tN "UNASSIGNED_STACK" Bundle.steD).before args s = true) (lN : (Cond.laysStatic Bundle.tN "SUPPRESSED_SENTINEL" Bundle.listD).before args s = true) : ∀ w ∈ L, w.before args s = true := by
  intro w hw
  by_cases e1 : w = .isRef (.static Bundle.tN "UNASSIGNED_STACK" Bundle.steD)
  · rw [e1]; exact hU
  · by_cases e2 : w = .isRef (.static Bundle.tN "SUPPRESSED_SENTINEL" Bundle.listD)
    · rw [e2]; exact hN
    · by_cases e3 : w = .laysStatic Bundle.tN "UNASSIGNED_STACK" Bundle.steD
      · rw [e3]; exact lU
      · by_cases e4 : w = .laysStatic Bundle.tN "SUPPRESSED_SENTINEL" Bundle.listD
        · rw [e4]; exact lN
        · exact h1 w (List.mem_filter.mpr ⟨hw, by unfold vx_no; rw [decide_eq_true e1, decide_eq_true e2, decide_eq_true e3, decide_eq_true e4]; rfl⟩)
/-- where a static field lies, its class's statics cell in H -/
def vx_L (C n d : String) (A : Nat → Prop) (U : State) (H : Heap) : Prop := ∃ (c : ClassId) (k : Class) (i : Nat) (f : Field) (a : Nat) (cell : Cell), U.vm.findClass C = some c ∧ U.fieldFound? C n d = some (c, k, i, f) ∧ f.isStatic = true ∧ k.statics = some a ∧ H[a]? = some cell ∧ cell.vm.isStatics = true ∧ cell.cls = c ∧ f.slot < cell.slots.size ∧ k.staticTypes[f.slot]? = some f.type ∧ ¬ A a
theorem vx_L.moved {C n d : String} {A : Nat → Prop} {u U : State} {H : Heap} (hvm : u.vm.Alike U.vm) (h : vx_L C n d A u H) : vx_L C n d A U H := by
  obtain ⟨c, k, i, f, a, cell, h1, h2, h3, h4, h5, h6, h7, h8, h9, h10⟩ := h
  obtain ⟨k', hi', he⟩ := State.fieldFound?_setVm hvm h2
  exact ⟨c, k', i, f, a, cell, by rw [hvm.findClass]; exact h1, hi', h3, by rw [he]; exact h4, h5, h6, h7, h8, by rw [he]; exact h9, h10⟩
theorem vx_L.kept {C n d : String} {A : Nat → Prop} {U : State} {H H1 : Heap} (h : vx_L C n d A U H) (hq : ∀ a : Nat, a < H.size → ¬ A a → H1[a]? = H[a]?) : vx_L C n d A U H1 := by
  obtain ⟨c, k, i, f, a, cell, h1, h2, h3, h4, h5, h6, h7, h8, h9, h10⟩ := h
  exact ⟨c, k, i, f, a, cell, h1, h2, h3, h4, by rw [hq a (Array.getElem?_eq_some_iff.mp h5).1 h10]; exact h5, h6, h7, h8, h9, h10⟩
theorem vx_L.narrow {C n d : String} {A B : Nat → Prop} {U : State} {H : Heap} (h : vx_L C n d A U H) (hAB : ∀ q, B q → A q) : vx_L C n d B U H := by
  obtain ⟨c, k, i, f, a, cell, h1, h2, h3, h4, h5, h6, h7, h8, h9, h10⟩ := h
  exact ⟨c, k, i, f, a, cell, h1, h2, h3, h4, h5, h6, h7, h8, h9, fun z => h10 (hAB _ z)⟩
theorem vx_L.word {C n d : String} {A : Nat → Prop} {s : State} {args : Array Value} (h : vx_L C n d A s s.heap) : (Cond.laysStatic C n d).before args s = true := by
  obtain ⟨c, k, i, f, a, cell, h1, h2, h3, h4, h5, h6, h7, h8, h9, -⟩ := h
  show (Cond.laysStatic C n d).holds args s none s [] = true
  exact Cond.laysStatic_of h1 h2 h3 h4 h5 h6 h7 h8 h9
/-- .. and what it holds: null or some reference -/
def vx_Zq (C n d : String) (A : Nat → Prop) (U : State) (H : Heap) : Prop := va_Zq C n d A U H ∧ vx_L C n d A U H
theorem vx_Zq.moved {C n d : String} {A : Nat → Prop} {u U : State} {H : Heap} (hvm : u.vm.Alike U.vm) (h : vx_Zq C n d A u H) : vx_Zq C n d A U H := ⟨va_Zq.moved hvm h.1, vx_L.moved hvm h.2⟩
theorem vx_Zq.kept {C n d : String} {A : Nat → Prop} {U : State} {H H1 : Heap} (h : vx_Zq C n d A U H) (hq : ∀ a : Nat, a < H.size → ¬ A a → H1[a]? = H[a]?) : vx_Zq C n d A U H1 := ⟨va_Zq.kept h.1 hq, vx_L.kept h.2 hq⟩
theorem vx_Zq.narrow {C n d : String} {A B : Nat → Prop} {U : State} {H : Heap} (h : vx_Zq C n d A U H) (hAB : ∀ q, B q → A q) : vx_Zq C n d B U H := ⟨va_Zq.narrow h.1 hAB, vx_L.narrow h.2 hAB⟩
theorem vx_Zqof {args : Array Value} {s : State} {C n d : String} {A : Nat → Prop} (hl : (Cond.laysStatic C n d).before args s = true) (hini : (Cond.initialized C).before args s = true) (h : (Cond.isRef (.static C n d)).before args s = true) (hA : ∀ a : Nat, a < s.heap.size → ¬ A a) : vx_Zq C n d A s s.heap := by
  refine ⟨va_Zqof hl hini h hA, ?_⟩
  obtain ⟨c, k, i, f, a, cell, h1, h2, h3, h4, h5, h6, h7, h8, h9⟩ := Cond.laysStatic_spec hl
  exact ⟨c, k, i, f, a, cell, h1, h2, h3, h4, h5, h6, h7, h8, h9, hA a (Array.getElem?_eq_some_iff.mp h5).1⟩
theorem vx_isRef {C n d : String} {v : Value} {A : Nat → Prop} {s : State} {args : Array Value} (h : va_Z C n d v A s s.heap) (hv : v.isRef = true) : (Cond.isRef (.static C n d)).before args s = true := by
  obtain ⟨cf, kf, fi, f, a, cell, h1, h2, h3, h4, h5, h6, h7, -⟩ := h
  have he : (Term.static C n d).eval args s none [] s = some v := by
    simp [Term.eval, State.fieldNamed?, h1, h2, h4, h5, h6, h7]
  simp only [Cond.before, Cond.holds, Cond.value, he]
  cases v <;> simp_all [Value.isRef]
theorem vx_isRefq {C n d : String} {A : Nat → Prop} {s : State} {args : Array Value} (h : va_Zq C n d A s s.heap) : (Cond.isRef (.static C n d)).before args s = true := by
  rcases h with h | ⟨t, h⟩
  · exact vx_isRef h rfl
  · exact vx_isRef h rfl
/-- the same frame, seen from here: as if the method were called anew in this heap -/
theorem vx_rebase {T : State} (X : Stand p l e R s m args below meth c T locs cells slots) {R' : Room} (hf : R'.frames ≤ R.frames) (hl : R'.locals ≤ R.locals) (hc : cells + R'.cells ≤ R.cells) (hs : slots + R'.slots ≤ R.slots) :
    Stand p l e R' ((T.setVm s.vm).setFrames (.invoking m args :: below)) m args below meth c T [] 0 0 := by
  have htop : (T.setVm s.vm).topJava?.isSome := X.here.top
  have hF : ((T.setVm s.vm).setFrames (.invoking m args :: below)).frames = .invoking m args :: below := State.frames_setFrames _ (State.cur_lt_of_top htop)
  obtain ⟨g₀, hg0⟩ := Option.isSome_iff_exists.mp htop
  obtain ⟨r, hr⟩ := State.topJava?_eq_some.mp hg0
  have hl9 : e.platform.stackLimits (T.setVm s.vm).me = e.platform.stackLimits s.me := X.limits
  have hb9 : (T.setVm s.vm).me.stackBytes = s.me.stackBytes := X.bytes
  refine ⟨X.admits, X.cas, X.clock, hF, ?_, X.hears, X.method, X.code, X.here, X.tail, X.warmed, ?_, ?_, ?_⟩
  · have h := X.room
    have hU : ((T.setVm s.vm).setFrames (.invoking m args :: below)).localsInUse = s.localsInUse := by
      rw [State.localsInUse_invoking hF (meth := meth) (c := c) X.method X.code, State.localsInUse_invoking X.frames X.method X.code]
    simp only [State.hasRoom, Bool.and_eq_true, decide_eq_true_eq] at h ⊢
    obtain ⟨⟨⟨⟨h1, h2, h3, h4, h5, h6⟩, h7⟩, h8⟩, h9⟩ := h
    rw [X.frames, List.length_cons] at h2 h3
    have q1 := X.heapSize
    have q2 := X.used
    simp only [hF, hU, List.length_cons, State.stackLimits_setFrames, State.stackBytes_setFrames, hl9, hb9]
    refine ⟨⟨⟨⟨by omega, by omega, by omega, by omega, by omega, h6⟩, ?_⟩, ?_⟩, X.book⟩
    · show T.heap.size + R'.cells ≤ e.platform.maxCells
      omega
    · show T.slotsUsed + R'.slots ≤ e.platform.maxSlots
      omega
  · rw [State.stackLimits_setFrames]; rfl
  · rw [State.stackBytes_setFrames]; rfl
  · refine ⟨?_, Nat.le_refl _, Nat.le_refl _, ?_, ?_, fun a c9 h9 => ⟨c9, h9, rfl, rfl, fun _ _ => rfl⟩⟩
    · obtain ⟨t, ht, -⟩ := State.frames_cons hr
      show T.setVm s.vm = { ((T.setVm s.vm).setFrames (.invoking m args :: below)).setFrames (T.setVm s.vm).frames with heap := T.heap, slotsUsed := T.slotsUsed }
      rw [State.setFrames_setFrames, State.setFrames_self ht]
      rfl
    · show T.slotsUsed = T.slotsUsed + ((T.heap.toList.drop T.heap.size).map (·.slots.size)).sum
      rw [List.drop_eq_nil_of_le (Nat.le_of_eq Array.length_toList)]
      rfl
    · show ((T.heap.toList.drop T.heap.size).map (·.slots.size)).sum ≤ 0
      rw [List.drop_eq_nil_of_le (Nat.le_of_eq Array.length_toList)]
      exact Nat.le_refl _
/-- 'throw new E()': new; dup; invokespecial; athrow -/
theorem vx_throw0 {cc : ByteArray} {pc : Nat} (hexec : p.tables.exec = Jvm.exec) (hb : c.code = cc) (hl : l.stackTraces = false) {own cls : String} {names : List String} {ik ic mc ms : Nat} {A : Nat → Prop}
    (hown : s.vm.findClass own = some m.cls) (hcls : Bundle.fit cls = true) (hnames : ∀ n ∈ names, Bundle.fit n = true)
    (hk : (Cond.classLink own ik cls).before args s = true) (hini : (Cond.initialized cls).before args s = true) (hat : ∀ w ∈ vx_at0 own ic cls names, w.before args s = true)
    (hgood : ∀ w ∈ Cond.classLink own ik cls :: Cond.initialized cls :: vx_at0 own ic cls names, vx_ot w = true)
    (hU : vx_Zq Bundle.tN "UNASSIGNED_STACK" Bundle.steD A s s.heap) (hN : vx_Zq Bundle.tN "SUPPRESSED_SENTINEL" Bundle.listD A s s.heap) (hS : va_S A s.heap H locs) (hsize : ls.size = c.maxLocals)
    (d0 : decode cc pc = .ok (.new ik, 3)) (d3 : decode cc (pc + 3) = .ok (.dup, 1)) (d4 : decode cc (pc + 4) = .ok (.invokespecial ic, 3)) (d7 : decode cc (pc + 7) = .ok (.athrow, 1))
    (hout : ∀ x ∈ c.exceptionTable.toList, covers x (pc + 7) = false)
    (hRframes : names.length + 3 < R.frames) (hRlocals : (rest.map fun v => v.category).sum + (13 * (names.length + 1) + 42) ≤ R.locals) (hRcells : cells + 1 ≤ R.cells) (hRslots : slots + 6 ≤ R.slots) (hlocks : meth.locks = false)
    (hx : ∀ t : State, s.vm.Alike t.vm → H.size ≤ t.heap.size → (∀ q : Nat, q < H.size → t.heap[q]? = H[q]?) → XC cls s t)
    (hf : ∀ z ∈ locs, free z.base) (hc : cells + 1 ≤ mc) (hs : slots + 6 ≤ ms) :
    W p l e R s m args below meth c H locs cells slots (vx_MQ below Qc XC args s mc ms free) (F0 m pc ls rest) := by
  intro T hT X
  have htr : e.platform.stackTraces = false := (show e.platform.stackTraces = l.stackTraces by rw [X.admits.platform]).trans hl
  have Y := vx_rebase X (R' := { frames := R.frames, locals := R.locals, cells := 1, slots := 6 }) (Nat.le_refl _) (Nat.le_refl _) hRcells hRslots
  obtain ⟨s', hA⟩ : ∃ z, z = (T.setVm s.vm).setFrames (.invoking m args :: below) := ⟨_, rfl⟩
  rw [← hA] at Y
  have hvm : s'.vm = s.vm := by rw [hA]; rfl
  have hhp : s'.heap = H := by rw [hA]; exact hT
  have hW0 : s.WarmedH s'.vm := by rw [hvm]; exact State.WarmedH.refl s
  have hat' : ∀ w ∈ vx_at0 own ic cls names, w.before args s' = true := fun w hw => vx_ot_at hW0 hvm.symm (hgood w (List.mem_cons_of_mem _ (List.mem_cons_of_mem _ hw))) (hat w hw)
  have hk' : (Cond.classLink own ik cls).before args s' = true := vx_ot_at hW0 hvm.symm (hgood _ List.mem_cons_self) hk
  have hini' : (Cond.initialized cls).before args s' = true := vx_ot_at hW0 hvm.symm (hgood _ (List.mem_cons_of_mem _ List.mem_cons_self)) hini
  have hU' : vx_Zq Bundle.tN "UNASSIGNED_STACK" Bundle.steD A s' s'.heap := by rw [hhp]; exact vx_Zq.moved hW0.alike (hU.kept hS.2.1)
  have hN' : vx_Zq Bundle.tN "SUPPRESSED_SENTINEL" Bundle.listD A s' s'.heap := by rw [hhp]; exact vx_Zq.moved hW0.alike (hN.kept hS.2.1)
  have h : ∀ w ∈ Bundle.ownAtoms0 own ic cls names, w.before args s' = true := vx_own hat' (vx_isRefq hU'.1) (vx_isRefq hN'.1) hU'.2.word hN'.2.word
  have hown' : s'.vm.findClass own = some m.cls := by rw [hvm]; exact hown
  have hins : (Cond.instantiable cls 6).before args s' = true := h _ (by simp [Bundle.ownAtoms0])
  obtain ⟨vm₁, cX, kX, hfX, hkX, -, -, X₁, st1⟩ := Y.newCold hexec (own := own) (C := cls) (index := ik) (n := 6) hown' hk' hins hini'
    (g := F0 m pc ls rest) rfl (by rw [hb]; exact d0) (Nat.le_refl _) (Nat.le_refl _)
  generalize hT1 : (T.setVm vm₁).pushCell { cls := cX, slots := kX.instanceTypes.map defaultValue, vm := .none } = T1 at X₁ st1
  have hcat : (Value.ref T.heap.size).category = 1 := rfl
  have hcellA : T1.heap[T.heap.size]? = some (freshCell cX kX) := by rw [← hT1]; exact State.heap_pushCell_size _ _
  have d3' : decode c.code (pc + 3) = .ok (.dup, 1) := by rw [hb]; exact d3
  obtain ⟨U, hsteps, hrun, hend, hW, hsame, ce, hce, hO⟩ := X₁.ctorThrow0 hexec htr (own := own) (cls := cls) (names := names) (ic := ic) hown' hcls hnames h (fun x hx => nomatch hx) hfX hkX hcellA (by rw [hhp, hT]; exact Nat.le_refl _)
    (g := { method := m, pc := pc + 4, locals := ls, stack := .ref T.heap.size :: .ref T.heap.size :: rest, locked := none }) rfl hsize rfl rfl (rest := rest) rfl
    (by rw [hb]; exact d4) (by rw [hb]; exact d7) hout hRframes (by simp only [List.map_cons, List.sum_cons, hcat]; omega) hlocks
  obtain ⟨f1, f2⟩ := vx_frame hsame
  rw [hhp] at f1 f2
  have hWs : s.WarmedH U.vm := State.WarmedH.trans hW0 hW
  have hcl : s.vm.findClass cls = some ce.cls := by
    have h9 := hO.cls
    rw [hvm] at h9
    exact h9
  have hall : s.sameButNew ({ U with vm := s.vm } : State) locs mc ms := by
    subst hA
    obtain ⟨e1, e2⟩ := hsame
    rw [State.setFrames_setFrames] at e1
    have h2 : (T.setVm s.vm).sameButNew ({ U with vm := s.vm } : State) [] (0 + 1) (0 + 6) := ⟨e1, e2⟩
    have h3 := X.same.trans h2
    rw [List.append_nil] at h3
    exact h3.mono hc hs
  refine ⟨U, ?_, .threw T.heap.size, hrun, hend, Or.inr ⟨T.heap.size, rfl, cls, ce, locs, hx U hWs.alike f1 (fun q hq => f2 q hq (fun z hz => nomatch hz)), hce, hO.vm, hcl, hWs, hall, hf⟩⟩
  refine st1 _ ?_
  show Steps p.tables e below (T1.setTop { method := m, pc := pc + 3, locals := ls, stack := .ref T.heap.size :: rest, locked := none }) _
  jvm_step X₁.here [X₁.here.top, hexec, d3', Value.category]
  exact hsteps
/-- 'throw new E("text")': new; dup; ldc; invokespecial; athrow -/
theorem vx_throwS {cc : ByteArray} {pc : Nat} (hexec : p.tables.exec = Jvm.exec) (hb : c.code = cc) (hl : l.stackTraces = false) {own cls text : String} {names : List String} {ik is ic mc ms sa : Nat} {A : Nat → Prop}
    (hown : s.vm.findClass own = some m.cls) (hcls : Bundle.fit cls = true) (hnames : ∀ n ∈ names, Bundle.fit n = true)
    (hk : (Cond.classLink own ik cls).before args s = true) (hini : (Cond.initialized cls).before args s = true) (hstr : vk_R own is text sa s) (hat : ∀ w ∈ vx_atS own ic cls names, w.before args s = true)
    (hgood : ∀ w ∈ Cond.classLink own ik cls :: Cond.initialized cls :: vx_atS own ic cls names, vx_ot w = true)
    (hU : vx_Zq Bundle.tN "UNASSIGNED_STACK" Bundle.steD A s s.heap) (hN : vx_Zq Bundle.tN "SUPPRESSED_SENTINEL" Bundle.listD A s s.heap) (hS : va_S A s.heap H locs) (hsize : ls.size = c.maxLocals)
    (d0 : decode cc pc = .ok (.new ik, 3)) (d3 : decode cc (pc + 3) = .ok (.dup, 1)) (d4 : decode cc (pc + 4) = .ok (.ldc is, 2)) (d6 : decode cc (pc + 6) = .ok (.invokespecial ic, 3)) (d9 : decode cc (pc + 9) = .ok (.athrow, 1))
    (hout : ∀ x ∈ c.exceptionTable.toList, covers x (pc + 9) = false)
    (hRframes : names.length + 3 < R.frames) (hRlocals : (rest.map fun v => v.category).sum + (13 * (names.length + 1) + 43) ≤ R.locals) (hRcells : cells + 1 ≤ R.cells) (hRslots : slots + 6 ≤ R.slots) (hlocks : meth.locks = false)
    (hx : ∀ t : State, s.vm.Alike t.vm → H.size ≤ t.heap.size → (∀ q : Nat, q < H.size → t.heap[q]? = H[q]?) → XC cls s t)
    (hf : ∀ z ∈ locs, free z.base) (hc : cells + 1 ≤ mc) (hs : slots + 6 ≤ ms) :
    W p l e R s m args below meth c H locs cells slots (vx_MQ below Qc XC args s mc ms free) (F0 m pc ls rest) := by
  intro T hT X
  have htr : e.platform.stackTraces = false := (show e.platform.stackTraces = l.stackTraces by rw [X.admits.platform]).trans hl
  have Y := vx_rebase X (R' := { frames := R.frames, locals := R.locals, cells := 1, slots := 6 }) (Nat.le_refl _) (Nat.le_refl _) hRcells hRslots
  obtain ⟨s', hA⟩ : ∃ z, z = (T.setVm s.vm).setFrames (.invoking m args :: below) := ⟨_, rfl⟩
  rw [← hA] at Y
  have hvm : s'.vm = s.vm := by rw [hA]; rfl
  have hhp : s'.heap = H := by rw [hA]; exact hT
  have hW0 : s.WarmedH s'.vm := by rw [hvm]; exact State.WarmedH.refl s
  have hat' : ∀ w ∈ vx_atS own ic cls names, w.before args s' = true := fun w hw => vx_ot_at hW0 hvm.symm (hgood w (List.mem_cons_of_mem _ (List.mem_cons_of_mem _ hw))) (hat w hw)
  have hk' : (Cond.classLink own ik cls).before args s' = true := vx_ot_at hW0 hvm.symm (hgood _ List.mem_cons_self) hk
  have hini' : (Cond.initialized cls).before args s' = true := vx_ot_at hW0 hvm.symm (hgood _ (List.mem_cons_of_mem _ List.mem_cons_self)) hini
  have hU' : vx_Zq Bundle.tN "UNASSIGNED_STACK" Bundle.steD A s' s'.heap := by rw [hhp]; exact vx_Zq.moved hW0.alike (hU.kept hS.2.1)
  have hN' : vx_Zq Bundle.tN "SUPPRESSED_SENTINEL" Bundle.listD A s' s'.heap := by rw [hhp]; exact vx_Zq.moved hW0.alike (hN.kept hS.2.1)
  have h : ∀ w ∈ Bundle.ownAtoms own ic cls names, w.before args s' = true := vx_own hat' (vx_isRefq hU'.1) (vx_isRefq hN'.1) hU'.2.word hN'.2.word
  have hown' : s'.vm.findClass own = some m.cls := by rw [hvm]; exact hown
  have hins : (Cond.instantiable cls 6).before args s' = true := h _ (by simp [Bundle.ownAtoms])
  obtain ⟨vm₁, cX, kX, hfX, hkX, -, -, X₁, st1⟩ := Y.newCold hexec (own := own) (C := cls) (index := ik) (n := 6) hown' hk' hins hini'
    (g := F0 m pc ls rest) rfl (by rw [hb]; exact d0) (Nat.le_refl _) (Nat.le_refl _)
  generalize hT1 : (T.setVm vm₁).pushCell { cls := cX, slots := kX.instanceTypes.map defaultValue, vm := .none } = T1 at X₁ st1
  have hcat : (Value.ref T.heap.size).category = 1 := rfl
  have hcellA : T1.heap[T.heap.size]? = some (freshCell cX kX) := by rw [← hT1]; exact State.heap_pushCell_size _ _
  have d3' : decode c.code (pc + 3) = .ok (.dup, 1) := by rw [hb]; exact d3
  have d4' : decode c.code (pc + 4) = .ok (.ldc is, 2) := by rw [hb]; exact d4
  have hstr' : vk_R own is text sa s' := vk_R.warm hW0 hstr
  obtain ⟨U, hsteps, hrun, hend, hW, hsame, ce, hce, hO⟩ := X₁.ctorThrowS hexec htr (own := own) (cls := cls) (names := names) (ic := ic) hown' hcls hnames h (fun x hx => nomatch hx) hfX hkX hcellA (by rw [hhp, hT]; exact Nat.le_refl _) (msg := .ref sa) rfl
    (g := { method := m, pc := pc + 6, locals := ls, stack := .ref sa :: .ref T.heap.size :: .ref T.heap.size :: rest, locked := none }) rfl hsize rfl rfl (rest := rest) rfl
    (by rw [hb]; exact d6) (by rw [hb]; exact d9) hout hRframes (by simp only [List.map_cons, List.sum_cons, hcat]; omega) hlocks
  obtain ⟨f1, f2⟩ := vx_frame hsame
  rw [hhp] at f1 f2
  have hWs : s.WarmedH U.vm := State.WarmedH.trans hW0 hW
  have hcl : s.vm.findClass cls = some ce.cls := by
    have h9 := hO.cls
    rw [hvm] at h9
    exact h9
  have hall : s.sameButNew ({ U with vm := s.vm } : State) locs mc ms := by
    subst hA
    obtain ⟨e1, e2⟩ := hsame
    rw [State.setFrames_setFrames] at e1
    have h2 : (T.setVm s.vm).sameButNew ({ U with vm := s.vm } : State) [] (0 + 1) (0 + 6) := ⟨e1, e2⟩
    have h3 := X.same.trans h2
    rw [List.append_nil] at h3
    exact h3.mono hc hs
  refine ⟨U, ?_, .threw T.heap.size, hrun, hend, Or.inr ⟨T.heap.size, rfl, cls, ce, locs, hx U hWs.alike f1 (fun q hq => f2 q hq (fun z hz => nomatch hz)), hce, hO.vm, hcl, hWs, hall, hf⟩⟩
  refine st1 _ ?_
  show Steps p.tables e below (T1.setTop { method := m, pc := pc + 3, locals := ls, stack := .ref T.heap.size :: rest, locked := none }) _
  jvm_step X₁.here [X₁.here.top, hexec, d3', Value.category]
  exact X₁.ldcString hexec (own := own) (text := text) (index := is) (a := sa) hown' hstr'.1 hstr'.2
    (g := { method := m, pc := pc + 4, locals := ls, stack := .ref T.heap.size :: .ref T.heap.size :: rest, locked := none }) rfl d4' _ hsteps
/-- 'throw new E("text")', the text by a wide index -/
theorem vx_throwSW {cc : ByteArray} {pc : Nat} (hexec : p.tables.exec = Jvm.exec) (hb : c.code = cc) (hl : l.stackTraces = false) {own cls text : String} {names : List String} {ik is ic mc ms sa : Nat} {A : Nat → Prop}
    (hown : s.vm.findClass own = some m.cls) (hcls : Bundle.fit cls = true) (hnames : ∀ n ∈ names, Bundle.fit n = true)
    (hk : (Cond.classLink own ik cls).before args s = true) (hini : (Cond.initialized cls).before args s = true) (hstr : vk_R own is text sa s) (hat : ∀ w ∈ vx_atS own ic cls names, w.before args s = true)
    (hgood : ∀ w ∈ Cond.classLink own ik cls :: Cond.initialized cls :: vx_atS own ic cls names, vx_ot w = true)
    (hU : vx_Zq Bundle.tN "UNASSIGNED_STACK" Bundle.steD A s s.heap) (hN : vx_Zq Bundle.tN "SUPPRESSED_SENTINEL" Bundle.listD A s s.heap) (hS : va_S A s.heap H locs) (hsize : ls.size = c.maxLocals)
    (d0 : decode cc pc = .ok (.new ik, 3)) (d3 : decode cc (pc + 3) = .ok (.dup, 1)) (d4 : decode cc (pc + 4) = .ok (.ldc_w is, 3)) (d7 : decode cc (pc + 7) = .ok (.invokespecial ic, 3)) (d10 : decode cc (pc + 10) = .ok (.athrow, 1))
    (hout : ∀ x ∈ c.exceptionTable.toList, covers x (pc + 10) = false)
    (hRframes : names.length + 3 < R.frames) (hRlocals : (rest.map fun v => v.category).sum + (13 * (names.length + 1) + 43) ≤ R.locals) (hRcells : cells + 1 ≤ R.cells) (hRslots : slots + 6 ≤ R.slots) (hlocks : meth.locks = false)
    (hx : ∀ t : State, s.vm.Alike t.vm → H.size ≤ t.heap.size → (∀ q : Nat, q < H.size → t.heap[q]? = H[q]?) → XC cls s t)
    (hf : ∀ z ∈ locs, free z.base) (hc : cells + 1 ≤ mc) (hs : slots + 6 ≤ ms) :
    W p l e R s m args below meth c H locs cells slots (vx_MQ below Qc XC args s mc ms free) (F0 m pc ls rest) := by
  intro T hT X
  have htr : e.platform.stackTraces = false := (show e.platform.stackTraces = l.stackTraces by rw [X.admits.platform]).trans hl
  have Y := vx_rebase X (R' := { frames := R.frames, locals := R.locals, cells := 1, slots := 6 }) (Nat.le_refl _) (Nat.le_refl _) hRcells hRslots
  obtain ⟨s', hA⟩ : ∃ z, z = (T.setVm s.vm).setFrames (.invoking m args :: below) := ⟨_, rfl⟩
  rw [← hA] at Y
  have hvm : s'.vm = s.vm := by rw [hA]; rfl
  have hhp : s'.heap = H := by rw [hA]; exact hT
  have hW0 : s.WarmedH s'.vm := by rw [hvm]; exact State.WarmedH.refl s
  have hat' : ∀ w ∈ vx_atS own ic cls names, w.before args s' = true := fun w hw => vx_ot_at hW0 hvm.symm (hgood w (List.mem_cons_of_mem _ (List.mem_cons_of_mem _ hw))) (hat w hw)
  have hk' : (Cond.classLink own ik cls).before args s' = true := vx_ot_at hW0 hvm.symm (hgood _ List.mem_cons_self) hk
  have hini' : (Cond.initialized cls).before args s' = true := vx_ot_at hW0 hvm.symm (hgood _ (List.mem_cons_of_mem _ List.mem_cons_self)) hini
  have hU' : vx_Zq Bundle.tN "UNASSIGNED_STACK" Bundle.steD A s' s'.heap := by rw [hhp]; exact vx_Zq.moved hW0.alike (hU.kept hS.2.1)
  have hN' : vx_Zq Bundle.tN "SUPPRESSED_SENTINEL" Bundle.listD A s' s'.heap := by rw [hhp]; exact vx_Zq.moved hW0.alike (hN.kept hS.2.1)
  have h : ∀ w ∈ Bundle.ownAtoms own ic cls names, w.before args s' = true := vx_own hat' (vx_isRefq hU'.1) (vx_isRefq hN'.1) hU'.2.word hN'.2.word
  have hown' : s'.vm.findClass own = some m.cls := by rw [hvm]; exact hown
  have hins : (Cond.instantiable cls 6).before args s' = true := h _ (by simp [Bundle.ownAtoms])
  obtain ⟨vm₁, cX, kX, hfX, hkX, -, -, X₁, st1⟩ := Y.newCold hexec (own := own) (C := cls) (index := ik) (n := 6) hown' hk' hins hini'
    (g := F0 m pc ls rest) rfl (by rw [hb]; exact d0) (Nat.le_refl _) (Nat.le_refl _)
  generalize hT1 : (T.setVm vm₁).pushCell { cls := cX, slots := kX.instanceTypes.map defaultValue, vm := .none } = T1 at X₁ st1
  have hcat : (Value.ref T.heap.size).category = 1 := rfl
  have hcellA : T1.heap[T.heap.size]? = some (freshCell cX kX) := by rw [← hT1]; exact State.heap_pushCell_size _ _
  have d3' : decode c.code (pc + 3) = .ok (.dup, 1) := by rw [hb]; exact d3
  have d4' : decode c.code (pc + 4) = .ok (.ldc_w is, 3) := by rw [hb]; exact d4
  have hstr' : vk_R own is text sa s' := vk_R.warm hW0 hstr
  obtain ⟨U, hsteps, hrun, hend, hW, hsame, ce, hce, hO⟩ := X₁.ctorThrowS hexec htr (own := own) (cls := cls) (names := names) (ic := ic) hown' hcls hnames h (fun x hx => nomatch hx) hfX hkX hcellA (by rw [hhp, hT]; exact Nat.le_refl _) (msg := .ref sa) rfl
    (g := { method := m, pc := pc + 7, locals := ls, stack := .ref sa :: .ref T.heap.size :: .ref T.heap.size :: rest, locked := none }) rfl hsize rfl rfl (rest := rest) rfl
    (by rw [hb]; exact d7) (by rw [hb]; exact d10) hout hRframes (by simp only [List.map_cons, List.sum_cons, hcat]; omega) hlocks
  obtain ⟨f1, f2⟩ := vx_frame hsame
  rw [hhp] at f1 f2
  have hWs : s.WarmedH U.vm := State.WarmedH.trans hW0 hW
  have hcl : s.vm.findClass cls = some ce.cls := by
    have h9 := hO.cls
    rw [hvm] at h9
    exact h9
  have hall : s.sameButNew ({ U with vm := s.vm } : State) locs mc ms := by
    subst hA
    obtain ⟨e1, e2⟩ := hsame
    rw [State.setFrames_setFrames] at e1
    have h2 : (T.setVm s.vm).sameButNew ({ U with vm := s.vm } : State) [] (0 + 1) (0 + 6) := ⟨e1, e2⟩
    have h3 := X.same.trans h2
    rw [List.append_nil] at h3
    exact h3.mono hc hs
  refine ⟨U, ?_, .threw T.heap.size, hrun, hend, Or.inr ⟨T.heap.size, rfl, cls, ce, locs, hx U hWs.alike f1 (fun q hq => f2 q hq (fun z hz => nomatch hz)), hce, hO.vm, hcl, hWs, hall, hf⟩⟩
  refine st1 _ ?_
  show Steps p.tables e below (T1.setTop { method := m, pc := pc + 3, locals := ls, stack := .ref T.heap.size :: rest, locked := none }) _
  jvm_step X₁.here [X₁.here.top, hexec, d3', Value.category]
  exact X₁.ldcStringW hexec (own := own) (text := text) (index := is) (a := sa) hown' hstr'.1 hstr'.2
    (g := { method := m, pc := pc + 4, locals := ls, stack := .ref T.heap.size :: .ref T.heap.size :: rest, locked := none }) rfl d4' _ hsteps
end Ends
section Bodies
variable {l : Launch}
theorem vx_ofW {y : MethodName} {ws ws' : List Cond} {rm : Room} {Pc : Array Value → State → Prop} {Qc : Array Value → State → Outcome → State → Prop} {XC : String → State → State → Prop} {mc ms : Nat} {free : Addr → Prop} {cc : ByteArray} {maxL : Nat} {ret : Option FieldType}
    (hy : plainName y.cls = true) (hw : ws = Cond.code y cc maxL ret :: ws')
    (body : ∀ p e s m args below meth c s₁, BodyLoose p l y (headSpec ws rm) cc maxL ret e s m args below meth c s₁ → c.maxLocals = maxL → (∀ x ∈ c.exceptionTable.toList, False) → Pc args s →
      W p l e (headSpec ws rm).room s m args below meth c s.heap [] 0 0 (vx_MQ below Qc XC args s mc ms free) (entryFrame m args maxL)) : vx_Met l y ws rm Pc Qc XC mc ms free := by
  refine MetFree.of_bodyS (code := cc) (maxLocals := maxL) (ret := ret) hy ?_ ?_
  · intro args s m h hn
    obtain ⟨meth, c, h1, h2, h3, h4, h5, h6, -, -⟩ := Cond.code_spec hn (atoms_spec (ws := ws) h _ (by rw [hw]; exact List.mem_cons_self))
    exact ⟨meth, c, h1, h2, h3, h4, h5, h6⟩
  · intro p e s m args below meth c s₁ B hml hP _
    have hh0 : s₁.heap = s.heap := by rw [B.state]; rfl
    have ht : ∀ x ∈ c.exceptionTable.toList, False := by
      obtain ⟨meth9, c9, h1, h2, -, -, -, -, h7, -⟩ := Cond.code_spec B.named (atoms_spec (ws := ws) B.pre _ (by rw [hw]; exact List.mem_cons_self))
      cases Option.some.inj (h1.symm.trans B.method)
      cases Option.some.inj (h2.symm.trans (Stand.of_body B).code)
      intro x hx
      rw [Array.isEmpty_iff.mp h7] at hx
      cases hx
    obtain ⟨t, a1, o, b1, b2, b3⟩ := body p e s m args below meth c s₁ B hml ht hP s₁ hh0 (Stand.of_body B)
    exact ⟨t, o, a1, b1, b2, b3⟩
/-- the table of a body with handlers -/
theorem vx_table {p : Program} {x y : MethodName} {S : Spec} {cc bytes : ByteArray} {maxL maxL' : Nat} {ret ret' : Option FieldType} {e : Env} {s s₁ : State} {m : MethodId} {args : Array Value} {below : List Frame} {meth : Method} {c : Code} {hh : List (Nat × Nat × Nat × Nat)}
    (B : BodyLoose p l y S cc maxL ret e s m args below meth c s₁) (h : (Cond.codeWith y bytes maxL' ret' hh).before args s = true) : c.exceptionTable.toList = tableOf hh := by
  obtain ⟨m9, meth9, c9, hn9, h1, h2, -, -, h6, -⟩ := Cond.codeWith_spec h
  cases Option.some.inj (hn9.symm.trans B.named)
  cases Option.some.inj (h1.symm.trans B.method)
  cases Option.some.inj (h2.symm.trans (Stand.of_body B).code)
  rw [← h6, table_eq]
end Bodies
end VXA
/-! ===== END ===== -/
/-! ===== BEGIN a static call of a method with an exception table ===== -/
section VXS
variable {p : Program} {l : Launch} {e : Env} {R : Room} {s : State} {m : MethodId} {args : Array Value} {below : List Frame} {meth : Method} {c : Code} {T : State} {H : Heap} {locs : List Loc} {cells slots : Nat}
abbrev vx_CSW (R : Room) (s : State) (args : Array Value) (own : String) (index : Nat) (y : MethodName) (bytes : ByteArray) (maxL : Nat) (ret : Option FieldType) (hh : List (Nat × Nat × Nat × Nat)) (ws : List Cond) (rm : Room) (mc ms n : Nat) : Prop :=
  (rm.cells = mc ∧ rm.slots = ms ∧ rm.frames + 1 ≤ R.frames ∧ 8 + (maxL + 11) + rm.locals ≤ R.locals ∧ (∀ w ∈ ws, ∀ (a' : Array Value) (U : State), s.WarmedH U.vm → w.before a' U = true) ∧ Cond.codeWith y bytes maxL ret hh ∈ ws) ∧
  (Cond.codeWith y bytes maxL ret hh).before args s = true ∧ (Cond.initialized y.cls).before args s = true ∧ (y.cls ≠ "java/lang/invoke/MethodHandle" ∧ y.cls ≠ "java/lang/invoke/VarHandle") ∧
  (∀ sig, parseMethodDescriptor y.desc = some sig → n = sig.parameters.length) ∧ (Cond.methodLink own index y).before args s = true ∧ (Cond.static y).before args s = true
theorem vx_cwSW {own : String} {index maxL mc ms : Nat} {y : MethodName} {bytes : ByteArray} {ret : Option FieldType} {hh : List (Nat × Nat × Nat × Nat)} {Ts ws ws' : List Cond} {rm : Room} (n : Nat) (ht : ∀ w ∈ Ts, w.before args s = true) (hT : GoodIn Ts (va_wsS own index y ws)) (hw : ws = Cond.codeWith y bytes maxL ret hh :: ws') (hrc : rm.cells = mc) (hrs : rm.slots = ms)
    (hd : y.cls ≠ "java/lang/invoke/MethodHandle" ∧ y.cls ≠ "java/lang/invoke/VarHandle" ∧ (parseMethodDescriptor y.desc).map (fun d => d.parameters.length) = some n) (hR : rm.frames + 1 ≤ R.frames ∧ 8 + (maxL + 11) + rm.locals ≤ R.locals) :
    vx_CSW R s args own index y bytes maxL ret hh ws rm mc ms n := by
  have ok : ∀ w ∈ va_wsS own index y ws, w.before args s = true := fun w h => ht w (hT w h).1
  have hG : GoodIn Ts ws := fun w h => hT w (by unfold va_wsS; exact List.mem_append_right _ h)
  have hc : Cond.codeWith y bytes maxL ret hh ∈ ws := by rw [hw]; exact List.mem_cons_self
  refine ⟨⟨hrc, hrs, hR.1, hR.2, pay_in ht hG, hc⟩, ht _ (hG _ hc).1, ok _ (by simp [va_wsS]), ⟨hd.1, hd.2.1⟩, fun sig h => ?_, ok _ (by simp [va_wsS]), ok _ (by simp [va_wsS])⟩
  have h2 := hd.2.2
  rw [h] at h2
  exact (Option.some.inj h2).symm
theorem vx_callSW (X : Stand p l e R s m args below meth c T locs cells slots) (hexec : p.tables.exec = Jvm.exec) {own : String} {index : Nat} {y : MethodName} {bytes : ByteArray} {maxL : Nat} {ret : Option FieldType} {hh : List (Nat × Nat × Nat × Nat)}
    (hown : s.vm.findClass own = some m.cls) (hlink : (Cond.methodLink own index y).before args s = true) (hstat : (Cond.static y).before args s = true) (hinit : (Cond.initialized y.cls).before args s = true)
    (hcode : (Cond.codeWith y bytes maxL ret hh).before args s = true) (hy : y.cls ≠ "java/lang/invoke/MethodHandle" ∧ y.cls ≠ "java/lang/invoke/VarHandle")
    {W9 : Nat} {Pre : Pt → Array Value → Prop} {Post : Pt → Array Value → Option Value → Pt → Prop} (hK : Back l R p e below s args y 3 W9 Pre Post)
    {g : JFrame} (hg : g.method = m) (hsize : g.locals.size = c.maxLocals) {argsL rest : List Value} (hlen : ∀ sig, parseMethodDescriptor y.desc = some sig → argsL.length = sig.parameters.length)
    (hstack : g.stack = argsL.reverse ++ rest) (hW : 2 * g.monitorRoom + (rest.map fun v => v.category).sum ≤ W9) (hdg : decode c.code g.pc = .ok (.invokestatic index, 3))
    (hpre : ∀ vm₁, s.WarmedH vm₁ → Pre ⟨T.setVm vm₁, locs, cells, slots⟩ argsL.toArray) :
    ∃ (v : Option Value) (vm₁ : Vm) (B : Pt), s.WarmedH vm₁ ∧ Stand p l e R s m args below meth c B.U B.locs B.cells B.slots ∧ Post ⟨T.setVm vm₁, locs, cells, slots⟩ argsL.toArray v B ∧
      ∀ target, Steps p.tables e below (B.U.setTop { g with pc := g.pc + 3, stack := v.toList ++ rest }) target → Steps p.tables e below (T.setTop g) target := by
  obtain ⟨mk, methM, cM, hnamed, hmethM, -, -, -, -, -, -, hsigM⟩ := Cond.codeWith_spec hcode
  have hstatic : methM.isStatic = true := Cond.static_spec hnamed hmethM hstat
  obtain ⟨kP, hkP, -⟩ := className_of_methodNamed hnamed
  have hinitP : kP.init = .initialized := Cond.initialized_spec (findClass_of_methodNamed hnamed) hkP hinit
  obtain ⟨vm₁, X₁, hstep₁⟩ := X.invokestatic hexec hown hlink hnamed hmethM hstatic hkP hinitP hy (g := g) hg (argsL := argsL) (rest := rest) (hlen _ hsigM) hstack hdg
  obtain ⟨v, B, X', hpost, hsteps⟩ := hK m meth c ⟨T.setVm vm₁, locs, cells, slots⟩ { g with stack := rest } (.invokestatic index) mk argsL.toArray X₁ hg hsize hdg hW (X₁.named hnamed) (hpre vm₁ X₁.warmed)
  exact ⟨v, vm₁, B, X₁.warmed, X', hpost, fun target h => hstep₁ _ fun acts => by rw [doInvoke_state]; exact hsteps.trans h⟩
theorem vx_runSW {y : MethodName} {bytes cc : ByteArray} {maxL nL mc ms n index : Nat} {ret : Option FieldType} {hh : List (Nat × Nat × Nat × Nat)} {ws : List Cond} {rm : Room} {Pc : Array Value → State → Prop} {Qc : Array Value → State → Outcome → State → Prop} {free : Addr → Prop} {Ts : List Cond} {own : String} {As rest : List Value} {g : JFrame}
    (S : CallFix p m c cc nL s args Ts own) (hM : Met l y ws rm Pc Qc mc ms free) (cw : vx_CSW R s args own index y bytes maxL ret hh ws rm mc ms n) (hp : PreS s H Pc As)
    (hg : g.method = m) (hn : As.length = n) (hsize : g.locals.size = nL) (hstack : g.stack = As.reverse ++ rest) (hW : 2 * g.monitorRoom + (rest.map fun v => v.category).sum ≤ 8) (hdg : decode cc g.pc = .ok (.invokestatic index, 3)) (hf : cells + mc ≤ R.cells ∧ slots + ms ≤ R.slots) :
    va_Run p l e R s m args below meth c H locs cells slots mc ms g rest (Qc As.toArray) (free) := by
  obtain ⟨⟨hrc, hrs, hfr, hlo, hws, hcw⟩, hcode, hini, hy, hlen, hl, hstt⟩ := cw
  have hK : Back l R p e below s args y 3 8 (PreOf R mc ms Pc) (PostOf Qc mc ms free) := va_backW (hh := hh) (bytes := bytes) (maxL := maxL) (ret := ret) hM hp.1 hrc hrs hfr hlo hws hcw (fun a' U hW => word_at hW (Or.inl (by first | rfl | simp [Cond.onTables, Cond.keeps, Cond.steady])) hini)
  obtain ⟨hx, hb, hml, ho, -⟩ := S
  intro T hT X
  obtain ⟨v, vm₁, ⟨U', l2, c2, s2⟩, hW₁, X', ⟨g', mk, t, L, e1, e2, hq, h1, hL, h2, h3⟩, st⟩ := vx_callSW X hx (hh := hh) (bytes := bytes) (maxL := maxL) (ret := ret) ho hl hstt hini hcode hy hK hg (hsize.trans hml.symm) (argsL := As) (rest := rest) (fun sig h => hn.trans (hlen sig h)) hstack hW (by rw [hb]; exact hdg)
    (fun vm₁ hW₁ => ⟨hf.1, hf.2, hp.2 (T.setVm vm₁) hT hW₁⟩)
  dsimp only [Pt.U, Pt.locs, Pt.cells, Pt.slots] at X' e1 e2 h1 h2 h3 st
  subst h1; subst h2; subst h3
  exact ⟨v, (T.setVm vm₁).calling g' mk As.toArray, t, U', L, hT, X', hL, e1, e2, hq, st⟩
/-- not caught here, past rows that name other classes: it goes on to the caller -/
theorem vx_outP {p : Program} {l : Launch} {e : Env} {R : Room} {s : State} {m : MethodId} {args : Array Value} {below : List Frame} {meth : Method} {c : Code} {H : Heap} {locs : List Loc} {cells slots : Nat} {free : Addr → Prop} {ls : Array Slot} {rest : List Value} {Qc : Array Value → State → Outcome → State → Prop} {XC : String → State → State → Prop}
    {pc : Nat} {own E : String} {ce : Cell} {q : Addr} {mc ms : Nat} (hown : s.vm.findClass own = some m.cls) (hlocks : meth.locks = false)
    (hpass : ∀ z ∈ c.exceptionTable.toList, covers z pc = false ∨ (z.catchType ≠ 0 ∧ ∃ nm : String, (Cond.classLink own z.catchType nm).before args s = true ∧ va_Nc E nm s)) (hcell : H[q]? = some ce) (hv : ce.vm = .none) (hcl : s.vm.findClass E = some ce.cls)
    (hx : ∀ t : State, t.heap = H → s.vm.Alike t.vm → XC E s t) (hf : ∀ z ∈ locs, free z.base) (hc : cells ≤ mc) (hs : slots ≤ ms) :
    vx_W p l e R s m args below meth c H locs cells slots (vx_MQ below Qc XC args s mc ms free) (F0 m pc ls rest) q := by
  intro T hT X
  have hpl : e.platform.magicAccessors = ({} : Platform).magicAccessors := by rw [X.admits.platform]
  obtain ⟨vm', hW', X', st⟩ := X.outThrough hlocks q (g := F0 m pc ls rest) rfl rfl rfl (cell := ce) (by rw [hT]; exact hcell) (by rw [hv]; rfl)
    (by obtain ⟨k9, h9, -⟩ := Vm.findClass_spec hcl; exact ⟨k9, h9⟩) (fun z hz => by
      rcases hpass z hz with h | ⟨hz0, nm, hl1, hn1⟩
      · exact Or.inl h
      · obtain ⟨c6, hc6, hcl6⟩ := Cond.classLink_spec hown hl1 e.platform hpl
        obtain ⟨a8, b8, h1, h2, h3⟩ := hn1
        cases Option.some.inj (h1.symm.trans hcl)
        cases Option.some.inj (h2.symm.trans hc6)
        exact Or.inr ⟨hz0, _, hcl6, h3⟩)
  obtain ⟨g₀, hfr⟩ := X'.frames_eq
  have hcell9 : ((T.setVm vm').setFrames (.throwing q :: below)).heap[q]? = some ce := by
    show T.heap[q]? = some ce
    rw [hT]; exact hcell
  have hend : Ended ((T.setVm vm').setFrames (.throwing q :: below)) below (.threw q) := State.frames_setFrames _ (State.cur_lt_of_frames hfr)
  refine ⟨(T.setVm vm').setFrames (.throwing q :: below), ?_, .threw q, X'.here.running, hend, Or.inr ⟨q, rfl, E, ce, locs, hx _ hT (X'.ends _).1.alike, hcell9, hv, hcl, (X'.ends _).1, (X'.ends _).2.mono hc hs, hf⟩⟩
  rw [X.pushThrowing_eq]
  exact st
/-- a thing of a world lies in the heap -/
theorem vx_lt {D : va_G} {cl : List vw_C} {ws : va_W} {H1 : Heap} (h : va_P D cl ws H1) {k : Nat} {q : Nat × va_E} (hk : ws[k]? = some q) : q.1 < H1.size := (h k q hk).lt
end VXS
/-! ===== END ===== -/
/-! ===== BEGIN methods with a table of their own: called by a name, returning or throwing ===== -/
section VXH
/-! vx_backW, vx_callVX, vx_callSX, vx_callVW, vx_runVW, vx_runVX, vx_runSX, vx_ofWH follow the same proofs as their sisters above (Free/Laws.lean, Shelf42/LK1.lean); vx_outP calls Shelf42/NT130.lean (outThrough). -/
section
variable {l : Launch} {R : Room} {p : Program} {e : Env} {below : List Frame} {s : State} {sargs : Array Value} {y : MethodName} {len W9 : Nat}
theorem vx_backW {ws : List Cond} {rm : Room} {Pc : Array Value → State → Prop} {Qc : Array Value → State → Outcome → State → Prop} {XC : String → State → State → Prop} {mc ms : Nat} {free : Addr → Prop} {bytes : ByteArray} {maxL : Nat} {ret : Option FieldType} {hh : List (Nat × Nat × Nat × Nat)}
    (hM : vx_Met l y ws rm Pc Qc XC mc ms free) (hblind : FrameBlind Pc) (hrc : rm.cells = mc) (hrs : rm.slots = ms)
    (hframes : rm.frames + 1 ≤ R.frames) (hlocals : W9 + (maxL + 11) + rm.locals ≤ R.locals)
    (hws : ∀ w ∈ ws, ∀ a' U, s.WarmedH U.vm → w.before a' U = true) (hcode : Cond.codeWith y bytes maxL ret hh ∈ ws) (hinit : ∀ a' U, s.WarmedH U.vm → (Cond.initialized y.cls).before a' U = true) :
    vx_Back l R p e below s sargs y len W9 (PreOf R mc ms Pc) (PostOf Qc mc ms free) (vx_Post XC mc ms free) := by
  intro m meth c A g ig mk a X hg hsize hdg hW hn hp
  have h1 : (headSpec ws rm).pre.before a A.U = true := atoms_intro fun w hw => hws w hw _ _ X.warmed
  have h2 : (Cond.codeWith y bytes maxL ret hh).before a A.U = true := hws _ hcode _ _ X.warmed
  have h3 : (Cond.initialized y.cls).before a A.U = true := hinit _ _ X.warmed
  have h4 : A.cells + (headSpec ws rm).room.cells ≤ R.cells := by rw [show (headSpec ws rm).room.cells = mc from hrc]; exact hp.1
  have h5 : A.slots + (headSpec ws rm).room.slots ≤ R.slots := by rw [show (headSpec ws rm).room.slots = ms from hrs]; exact hp.2.1
  have hPc : Pc a (A.U.calling g mk a) := hblind _ _ _ _ hp.2.2
  obtain ⟨U, Ls, c0, s0⟩ := A
  dsimp only [Pt.U, Pt.locs, Pt.cells, Pt.slots] at h1 h2 h3 h4 h5 X hn hPc ⊢
  obtain ⟨m9, methY, cY, hn9, hmY, hcY, -, hlY, -⟩ := Cond.codeWith_spec h2
  cases Option.some.inj (hn9.symm.trans hn)
  obtain ⟨kY, hkY, -⟩ := className_of_methodNamed hn
  have hinitY : kY.init = .initialized := Cond.initialized_spec (findClass_of_methodNamed hn) hkY h3
  have h : At U g.method c below := by rw [hg]; exact X.here
  have hlocals9 : W9 + (maxL + 11) + (headSpec ws rm).room.locals ≤ R.locals := hlocals
  have happ : (headSpec ws rm).appliesLoose y e.platform (U.calling g mk a) = true :=
    Spec.appliesLoose_calling (g := g) h hdg hn hkY hinitY
      (X.room_calling (g := g) (R' := (headSpec ws rm).room) hsize hmY hcY hframes (by rw [hlY]; omega) h4 h5) h1
  obtain ⟨mid, hmid⟩ := h.above
  have hfr : (U.setTop g).frames = (.java g :: mid) ++ below := by rw [State.frames_setTop' g h.top, hmid]; rfl
  obtain ⟨o, s₂, hsteps, -, hend, hq⟩ := Steps.callFree hM p X.admits X.cas X.clock (acts := []) hfr happ hPc trivial
  have hq' : vx_Q Qc XC mc ms free a (U.calling g mk a) o s₂ := hq
  rw [State.frames_setTop' g h.top] at hend
  obtain ⟨g₀, hg0⟩ := Option.isSome_iff_exists.mp h.top
  obtain ⟨r, hr⟩ := State.topJava?_eq_some.mp hg0
  have hr' : (({ U with heap := s₂.heap, slotsUsed := s₂.slotsUsed } : State).setVm s₂.vm).frames = .java g₀ :: r := hr
  rcases hq' with ⟨hqc, L, hfe, hL⟩ | ⟨q, rfl, E, ce, L, hx, hce, hcv, hcl, hW₂, hsm, hL⟩
  · obtain ⟨⟨v, rfl⟩, hW₂, e2, q2, q3, q4, q5, q6⟩ := id hfe
    have e3 : s₂ = ({ (U.calling g mk a).setFrames s₂.frames with heap := s₂.heap, slotsUsed := s₂.slotsUsed } : State).setVm s₂.vm := by
      have : s₂ = ({ s₂ with vm := (U.calling g mk a).vm } : State).setVm s₂.vm := rfl
      rw [e2] at this
      exact this
    obtain ⟨c₂, i₂, len₂, hc₂, hd₂, hf₂⟩ := hend
    have hW' : U.WarmedH s₂.vm := hW₂
    have hcc : c₂ = c := by
      have h1 : s₂.code? g.method = U.code? g.method := by
        rw [State.code?_eq, State.code?_eq, hW'.alike.method?]
      exact Option.some.inj (hc₂.symm.trans (h1.trans h.code))
    subst hcc
    have hlen : len₂ = len := by rw [hdg] at hd₂; cases hd₂; rfl
    subst hlen
    have hs₂ : s₂ = (({ U with heap := s₂.heap, slotsUsed := s₂.slotsUsed } : State).setVm s₂.vm).setTop { g with pc := g.pc + len₂, stack := v.toList ++ g.stack } := by
      refine e3.trans ?_
      rw [hf₂, State.calling_eq h.top, State.setFrames_setFrames, State.setTop_of_frames _ hr', hr]
      rfl
    have hsame : U.sameButNew ({ U with heap := s₂.heap, slotsUsed := s₂.slotsUsed } : State) L mc ms := by
      refine ⟨?_, q2, q3, q4, q5, q6⟩
      obtain ⟨t, ht, -⟩ := State.frames_cons hr
      show ({ U with heap := s₂.heap, slotsUsed := s₂.slotsUsed } : State) = { U.setFrames U.frames with heap := s₂.heap, slotsUsed := s₂.slotsUsed }
      rw [State.setFrames_self ht]
    subst hg
    refine Or.inl ⟨v, ⟨(({ U with heap := s₂.heap, slotsUsed := s₂.slotsUsed } : State).setVm s₂.vm), Ls ++ L, c0 + mc, s0 + ms⟩,
      ⟨X.admits, X.cas, X.clock, X.frames, X.room, X.hears, X.method, X.code, (X.here.setHeapUsed s₂.heap s₂.slotsUsed).setVm hW'.alike, X.tail, State.WarmedH.trans X.warmed hW', X.limits, X.bytes, X.same.trans (hsame.setVm s.vm)⟩,
      ⟨g, mk, s₂, L, rfl, rfl, hqc, rfl, hL, rfl, rfl⟩, ?_⟩
    show Steps p.tables e below _ ((({ U with heap := s₂.heap, slotsUsed := s₂.slotsUsed } : State).setVm s₂.vm).setTop { g with pc := g.pc + len₂, stack := v.toList ++ g.stack })
    rw [← hs₂]
    exact hsteps
  · obtain ⟨e2, q2, q3, q4, q5, q6⟩ := id hsm
    have e3 : s₂ = ({ (U.calling g mk a).setFrames s₂.frames with heap := s₂.heap, slotsUsed := s₂.slotsUsed } : State).setVm s₂.vm := by
      have : s₂ = ({ s₂ with vm := (U.calling g mk a).vm } : State).setVm s₂.vm := rfl
      rw [e2] at this
      exact this
    have hf₂ : s₂.frames = .throwing q :: .java g :: U.frames.tail := hend
    have hW' : U.WarmedH s₂.vm := hW₂
    have hs₂ : s₂ = ((({ U with heap := s₂.heap, slotsUsed := s₂.slotsUsed } : State).setVm s₂.vm).setTop g).pushFrame (.throwing q) := by
      refine e3.trans ?_
      rw [hf₂, State.calling_eq h.top, State.setFrames_setFrames, State.pushFrame, State.frames_setTop _ hr', State.setTop_of_frames _ hr', State.setFrames_setFrames, hr]
      rfl
    have hsame : U.sameButNew ({ U with heap := s₂.heap, slotsUsed := s₂.slotsUsed } : State) L mc ms := by
      refine ⟨?_, q2, q3, q4, q5, q6⟩
      obtain ⟨t, ht, -⟩ := State.frames_cons hr
      show ({ U with heap := s₂.heap, slotsUsed := s₂.slotsUsed } : State) = { U.setFrames U.frames with heap := s₂.heap, slotsUsed := s₂.slotsUsed }
      rw [State.setFrames_self ht]
    subst hg
    refine Or.inr ⟨q, ⟨(({ U with heap := s₂.heap, slotsUsed := s₂.slotsUsed } : State).setVm s₂.vm), Ls ++ L, c0 + mc, s0 + ms⟩,
      ⟨X.admits, X.cas, X.clock, X.frames, X.room, X.hears, X.method, X.code, (X.here.setHeapUsed s₂.heap s₂.slotsUsed).setVm hW'.alike, X.tail, State.WarmedH.trans X.warmed hW', X.limits, X.bytes, X.same.trans (hsame.setVm s.vm)⟩,
      ⟨g, mk, s₂, L, E, ce, rfl, rfl, hx, hce, hcv, hcl, rfl, hL, rfl, rfl⟩, ?_⟩
    show Steps p.tables e below _ (((({ U with heap := s₂.heap, slotsUsed := s₂.slotsUsed } : State).setVm s₂.vm).setTop g).pushFrame (.throwing q))
    rw [← hs₂]
    exact hsteps
end
variable {p : Program} {l : Launch} {e : Env} {R : Room} {s : State} {m : MethodId} {args : Array Value} {below : List Frame} {meth : Method} {c : Code} {T : State} {H : Heap} {locs : List Loc} {cells slots : Nat}
theorem vx_callVX (X : Stand p l e R s m args below meth c T locs cells slots) (hexec : p.tables.exec = Jvm.exec) {own C : String} {index : Nat} {y : MethodName} {bytes : ByteArray} {maxL : Nat} {ret : Option FieldType} {hh : List (Nat × Nat × Nat × Nat)}
    (hown : s.vm.findClass own = some m.cls) (hlink : (Cond.methodLink own index y).before args s = true) (hinst : (Cond.instanceMethod y).before args s = true) (hsel : (Cond.selects C y y).before args s = true)
    (hcode : (Cond.codeWith y bytes maxL ret hh).before args s = true) (hy : y.cls ≠ "java/lang/invoke/MethodHandle" ∧ y.cls ≠ "java/lang/invoke/VarHandle")
    {W9 : Nat} {Pre : Pt → Array Value → Prop} {Post : Pt → Array Value → Option Value → Pt → Prop} {PostX : Pt → Array Value → Addr → Pt → Prop} (hK : vx_Back l R p e below s args y 3 W9 Pre Post PostX)
    {b : Addr} {cellB : Cell} (hcell : T.heap[b]? = some cellB) (hobj : cellB.vm.isStatics = false) (hcls : s.vm.findClass C = some cellB.cls)
    {g : JFrame} (hg : g.method = m) (hsize : g.locals.size = c.maxLocals) {argsL rest : List Value} (hlen : ∀ sig, parseMethodDescriptor y.desc = some sig → argsL.length = sig.parameters.length)
    (hstack : g.stack = argsL.reverse ++ .ref b :: rest) (hW : 2 * g.monitorRoom + (rest.map fun v => v.category).sum ≤ W9) (hdg : decode c.code g.pc = .ok (.invokevirtual index, 3))
    (hpre : ∀ vm₁, s.WarmedH vm₁ → Pre ⟨T.setVm vm₁, locs, cells, slots⟩ (Value.ref b :: argsL).toArray) :
    (∃ (v : Option Value) (vm₁ : Vm) (B : Pt), s.WarmedH vm₁ ∧ Stand p l e R s m args below meth c B.U B.locs B.cells B.slots ∧ Post ⟨T.setVm vm₁, locs, cells, slots⟩ (Value.ref b :: argsL).toArray v B ∧
      ∀ target, Steps p.tables e below (B.U.setTop { g with pc := g.pc + 3, stack := v.toList ++ rest }) target → Steps p.tables e below (T.setTop g) target) ∨
    (∃ (q : Addr) (vm₁ : Vm) (B : Pt), s.WarmedH vm₁ ∧ Stand p l e R s m args below meth c B.U B.locs B.cells B.slots ∧ PostX ⟨T.setVm vm₁, locs, cells, slots⟩ (Value.ref b :: argsL).toArray q B ∧
      Steps p.tables e below (T.setTop g) ((B.U.setTop { g with stack := rest }).pushFrame (.throwing q))) := by
  obtain ⟨mk, methM, hnamed, hmethM, hstM, habM⟩ := Cond.instanceMethod_spec hinst
  obtain ⟨m8, methM', cM, hn8, hmethM', -, -, -, -, -, -, hsigM⟩ := Cond.codeWith_spec hcode
  cases Option.some.inj (hn8.symm.trans hnamed)
  cases hmethM.symm.trans hmethM'
  obtain ⟨c2, r2, m2, q1, q2, q3, q4, kP, hkP, hkPi⟩ := Cond.selects_spec hsel
  cases hcls.symm.trans q1
  cases (State.methodFound?_of_named hnamed hy).symm.trans q2
  cases hnamed.symm.trans q3
  have hselP : selectMethod e.platform s.vm cellB.cls mk = .method mk := by rw [Launch.admits_selectMethod X.admits]; exact q4
  obtain ⟨vm₁, X₁, hstep₁⟩ := X.invokevirtual hexec hown hlink hnamed hmethM hstM hkP hkPi hy (a := b) (cell := cellB) hcell
    (fun z h => by rw [h] at hobj; cases hobj) hselP hmethM habM hkP hkPi (g := g) hg (argsL := argsL) (rest := rest) (hlen _ hsigM) hstack hdg
  rcases hK m meth c ⟨T.setVm vm₁, locs, cells, slots⟩ { g with stack := rest } (.invokevirtual index) mk (Value.ref b :: argsL).toArray X₁ hg hsize hdg hW (X₁.named hnamed) (hpre vm₁ X₁.warmed) with ⟨v, B, X', hpost, hsteps⟩ | ⟨q, B, X', hpost, hsteps⟩
  · exact Or.inl ⟨v, vm₁, B, X₁.warmed, X', hpost, fun target h => hstep₁ _ fun acts => by rw [doInvoke_state]; exact hsteps.trans h⟩
  · exact Or.inr ⟨q, vm₁, B, X₁.warmed, X', hpost, hstep₁ _ fun acts => by rw [doInvoke_state]; exact hsteps⟩
theorem vx_callSX (X : Stand p l e R s m args below meth c T locs cells slots) (hexec : p.tables.exec = Jvm.exec) {own : String} {index : Nat} {y : MethodName} {bytes : ByteArray} {maxL : Nat} {ret : Option FieldType} {hh : List (Nat × Nat × Nat × Nat)}
    (hown : s.vm.findClass own = some m.cls) (hlink : (Cond.methodLink own index y).before args s = true) (hstat : (Cond.static y).before args s = true) (hinit : (Cond.initialized y.cls).before args s = true)
    (hcode : (Cond.codeWith y bytes maxL ret hh).before args s = true) (hy : y.cls ≠ "java/lang/invoke/MethodHandle" ∧ y.cls ≠ "java/lang/invoke/VarHandle")
    {W9 : Nat} {Pre : Pt → Array Value → Prop} {Post : Pt → Array Value → Option Value → Pt → Prop} {PostX : Pt → Array Value → Addr → Pt → Prop} (hK : vx_Back l R p e below s args y 3 W9 Pre Post PostX)
    {g : JFrame} (hg : g.method = m) (hsize : g.locals.size = c.maxLocals) {argsL rest : List Value} (hlen : ∀ sig, parseMethodDescriptor y.desc = some sig → argsL.length = sig.parameters.length)
    (hstack : g.stack = argsL.reverse ++ rest) (hW : 2 * g.monitorRoom + (rest.map fun v => v.category).sum ≤ W9) (hdg : decode c.code g.pc = .ok (.invokestatic index, 3))
    (hpre : ∀ vm₁, s.WarmedH vm₁ → Pre ⟨T.setVm vm₁, locs, cells, slots⟩ argsL.toArray) :
    (∃ (v : Option Value) (vm₁ : Vm) (B : Pt), s.WarmedH vm₁ ∧ Stand p l e R s m args below meth c B.U B.locs B.cells B.slots ∧ Post ⟨T.setVm vm₁, locs, cells, slots⟩ argsL.toArray v B ∧
      ∀ target, Steps p.tables e below (B.U.setTop { g with pc := g.pc + 3, stack := v.toList ++ rest }) target → Steps p.tables e below (T.setTop g) target) ∨
    (∃ (q : Addr) (vm₁ : Vm) (B : Pt), s.WarmedH vm₁ ∧ Stand p l e R s m args below meth c B.U B.locs B.cells B.slots ∧ PostX ⟨T.setVm vm₁, locs, cells, slots⟩ argsL.toArray q B ∧
      Steps p.tables e below (T.setTop g) ((B.U.setTop { g with stack := rest }).pushFrame (.throwing q))) := by
  obtain ⟨mk, methM, cM, hnamed, hmethM, -, -, -, -, -, -, hsigM⟩ := Cond.codeWith_spec hcode
  have hstatic : methM.isStatic = true := Cond.static_spec hnamed hmethM hstat
  obtain ⟨kP, hkP, -⟩ := className_of_methodNamed hnamed
  have hinitP : kP.init = .initialized := Cond.initialized_spec (findClass_of_methodNamed hnamed) hkP hinit
  obtain ⟨vm₁, X₁, hstep₁⟩ := X.invokestatic hexec hown hlink hnamed hmethM hstatic hkP hinitP hy (g := g) hg (argsL := argsL) (rest := rest) (hlen _ hsigM) hstack hdg
  rcases hK m meth c ⟨T.setVm vm₁, locs, cells, slots⟩ { g with stack := rest } (.invokestatic index) mk argsL.toArray X₁ hg hsize hdg hW (X₁.named hnamed) (hpre vm₁ X₁.warmed) with ⟨v, B, X', hpost, hsteps⟩ | ⟨q, B, X', hpost, hsteps⟩
  · exact Or.inl ⟨v, vm₁, B, X₁.warmed, X', hpost, fun target h => hstep₁ _ fun acts => by rw [doInvoke_state]; exact hsteps.trans h⟩
  · exact Or.inr ⟨q, vm₁, B, X₁.warmed, X', hpost, hstep₁ _ fun acts => by rw [doInvoke_state]; exact hsteps⟩
theorem vx_callVW (X : Stand p l e R s m args below meth c T locs cells slots) (hexec : p.tables.exec = Jvm.exec) {own C : String} {index : Nat} {y : MethodName} {bytes : ByteArray} {maxL : Nat} {ret : Option FieldType} {hh : List (Nat × Nat × Nat × Nat)}
    (hown : s.vm.findClass own = some m.cls) (hlink : (Cond.methodLink own index y).before args s = true) (hinst : (Cond.instanceMethod y).before args s = true) (hsel : (Cond.selects C y y).before args s = true)
    (hcode : (Cond.codeWith y bytes maxL ret hh).before args s = true) (hy : y.cls ≠ "java/lang/invoke/MethodHandle" ∧ y.cls ≠ "java/lang/invoke/VarHandle")
    {W9 : Nat} {Pre : Pt → Array Value → Prop} {Post : Pt → Array Value → Option Value → Pt → Prop} (hK : Back l R p e below s args y 3 W9 Pre Post)
    {b : Addr} {cellB : Cell} (hcell : T.heap[b]? = some cellB) (hobj : cellB.vm.isStatics = false) (hcls : s.vm.findClass C = some cellB.cls)
    {g : JFrame} (hg : g.method = m) (hsize : g.locals.size = c.maxLocals) {argsL rest : List Value} (hlen : ∀ sig, parseMethodDescriptor y.desc = some sig → argsL.length = sig.parameters.length)
    (hstack : g.stack = argsL.reverse ++ .ref b :: rest) (hW : 2 * g.monitorRoom + (rest.map fun v => v.category).sum ≤ W9) (hdg : decode c.code g.pc = .ok (.invokevirtual index, 3))
    (hpre : ∀ vm₁, s.WarmedH vm₁ → Pre ⟨T.setVm vm₁, locs, cells, slots⟩ (Value.ref b :: argsL).toArray) :
    ∃ (v : Option Value) (vm₁ : Vm) (B : Pt), s.WarmedH vm₁ ∧ Stand p l e R s m args below meth c B.U B.locs B.cells B.slots ∧ Post ⟨T.setVm vm₁, locs, cells, slots⟩ (Value.ref b :: argsL).toArray v B ∧
      ∀ target, Steps p.tables e below (B.U.setTop { g with pc := g.pc + 3, stack := v.toList ++ rest }) target → Steps p.tables e below (T.setTop g) target := by
  obtain ⟨mk, methM, hnamed, hmethM, hstM, habM⟩ := Cond.instanceMethod_spec hinst
  obtain ⟨m8, methM', cM, hn8, hmethM', -, -, -, -, -, -, hsigM⟩ := Cond.codeWith_spec hcode
  cases Option.some.inj (hn8.symm.trans hnamed)
  cases hmethM.symm.trans hmethM'
  obtain ⟨c2, r2, m2, q1, q2, q3, q4, kP, hkP, hkPi⟩ := Cond.selects_spec hsel
  cases hcls.symm.trans q1
  cases (State.methodFound?_of_named hnamed hy).symm.trans q2
  cases hnamed.symm.trans q3
  have hselP : selectMethod e.platform s.vm cellB.cls mk = .method mk := by rw [Launch.admits_selectMethod X.admits]; exact q4
  obtain ⟨vm₁, X₁, hstep₁⟩ := X.invokevirtual hexec hown hlink hnamed hmethM hstM hkP hkPi hy (a := b) (cell := cellB) hcell
    (fun z h => by rw [h] at hobj; cases hobj) hselP hmethM habM hkP hkPi (g := g) hg (argsL := argsL) (rest := rest) (hlen _ hsigM) hstack hdg
  obtain ⟨v, B, X', hpost, hsteps⟩ := hK m meth c ⟨T.setVm vm₁, locs, cells, slots⟩ { g with stack := rest } (.invokevirtual index) mk (Value.ref b :: argsL).toArray X₁ hg hsize hdg hW (X₁.named hnamed) (hpre vm₁ X₁.warmed)
  exact ⟨v, vm₁, B, X₁.warmed, X', hpost, fun target h => hstep₁ _ fun acts => by rw [doInvoke_state]; exact hsteps.trans h⟩
abbrev vx_CVW (R : Room) (s : State) (args : Array Value) (own C : String) (index : Nat) (y : MethodName) (bytes : ByteArray) (maxL : Nat) (ret : Option FieldType) (hh : List (Nat × Nat × Nat × Nat)) (ws : List Cond) (rm : Room) (mc ms n : Nat) : Prop :=
  (rm.cells = mc ∧ rm.slots = ms ∧ rm.frames + 1 ≤ R.frames ∧ 8 + (maxL + 11) + rm.locals ≤ R.locals ∧ (∀ w ∈ ws, ∀ (a' : Array Value) (U : State), s.WarmedH U.vm → w.before a' U = true) ∧ Cond.codeWith y bytes maxL ret hh ∈ ws) ∧
  (Cond.codeWith y bytes maxL ret hh).before args s = true ∧ (Cond.initialized y.cls).before args s = true ∧ (y.cls ≠ "java/lang/invoke/MethodHandle" ∧ y.cls ≠ "java/lang/invoke/VarHandle") ∧
  (∀ sig, parseMethodDescriptor y.desc = some sig → n = sig.parameters.length) ∧ (Cond.methodLink own index y).before args s = true ∧ (Cond.instanceMethod y).before args s = true ∧ (Cond.selects C y y).before args s = true
theorem vx_cwVW {own C : String} {index maxL mc ms : Nat} {y : MethodName} {bytes : ByteArray} {ret : Option FieldType} {hh : List (Nat × Nat × Nat × Nat)} {Ts ws ws' : List Cond} {rm : Room} (n : Nat) (ht : ∀ w ∈ Ts, w.before args s = true) (hT : GoodIn Ts (wsV own index C y ws)) (hw : ws = Cond.codeWith y bytes maxL ret hh :: ws') (hrc : rm.cells = mc) (hrs : rm.slots = ms)
    (hd : y.cls = C ∧ y.cls ≠ "java/lang/invoke/MethodHandle" ∧ y.cls ≠ "java/lang/invoke/VarHandle" ∧ (parseMethodDescriptor y.desc).map (fun d => d.parameters.length) = some n) (hR : rm.frames + 1 ≤ R.frames ∧ 8 + (maxL + 11) + rm.locals ≤ R.locals) :
    vx_CVW R s args own C index y bytes maxL ret hh ws rm mc ms n := by
  obtain ⟨hC, hd⟩ := hd
  subst hC
  have ok : ∀ w ∈ wsV own index y.cls y ws, w.before args s = true := fun w h => ht w (hT w h).1
  have hG : GoodIn Ts ws := fun w h => hT w (by unfold wsV; exact List.mem_append_right _ h)
  have hc : Cond.codeWith y bytes maxL ret hh ∈ ws := by rw [hw]; exact List.mem_cons_self
  refine ⟨⟨hrc, hrs, hR.1, hR.2, pay_in ht hG, hc⟩, ht _ (hG _ hc).1, ok _ (by simp [wsV]), ⟨hd.1, hd.2.1⟩, fun sig h => ?_, ok _ (by simp [wsV]), ok _ (by simp [wsV]), ok _ (by simp [wsV])⟩
  have h2 := hd.2.2
  rw [h] at h2
  exact (Option.some.inj h2).symm
theorem vx_runVW {y : MethodName} {bytes cc : ByteArray} {maxL nL mc ms n index : Nat} {ret : Option FieldType} {hh : List (Nat × Nat × Nat × Nat)} {ws : List Cond} {rm : Room} {Pc : Array Value → State → Prop} {Qc : Array Value → State → Outcome → State → Prop} {free : Addr → Prop} {Ts : List Cond} {own C : String} {b : Addr} {As rest : List Value} {g : JFrame}
    (S : CallFix p m c cc nL s args Ts own) (hM : Met l y ws rm Pc Qc mc ms free) (cw : vx_CVW R s args own C index y bytes maxL ret hh ws rm mc ms n) (hp : PreV s H C b Pc As)
    (hg : g.method = m) (hn : As.length = n) (hsize : g.locals.size = nL) (hstack : g.stack = As.reverse ++ .ref b :: rest) (hW : 2 * g.monitorRoom + (rest.map fun v => v.category).sum ≤ 8) (hdg : decode cc g.pc = .ok (.invokevirtual index, 3)) (hf : cells + mc ≤ R.cells ∧ slots + ms ≤ R.slots) :
    va_Run p l e R s m args below meth c H locs cells slots mc ms g rest (Qc (Value.ref b :: As).toArray) free := by
  obtain ⟨⟨hrc, hrs, hfr, hlo, hws, hcw⟩, hcode, hini, hy, hlen, hl, hin, hse⟩ := cw
  have hK : Back l R p e below s args y 3 8 (PreOf R mc ms Pc) (PostOf Qc mc ms free) := va_backW (hh := hh) (bytes := bytes) (maxL := maxL) (ret := ret) hM hp.1 hrc hrs hfr hlo hws hcw (fun a' U hW => word_at hW (Or.inl (by first | rfl | simp [Cond.onTables, Cond.keeps, Cond.steady])) hini)
  obtain ⟨hx, hb, hml, ho, -⟩ := S
  obtain ⟨-, ⟨cellB, hcB, hoB, hclB⟩, hPc⟩ := hp
  intro T hT X
  obtain ⟨v, vm₁, ⟨U', l2, c2, s2⟩, hW₁, X', ⟨g', mk, t, L, e1, e2, hq, h1, hL, h2, h3⟩, st⟩ := vx_callVW X hx (C := C) (hh := hh) (bytes := bytes) (maxL := maxL) (ret := ret) ho hl hin hse hcode hy hK (by rw [hT]; exact hcB) hoB hclB hg (hsize.trans hml.symm) (argsL := As) (rest := rest) (fun sig h => hn.trans (hlen sig h)) hstack hW (by rw [hb]; exact hdg)
    (fun vm₁ hW₁ => ⟨hf.1, hf.2, hPc (T.setVm vm₁) hT hW₁⟩)
  dsimp only [Pt.U, Pt.locs, Pt.cells, Pt.slots] at X' e1 e2 h1 h2 h3 st
  subst h1; subst h2; subst h3
  exact ⟨v, (T.setVm vm₁).calling g' mk (Value.ref b :: As).toArray, t, U', L, hT, X', hL, e1, e2, hq, st⟩
section
variable {y : MethodName} {bytes cc : ByteArray} {maxL nL mc ms n index : Nat} {ret : Option FieldType} {ws : List Cond} {rm : Room} {Pc : Array Value → State → Prop} {Qc : Array Value → State → Outcome → State → Prop} {XC : String → State → State → Prop} {free : Addr → Prop} {Ts : List Cond} {own C : String} {b : Addr} {As rest : List Value} {g : JFrame}
theorem vx_runVX {hh : List (Nat × Nat × Nat × Nat)} (S : CallFix p m c cc nL s args Ts own) (hM : vx_Met l y ws rm Pc Qc XC mc ms free) (cw : vx_CVW R s args own C index y bytes maxL ret hh ws rm mc ms n) (hp : PreV s H C b Pc As)
    (hg : g.method = m) (hn : As.length = n) (hsize : g.locals.size = nL) (hstack : g.stack = As.reverse ++ .ref b :: rest) (hW : 2 * g.monitorRoom + (rest.map fun v => v.category).sum ≤ 8) (hdg : decode cc g.pc = .ok (.invokevirtual index, 3)) (hf : cells + mc ≤ R.cells ∧ slots + ms ≤ R.slots) :
    vx_Run p l e R s m args below meth c H locs cells slots mc ms g rest (Qc (Value.ref b :: As).toArray) XC free := by
  obtain ⟨⟨hrc, hrs, hfr, hlo, hws, hcw⟩, hcode, hini, hy, hlen, hl, hin, hse⟩ := cw
  have hK : vx_Back l R p e below s args y 3 8 (PreOf R mc ms Pc) (PostOf Qc mc ms free) (vx_Post XC mc ms free) := vx_backW (hh := hh) (bytes := bytes) (maxL := maxL) (ret := ret) hM hp.1 hrc hrs hfr hlo hws hcw (fun a' U hW => word_at hW (Or.inl (by first | rfl | simp [Cond.onTables, Cond.keeps, Cond.steady])) hini)
  obtain ⟨hx, hb, hml, ho, -⟩ := S
  obtain ⟨-, ⟨cellB, hcB, hoB, hclB⟩, hPc⟩ := hp
  intro T hT X
  rcases vx_callVX X hx (C := C) (hh := hh) (bytes := bytes) (maxL := maxL) (ret := ret) ho hl hin hse hcode hy hK (by rw [hT]; exact hcB) hoB hclB hg (hsize.trans hml.symm) (argsL := As) (rest := rest) (fun sig h => hn.trans (hlen sig h)) hstack hW (by rw [hb]; exact hdg)
    (fun vm₁ hW₁ => ⟨hf.1, hf.2, hPc (T.setVm vm₁) hT hW₁⟩) with ⟨v, vm₁, ⟨U', l2, c2, s2⟩, hW₁, X', ⟨g', mk, t, L, e1, e2, hq, h1, hL, h2, h3⟩, st⟩ | ⟨q, vm₁, ⟨U', l2, c2, s2⟩, hW₁, X', ⟨g', mk, t, L, E, ce, e1, e2, hq, hce, hcv, hcl, h1, hL, h2, h3⟩, st⟩
  · dsimp only [Pt.U, Pt.locs, Pt.cells, Pt.slots] at X' e1 e2 h1 h2 h3 st
    subst h1; subst h2; subst h3
    exact Or.inl ⟨v, (T.setVm vm₁).calling g' mk (Value.ref b :: As).toArray, t, U', L, hT, X', hL, e1, e2, hq, st⟩
  · dsimp only [Pt.U, Pt.locs, Pt.cells, Pt.slots] at X' e1 e2 h1 h2 h3 st hcl
    subst h1; subst h2; subst h3
    exact Or.inr ⟨q, (T.setVm vm₁).calling g' mk (Value.ref b :: As).toArray, t, U', L, E, ce, hT, X', hL, e1, e2, hq, hce, hcv, vx_cls hW₁ hcl, st⟩
theorem vx_runSX {hh : List (Nat × Nat × Nat × Nat)} (S : CallFix p m c cc nL s args Ts own) (hM : vx_Met l y ws rm Pc Qc XC mc ms free) (cw : vx_CSW R s args own index y bytes maxL ret hh ws rm mc ms n) (hp : PreS s H Pc As)
    (hg : g.method = m) (hn : As.length = n) (hsize : g.locals.size = nL) (hstack : g.stack = As.reverse ++ rest) (hW : 2 * g.monitorRoom + (rest.map fun v => v.category).sum ≤ 8) (hdg : decode cc g.pc = .ok (.invokestatic index, 3)) (hf : cells + mc ≤ R.cells ∧ slots + ms ≤ R.slots) :
    vx_Run p l e R s m args below meth c H locs cells slots mc ms g rest (Qc As.toArray) XC free := by
  obtain ⟨⟨hrc, hrs, hfr, hlo, hws, hcw⟩, hcode, hini, hy, hlen, hl, hstt⟩ := cw
  have hK : vx_Back l R p e below s args y 3 8 (PreOf R mc ms Pc) (PostOf Qc mc ms free) (vx_Post XC mc ms free) := vx_backW (hh := hh) (bytes := bytes) (maxL := maxL) (ret := ret) hM hp.1 hrc hrs hfr hlo hws hcw (fun a' U hW => word_at hW (Or.inl (by first | rfl | simp [Cond.onTables, Cond.keeps, Cond.steady])) hini)
  obtain ⟨hx, hb, hml, ho, -⟩ := S
  intro T hT X
  rcases vx_callSX X hx (hh := hh) (bytes := bytes) (maxL := maxL) (ret := ret) ho hl hstt hini hcode hy hK hg (hsize.trans hml.symm) (argsL := As) (rest := rest) (fun sig h => hn.trans (hlen sig h)) hstack hW (by rw [hb]; exact hdg)
    (fun vm₁ hW₁ => ⟨hf.1, hf.2, hp.2 (T.setVm vm₁) hT hW₁⟩) with ⟨v, vm₁, ⟨U', l2, c2, s2⟩, hW₁, X', ⟨g', mk, t, L, e1, e2, hq, h1, hL, h2, h3⟩, st⟩ | ⟨q, vm₁, ⟨U', l2, c2, s2⟩, hW₁, X', ⟨g', mk, t, L, E, ce, e1, e2, hq, hce, hcv, hcl, h1, hL, h2, h3⟩, st⟩
  · dsimp only [Pt.U, Pt.locs, Pt.cells, Pt.slots] at X' e1 e2 h1 h2 h3 st
    subst h1; subst h2; subst h3
    exact Or.inl ⟨v, (T.setVm vm₁).calling g' mk As.toArray, t, U', L, hT, X', hL, e1, e2, hq, st⟩
  · dsimp only [Pt.U, Pt.locs, Pt.cells, Pt.slots] at X' e1 e2 h1 h2 h3 st hcl
    subst h1; subst h2; subst h3
    exact Or.inr ⟨q, (T.setVm vm₁).calling g' mk As.toArray, t, U', L, E, ce, hT, X', hL, e1, e2, hq, hce, hcv, vx_cls hW₁ hcl, st⟩
end
end VXH
theorem vx_ofWH {l : Launch} {y : MethodName} {ws ws' : List Cond} {rm : Room} {Pc : Array Value → State → Prop} {Qc : Array Value → State → Outcome → State → Prop} {XC : String → State → State → Prop} {mc ms : Nat} {free : Addr → Prop} {cc : ByteArray} {maxL : Nat} {ret : Option FieldType} {hh : List (Nat × Nat × Nat × Nat)}
    (hy : plainName y.cls = true) (hw : ws = Cond.codeWith y cc maxL ret hh :: ws')
    (body : ∀ p e s m args below meth c s₁, BodyLoose p l y (headSpec ws rm) cc maxL ret e s m args below meth c s₁ → c.maxLocals = maxL → Pc args s →
      W p l e (headSpec ws rm).room s m args below meth c s.heap [] 0 0 (vx_MQ below Qc XC args s mc ms free) (entryFrame m args maxL)) : vx_Met l y ws rm Pc Qc XC mc ms free := by
  refine MetFree.of_bodyS (code := cc) (maxLocals := maxL) (ret := ret) hy ?_ ?_
  · intro args s m h hn
    obtain ⟨m9, meth, c, hn9, h1, h2, h3, h4, -, h5, h6, -⟩ := Cond.codeWith_spec (atoms_spec (ws := ws) h _ (by rw [hw]; exact List.mem_cons_self))
    cases hn.symm.trans hn9
    exact ⟨meth, c, h1, h2, h3, h4, h5, h6⟩
  · intro p e s m args below meth c s₁ B hml hP _
    have hh0 : s₁.heap = s.heap := by rw [B.state]; rfl
    obtain ⟨t, a1, o, b1, b2, b3⟩ := body p e s m args below meth c s₁ B hml hP s₁ hh0 (Stand.of_body B)
    exact ⟨t, o, a1, b1, b2, b3⟩
/-! ===== END ===== -/

/-! ===== BEGIN what the machine throws by itself, no traces kept ===== -/
section VXM
set_option maxHeartbeats 1000000 in
/-- the machine throws cls with the message text, no traces kept: from its note over the frame g to 'throwing' over the same frame (follows the proofs of Stand.vmThrowsMessage, Shelf/KitTracedVmS.lean, and Stand.throwsMessageColdBareV, StandMessageColdV.lean, without the step out of the frame) -/
theorem vx_vmAt {p : Program} {l : Launch} {e : Env} {R : Room} {s : State} {m₀ : MethodId} {args : Array Value} {below : List Frame} {meth : Method} {c : Code} {W : State} {locs : List Loc} {cells slots : Nat}
    (X : Stand p l e R s m₀ args below meth c W locs cells slots) (hexec : p.tables.exec = Jvm.exec) (htr : e.platform.stackTraces = false) {cls : String} {names : List String} {text : String}
    (hcls : Bundle.fit cls = true) (hnames : ∀ n ∈ names, Bundle.fit n = true) (hsoe : (cls == "java/lang/StackOverflowError") = false) (hoom : (cls == "java/lang/OutOfMemoryError") = false)
    (h : ∀ a ∈ Bundle.messageArmAtoms cls names, a.before args s = true)
    (hlocs : ∀ x ∈ locs, ∀ cell, s.heap[x.base]? = some cell → cell.vm.isStatics = false)
    (htext : (text == notModelled) = false) (hlimit : ¬ (stringBytes (stringToUtf16 text)).size > e.platform.arrayLengthLimit) (hheap : ¬ (stringBytes (stringToUtf16 text)).size * componentBytes .byte > e.platform.maxHeapBytes)
    {g : JFrame} (hg : g.method = m₀) (hsize : g.locals.size = c.maxLocals)
    (hRframes : names.length + 4 < R.frames) (hRlocals : 2 * g.monitorRoom + (g.stack.map fun v => v.category).sum + 10240 ≤ R.locals) (hshort : 13 * names.length + 55 ≤ 10240)
    (hRcells : cells + 3 ≤ R.cells) (hRslots : slots + ((stringBytes (stringToUtf16 text)).size + 4 + 6) ≤ R.slots) (hlocks : meth.locks = false) :
    ∃ (S : State) (q : Addr) (ce : Cell), (∀ target, Steps p.tables e below ((S.setTop g).pushFrame (.throwing q)) target → Steps p.tables e below ((W.setTop g).pushFrame (.throwNew cls (some text) none)) target) ∧
      Stand p l e R s m₀ args below meth c S locs (cells + 3) (slots + ((stringBytes (stringToUtf16 text)).size + 4 + 6)) ∧ S.heap[q]? = some ce ∧ s.vm.findClass cls = some ce.cls ∧ ce.vm = .none := by
  have howns : e.platform.frameOwnsMonitors = true := by rw [X.admits.platform]
  have hfin : e.platform.finalization = false := by rw [X.admits.platform]
  have hpl : e.platform.magicAccessors = ({} : Platform).magicAccessors := by rw [X.admits.platform]
  have a : ∀ x, x ∈ Bundle.messageArmAtoms cls names → x.holds args s none s [] = true := fun x hx => h x hx
  obtain ⟨T, Z0, L, -, Y⟩ := ThrowableC.of_atoms (args := args) howns hfin hpl (fun x hx => h x (by simp [Bundle.messageArmAtoms, hx]))
  obtain ⟨Z, M, LZ, LM, hnZ⟩ := Init0T.ofS_atoms (args := args) hpl L Y (fun x hx => h x (by simp [Bundle.messageArmAtoms, hx]))
  obtain ⟨P1, Ps, hlen, L1, hL, hP1m, hlink1, hlink⟩ := Bundle.chainS (args := args) hpl hnZ names cls hcls hnames (fun x hx => h x (by simp [Bundle.messageArmAtoms, hx]))
  obtain ⟨Zs, LZs, hn4, hfitv, hfitc⟩ := StringT.of_atoms (args := args) (fun x hx => h x (by simp [Bundle.messageArmAtoms, hx]))
  have hfound : s.vm.findClass cls = some P1.m.cls := findClass_of_methodNamed hP1m
  obtain ⟨c1, kX, hc1, hk, hord, -, -, hn6⟩ := Cond.instantiable_spec (a (.instantiable cls 6) (by simp [Bundle.messageArmAtoms]))
  cases Option.some.inj (hc1.symm.trans hfound)
  have hinit := Cond.initialized_spec hfound hk (a (.initialized cls) (by simp [Bundle.messageArmAtoms]))
  have hctor : kX.findMethod "<init>" "(Ljava/lang/String;)V" = some P1.m.idx := findMethod_of_methodNamed hP1m hk
  have hsel0 : selectMethod e.platform s.vm P1.m.cls T.fill0 = .method T.fill0 := by
    obtain ⟨c2, r2, m2, q1, q2, q3, q4, -⟩ := Cond.selects_spec (a (.selects cls Bundle.tFill0 Bundle.tFill0) (by simp [Bundle.messageArmAtoms]))
    cases Option.some.inj (q1.symm.trans hfound)
    cases Option.some.inj (q2.symm.trans (State.methodFound?_of_named Y.fill0 (by decide)))
    cases Option.some.inj (q3.symm.trans Y.fill0)
    rw [Launch.admits_selectMethod X.admits]; exact q4
  have hselF : selectMethod e.platform s.vm P1.m.cls T.fill = .method T.fill := by
    obtain ⟨c2, r2, m2, q1, q2, q3, q4, -⟩ := Cond.selects_spec (a (.selects cls Bundle.tFill Bundle.tFill) (by simp [Bundle.messageArmAtoms]))
    cases Option.some.inj (q1.symm.trans hfound)
    cases Option.some.inj (q2.symm.trans (State.methodFound?_of_named Y.fill (by decide)))
    cases Option.some.inj (q3.symm.trans Y.fill)
    rw [Launch.admits_selectMethod X.admits]; exact q4
  obtain ⟨cellS0, hcS0, hiss⟩ := Y.statics
  obtain ⟨u0, hu0⟩ := Cond.staticRefV Y.unassigned L.unassignedStatic L.statics hcS0 hiss (a (.isRef (.static Bundle.tN "UNASSIGNED_STACK" Bundle.steD)) (by simp [Bundle.messageArmAtoms]))
  obtain ⟨sen, hsen⟩ := Cond.staticRefV Y.sentinel L.sentinelStatic L.statics hcS0 hiss (a (.isRef (.static Bundle.tN "SUPPRESSED_SENTINEL" Bundle.listD)) (by simp [Bundle.messageArmAtoms]))
  obtain ⟨ci198, i198, fB, hk198, hg198, ha198, hsB, -, hnB, htB, hffB⟩ := Cond.ownField (t := .object "java/lang/Object") Y.found L.cls (by decide +kernel) (a (.fieldLink Bundle.tN 198 Bundle.tN "backtrace" "Ljava/lang/Object;") (by simp [Bundle.messageArmAtoms])) (a (.lays Bundle.tN Bundle.tN "backtrace" "Ljava/lang/Object;") (by simp [Bundle.messageArmAtoms])) e.platform hpl
  obtain ⟨cellS, hcS', heS, -, hkeep⟩ := X.same.2.2.2.2.2 T.aS cellS0 hcS0
  have hcellS : W.heap[T.aS]? = some cellS := hcS'
  have hout' : ∀ i, (⟨T.aS, i⟩ : Loc) ∉ locs := fun i hmem => by
    have := hlocs _ hmem cellS0 hcS0
    rw [hiss] at this; cases this
  have hknownS : cellS.vm ≠ .unknown := by
    rw [heS]; intro hu
    rw [show cellS0.vm = .unknown from hu] at hiss
    cases hiss
  have hvU : cellS.slots[T.fUnassigned.slot]? = some u0.v := by rw [hkeep _ (hout' _)]; exact hu0
  have hvSen : cellS.slots[T.fSentinel.slot]? = some sen.v := by rw [hkeep _ (hout' _)]; exact hsen
  obtain ⟨iM, hffM⟩ := Y.msg
  obtain ⟨tyC, dC, hdC, hdnC⟩ := Cond.laysAt hfound hk Y.cause (a (.lays cls Bundle.tN "cause" "Ljava/lang/Throwable;") (by simp [Bundle.messageArmAtoms]))
  obtain ⟨tyS, dS, hdS, hdnS⟩ := Cond.laysAt hfound hk Y.stack (a (.lays cls Bundle.tN "stackTrace" Bundle.steD) (by simp [Bundle.messageArmAtoms]))
  obtain ⟨tyP, dP, hdP, hdnP⟩ := Cond.laysAt hfound hk Y.supp (a (.lays cls Bundle.tN "suppressedExceptions" Bundle.listD) (by simp [Bundle.messageArmAtoms]))
  obtain ⟨tyM, dM, hdM, hdnM⟩ := Cond.laysAt hfound hk hffM (a (.lays cls Bundle.tN "detailMessage" "Ljava/lang/String;") (by simp [Bundle.messageArmAtoms]))
  obtain ⟨tyB, dB, hdB, hdnB⟩ := Cond.laysAt hfound hk hffB (a (.lays cls Bundle.tN "backtrace" "Ljava/lang/Object;") (by simp [Bundle.messageArmAtoms]))
  have bC := Cond.laysApart hdB hdC hdnB hdnC (by rw [hnB, Y.causeName]; decide)
  have bS := Cond.laysApart hdB hdS hdnB hdnS (by rw [hnB, Y.stackName]; decide)
  have bP := Cond.laysApart hdB hdP hdnB hdnP (by rw [hnB, Y.suppName]; decide)
  have hbk : ((preparedCellV T.toThrowableT (freshCell P1.m.cls kX) (W.heap.size + 2) u0 sen).withEntry W.cur).slots[fB.slot]? = some .null := by
    have := fresh_default (c := P1.m.cls) tyB
    rw [htB] at this
    simpa [preparedCellV, Cell.setSlot, Cell.withEntry, Array.getElem?_setIfInBounds, bC, bS, bP, bC.symm, bS.symm, bP.symm, defaultValue] using this
  have tkC := Takes.of_laid (v := .ref (W.heap.size + 2)) hk hord tyC (by rw [Y.causeType]; rfl)
  have tkS := Takes.of_laid (v := u0.v) hk hord tyS (by rw [Y.stackType]; exact fits_refV_array _ u0)
  have tkP := Takes.of_laid (v := sen.v) hk hord tyP (by rw [Y.suppType]; exact fits_refV_object _ sen)
  have tkM := Takes.of_laid (v := .ref (W.heap.size + 1)) hk hord tyM (by rw [Y.msgType]; rfl)
  have hskip : SkipFacts T e.platform s (fun u => u) u0 ((preparedCellV T.toThrowableT (freshCell P1.m.cls kX) (W.heap.size + 2) u0 sen).withEntry W.cur) := ⟨{ ci198 := ci198, i198 := i198, fBack := fB }, ⟨hk198, hg198, ha198, hsB⟩, hbk, fun _ _ => rfl⟩
  have h0 : At W g.method c below := by rw [hg]; exact X.here
  obtain ⟨hbeyond, hfreeW⟩ := X.vmMayThrow hsize (.throwNew cls (some text) none) (fun f hf => by cases hf) rfl hRlocals
  have hfr' : W.frames.length + Ps.length + 4 < (e.platform.stackLimits W.me).1 := by have := X.framesAbove hRframes; omega
  have hwd' : (stackUse (.java g :: W.frames.tail)).2 + 13 * Ps.length + 55 ≤ (e.platform.stackLimits W.me).2 := by have := X.stackAbove hsize (K := 13 * Ps.length + 55) (by omega); omega
  have hslots : W.slotsUsed + (stringBytes (stringToUtf16 text)).size + Zs.kS.instanceTypes.size + kX.instanceTypes.size ≤ e.platform.maxSlots := by
    have := X.slotsAbove hRslots
    rw [hn4, hn6]
    omega
  obtain ⟨vm', hW', st⟩ := Steps.vmThrowsMessageColdByV p (s₀ := s) (S := W) (g := g) h0 hexec T L Z LZ M LM X.warmed (t := W.cur) rfl Zs LZs P1 L1 Ps hL hlink1 hlink hsoe hoom hfound hk hinit hord hctor
    (Launch.admits_hotImplicitExceptions X.admits) hbeyond hfreeW htext hlimit hheap (X.cellsAbove hRcells) hslots (hfitv _) (hfitc _)
    (Nn := fun u => u) heapOnly_id (fun _ _ => rfl) (fun _ => rfl) (fun u x y => setCell_twice _ _ _ _) (fun _ => Nat.le_refl _) (cN := ((preparedCellV T.toThrowableT (freshCell P1.m.cls kX) (W.heap.size + 2) u0 sen).withEntry W.cur))
    hsel0 hcellS hknownS hvU tkS (fun _ hu => hu) (fun _ hu => hu) rfl rfl rfl (by simp [preparedCellV, Cell.setSlot, Cell.withEntry]) hskip (fun _ _ hA hW _ hroom _ hrest => L.nativeOff p htr hA hW hroom hrest) hselF hvSen tkC tkP tkM Y.objLocals rfl hfr' hwd'
  rw [plainBareV_eq T.toThrowableT (W.heap.size + 2) u0 sen (.ref (W.heap.size + 1)) W.cur rfl rfl] at st
  obtain ⟨-, -, w3, w4, -, -, -⟩ := withThrown_facts e.platform W Zs text P1.m.cls kX
  have X3 := ((X.pushed (bytesOf Zs.cB (stringToUtf16 text))).pushed (stringAt Zs.cS Zs.kS Zs.fv Zs.fc (stringToUtf16 text) W.heap.size)).pushed (freshCell P1.m.cls kX)
  rw [← withString_eq] at X3
  have X4 := X3.noted hW'
  have ha : (W.heap.size + 2) < ((withThrown W Zs text P1.m.cls kX).setVm vm').heap.size := by show _ < (withThrown W Zs text P1.m.cls kX).heap.size; rw [w3]; omega
  have hcell : ((withThrown W Zs text P1.m.cls kX).setVm vm').heap[(W.heap.size + 2)]? = some (freshCell P1.m.cls kX) := w4
  have X5 := ((((X4.stored hcell T.fCause.slot (.ref (W.heap.size + 2))).storedAgain ha T.fStack.slot u0.v).storedAgain ha T.fSupp.slot sen.v).storedAgain ha T.fStack.slot u0.v).storedAgain ha T.fMsg.slot (.ref (W.heap.size + 1))
  obtain ⟨g₁, hfrM⟩ := X5.frames_eq
  have hU : ((((withThrown W Zs text P1.m.cls kX).setVm vm').setCell (W.heap.size + 2) (plainBareV T.toThrowableT (freshCell P1.m.cls kX) (W.heap.size + 2) u0 sen (.ref (W.heap.size + 1)))).setTop g).pushFrame (.throwing (W.heap.size + 2)) = (((withThrown W Zs text P1.m.cls kX).setVm vm').setCell (W.heap.size + 2) (plainBareV T.toThrowableT (freshCell P1.m.cls kX) (W.heap.size + 2) u0 sen (.ref (W.heap.size + 1)))).setFrames (.throwing (W.heap.size + 2) :: .java g :: below) := by
    rw [State.pushFrame, State.frames_setTop _ hfrM, State.setTop_of_frames _ hfrM, State.setFrames_setFrames]
  have b1 : (bytesOf Zs.cB (stringToUtf16 text)).slots.size = (stringBytes (stringToUtf16 text)).size := by
    rw [(Cell.writeAll_facts _ _).2.2]; simp [bytes0]
  have b2 : (stringAt Zs.cS Zs.kS Zs.fv Zs.fc (stringToUtf16 text) W.heap.size).slots.size = 4 := by simp [string0, Cell.setSlot, hn4]
  have b3 : (freshCell P1.m.cls kX).slots.size = 6 := by simp [hn6]
  rw [b1, b2, b3] at X5
  have e9 : slots + (stringBytes (stringToUtf16 text)).size + 4 + 6 = slots + ((stringBytes (stringToUtf16 text)).size + 4 + 6) := by omega
  rw [e9] at X5
  simp only [List.append_assoc, List.cons_append, List.nil_append] at X5
  refine ⟨((withThrown W Zs text P1.m.cls kX).setVm vm').setCell (W.heap.size + 2) (plainBareV T.toThrowableT (freshCell P1.m.cls kX) (W.heap.size + 2) u0 sen (.ref (W.heap.size + 1))), W.heap.size + 2, _, fun target ht => st _ (by rw [X.tail, ← hU]; exact ht),
    X5.forget (fun y hy => ?_), heapAt_setCell_self _ ha, hfound, rfl⟩
  simp only [List.mem_cons, List.not_mem_nil, or_false] at hy
  have hge : s.heap.size ≤ W.heap.size := X.same.2.1
  rcases hy with rfl | rfl | rfl | rfl | rfl <;> exact Nat.le_trans hge (Nat.le_add_right _ 2)
set_option maxHeartbeats 1000000 in
/-- the machine throws NullPointerException, no traces kept: from its note over the frame g to 'throwing' over the same frame (follows the proof of Stand.vmThrowsNpe, Shelf42/KT2.lean; throwsNpeColdBareVAt, Shelf42/NT91.lean, called) -/
theorem vx_npeAt {p : Program} {l : Launch} {e : Env} {R : Room} {s : State} {m₀ : MethodId} {args : Array Value} {below : List Frame} {meth : Method} {c : Code} {W : State} {locs : List Loc} {cells slots : Nat}
    (X : Stand p l e R s m₀ args below meth c W locs cells slots) (hexec : p.tables.exec = Jvm.exec) (htr : e.platform.stackTraces = false) {n : Nat}
    (h : ∀ a ∈ Bundle.npeArmAtoms n, a.before args s = true)
    (hlocs : ∀ x ∈ locs, ∀ cell, s.heap[x.base]? = some cell → cell.vm.isStatics = false)
    {g : JFrame} (hg : g.method = m₀) (hsize : g.locals.size = c.maxLocals)
    (hRframes : 7 < R.frames) (hRlocals : 2 * g.monitorRoom + (g.stack.map fun v => v.category).sum + 10240 ≤ R.locals)
    (hRcells : cells + 1 ≤ R.cells) (hRslots : slots + n ≤ R.slots) (hlocks : meth.locks = false) :
    ∃ (S : State) (q : Addr) (ce : Cell), (∀ target, Steps p.tables e below ((S.setTop g).pushFrame (.throwing q)) target → Steps p.tables e below ((W.setTop g).pushFrame (.throwNew "java/lang/NullPointerException" none none)) target) ∧
      Stand p l e R s m₀ args below meth c S locs (cells + 1) (slots + n) ∧ S.heap[q]? = some ce ∧ s.vm.findClass "java/lang/NullPointerException" = some ce.cls ∧ ce.vm = .none := by
  have howns : e.platform.frameOwnsMonitors = true := by rw [X.admits.platform]
  have hfin : e.platform.finalization = false := by rw [X.admits.platform]
  have hpl : e.platform.magicAccessors = ({} : Platform).magicAccessors := by rw [X.admits.platform]
  have hpl2 : e.platform.arrayCloneIsPublic = true := by rw [X.admits.platform]
  have a' : ∀ x, x ∈ Bundle.npeArmAtoms n → x.holds args s none s [] = true := fun x hx => h x hx
  obtain ⟨T, Z, L, LZ, Y⟩ := ThrowableC.of_atoms (args := args) howns hfin hpl (fun x hx => h x (by simp [Bundle.npeArmAtoms, hx]))
  obtain ⟨N, LN, hcN, hnNF, hordN, hffS⟩ := NpeC.of_atoms (args := args) hpl hpl2 L Y (fun x hx => h x (by simp [Bundle.npeArmAtoms, hx]))
  obtain ⟨P1, L1, hP1m, hP1s⟩ := PassC.of_atoms (args := args) (s := s) hpl (X := Bundle.nN) (Y := Bundle.rN) (by decide) (by decide) LibCode.NullPointerException.Init0.at_0 LibCode.NullPointerException.Init0.at_1 LibCode.NullPointerException.Init0.at_4 (fun x hx => h x (by simp [Bundle.npeArmAtoms, hx]))
  obtain ⟨PR, LR, hPRm, hPRs⟩ := PassC.of_atoms (args := args) (s := s) hpl (X := Bundle.rN) (Y := Bundle.eN) (by decide) (by decide) LibCode.RuntimeException.Init0.at_0 LibCode.RuntimeException.Init0.at_1 LibCode.RuntimeException.Init0.at_4 (fun x hx => h x (by simp [Bundle.npeArmAtoms, hx]))
  obtain ⟨PE, LEx, hPEm, hPEs⟩ := PassC.of_atoms (args := args) (s := s) hpl (X := Bundle.eN) (Y := Bundle.tN) (by decide) (by decide) LibCode.Exception.Init0.at_0 LibCode.Exception.Init0.at_1 LibCode.Exception.Init0.at_4 (fun x hx => h x (by simp [Bundle.npeArmAtoms, hx]))
  have hfound : s.vm.findClass Bundle.nN = some P1.m.cls := findClass_of_methodNamed hP1m
  have ecls : N.cN = P1.m.cls := Option.some.inj (hcN.symm.trans hfound)
  have hk : s.vm.classes[P1.m.cls]? = some N.kN := by rw [← ecls]; exact LN.cls
  have hinit := Cond.initialized_spec hfound hk (a' (.initialized Bundle.nN) (by simp [Bundle.npeArmAtoms]))
  have hctor : N.kN.findMethod "<init>" "()V" = some P1.m.idx := findMethod_of_methodNamed hP1m hk
  obtain ⟨c1, k1, hc1, hk1, -, -, -, hn⟩ := Cond.instantiable_spec (a' (.instantiable Bundle.nN n) (by simp [Bundle.npeArmAtoms]))
  cases Option.some.inj (hc1.symm.trans hfound)
  cases Option.some.inj (hk1.symm.trans hk)
  have hfsz : (freshCell P1.m.cls N.kN).slots.size = n := by simp [hn]
  have hlink1 : P1.sup = PR.m := Option.some.inj (hP1s.symm.trans hPRm)
  have hlinkR : PR.sup = PE.m := Option.some.inj (hPRs.symm.trans hPEm)
  have hlinkE : PE.sup = Z.m T.toThrowableT := Option.some.inj (hPEs.symm.trans Y.init0)
  have hLs : ∀ P, P ∈ [PR, PE] → P.Links0 e.platform s := fun P hP => by
    simp only [List.mem_cons, List.not_mem_nil, or_false] at hP
    rcases hP with rfl | rfl
    · exact LR
    · exact LEx
  have hsel0 : selectMethod e.platform s.vm P1.m.cls T.fill0 = .method T.fill0 := by
    obtain ⟨c2, r2, m2, q1, q2, q3, q4, -⟩ := Cond.selects_spec (a' (.selects Bundle.nN Bundle.tFill0 Bundle.tFill0) (by simp [Bundle.npeArmAtoms]))
    cases Option.some.inj (q1.symm.trans hfound)
    cases Option.some.inj (q2.symm.trans (State.methodFound?_of_named Y.fill0 (by decide)))
    cases Option.some.inj (q3.symm.trans Y.fill0)
    rw [Launch.admits_selectMethod X.admits]; exact q4
  have hselF : selectMethod e.platform s.vm P1.m.cls T.fill = .method N.fill := by
    obtain ⟨c2, r2, m2, q1, q2, q3, q4, -⟩ := Cond.selects_spec (a' (.selects Bundle.nN Bundle.tFill Bundle.nFill) (by simp [Bundle.npeArmAtoms]))
    cases Option.some.inj (q1.symm.trans hfound)
    cases Option.some.inj (q2.symm.trans (State.methodFound?_of_named Y.fill (by decide)))
    cases Option.some.inj (q3.symm.trans hnNF)
    rw [Launch.admits_selectMethod X.admits]; exact q4
  obtain ⟨cellS0, hcS0, hiss⟩ := Y.statics
  obtain ⟨u0, hu0⟩ := Cond.staticRefV Y.unassigned L.unassignedStatic L.statics hcS0 hiss (a' (.isRef (.static Bundle.tN "UNASSIGNED_STACK" Bundle.steD)) (by simp [Bundle.npeArmAtoms]))
  obtain ⟨sen, hsen⟩ := Cond.staticRefV Y.sentinel L.sentinelStatic L.statics hcS0 hiss (a' (.isRef (.static Bundle.tN "SUPPRESSED_SENTINEL" Bundle.listD)) (by simp [Bundle.npeArmAtoms]))
  obtain ⟨ci198, i198, fB, hk198, hg198, ha198, hsB, -, hnB, htB, hffB⟩ := Cond.ownField (t := .object "java/lang/Object") Y.found L.cls (by decide +kernel) (a' (.fieldLink Bundle.tN 198 Bundle.tN "backtrace" Bundle.objD) (by simp [Bundle.npeArmAtoms])) (a' (.lays Bundle.tN Bundle.tN "backtrace" Bundle.objD) (by simp [Bundle.npeArmAtoms])) e.platform hpl
  obtain ⟨cellS, hcS', heS, -, hkeep⟩ := X.same.2.2.2.2.2 T.aS cellS0 hcS0
  have hcellS : W.heap[T.aS]? = some cellS := hcS'
  have hout' : ∀ i, (⟨T.aS, i⟩ : Loc) ∉ locs := fun i hmem => by
    have := hlocs _ hmem cellS0 hcS0
    rw [hiss] at this; cases this
  have hknownS : cellS.vm ≠ .unknown := by
    rw [heS]; intro hu
    rw [show cellS0.vm = .unknown from hu] at hiss
    cases hiss
  have hvU : cellS.slots[T.fUnassigned.slot]? = some u0.v := by rw [hkeep _ (hout' _)]; exact hu0
  have hvSen : cellS.slots[T.fSentinel.slot]? = some sen.v := by rw [hkeep _ (hout' _)]; exact hsen
  obtain ⟨tyC, dC, hdC, hdnC⟩ := Cond.laysAt hfound hk Y.cause (a' (.lays Bundle.nN Bundle.tN "cause" "Ljava/lang/Throwable;") (by simp [Bundle.npeArmAtoms]))
  obtain ⟨tyS, dS, hdS, hdnS⟩ := Cond.laysAt hfound hk Y.stack (a' (.lays Bundle.nN Bundle.tN "stackTrace" Bundle.steD) (by simp [Bundle.npeArmAtoms]))
  obtain ⟨tyP, dP, hdP, hdnP⟩ := Cond.laysAt hfound hk Y.supp (a' (.lays Bundle.nN Bundle.tN "suppressedExceptions" Bundle.listD) (by simp [Bundle.npeArmAtoms]))
  obtain ⟨tyX, dX, hdX, hdnX⟩ := Cond.laysAt hfound hk hffS (a' (.lays Bundle.nN Bundle.nN "extendedMessageState" "I") (by simp [Bundle.npeArmAtoms, Bundle.npeAtoms]))
  obtain ⟨hnX, htX⟩ := State.fieldFound?_type hffS (t := .int) (by decide +kernel)
  have xC := Cond.laysApart hdC hdX hdnC hdnX (by rw [hnX, Y.causeName]; decide)
  have xS := Cond.laysApart hdS hdX hdnS hdnX (by rw [hnX, Y.stackName]; decide)
  have xP := Cond.laysApart hdP hdX hdnP hdnX (by rw [hnX, Y.suppName]; decide)
  have hv0 : (freshCell P1.m.cls N.kN).slots[N.fState.slot]? = some (.int 0) := by
    have := fresh_default (c := P1.m.cls) tyX
    rw [htX] at this; exact this
  obtain ⟨tyB, dB, hdB, hdnB⟩ := Cond.laysAt hfound hk hffB (a' (.lays Bundle.nN Bundle.tN "backtrace" Bundle.objD) (by simp [Bundle.npeArmAtoms]))
  have bC := Cond.laysApart hdB hdC hdnB hdnC (by rw [hnB, Y.causeName]; decide)
  have bS := Cond.laysApart hdB hdS hdnB hdnS (by rw [hnB, Y.stackName]; decide)
  have bP := Cond.laysApart hdB hdP hdnB hdnP (by rw [hnB, Y.suppName]; decide)
  have bX := Cond.laysApart hdB hdX hdnB hdnX (by rw [hnB, hnX]; decide)
  have hbk : ((npeCell N.toNpeT (preparedCellV T.toThrowableT (freshCell P1.m.cls N.kN) W.heap.size u0 sen) W.cur).withEntry W.cur).slots[fB.slot]? = some .null := by
    have := fresh_default (c := P1.m.cls) tyB
    rw [htB] at this
    simpa [npeCell, preparedCellV, Cell.setSlot, Cell.withEntry, Array.getElem?_setIfInBounds, bC, bS, bP, bX, bC.symm, bS.symm, bP.symm, bX.symm, defaultValue] using this
  have tkC := Takes.of_laid (v := .ref W.heap.size) hk hordN tyC (by rw [Y.causeType]; rfl)
  have tkS := Takes.of_laid (v := u0.v) hk hordN tyS (by rw [Y.stackType]; exact fits_refV_array _ u0)
  have tkP := Takes.of_laid (v := sen.v) hk hordN tyP (by rw [Y.suppType]; exact fits_refV_object _ sen)
  have tkX := Takes.of_laid (v := .int 1) hk hordN tyX (by rw [htX]; rfl)
  have hskip : SkipFacts T e.platform s (fun u => u) u0 ((npeCell N.toNpeT (preparedCellV T.toThrowableT (freshCell P1.m.cls N.kN) W.heap.size u0 sen) W.cur).withEntry W.cur) := ⟨{ ci198 := ci198, i198 := i198, fBack := fB }, ⟨hk198, hg198, ha198, hsB⟩, hbk, fun _ _ => rfl⟩
  obtain ⟨vm', X3, st, -⟩ := X.throwsNpeColdBareVAt hexec hg hsize T L Z LZ N LN P1 L1 [PR, PE] hLs hlink1 ⟨hlinkR, hlinkE, trivial⟩ hfound hk hinit hordN hctor hsel0 hselF hcellS hknownS hvU hvSen
    hv0 xC xS xP tkC tkS tkP tkX Y.objLocals hskip (fun _ _ hA hW _ hroom _ hrest => L.nativeOff p htr hA hW hroom hrest) (by simpa using hRframes) hRlocals (by simp) hRcells (by rw [hn]; exact hRslots)
  have hlt : W.heap.size < ((W.pushCell (freshCell P1.m.cls N.kN)).setVm vm').heap.size := by
    show W.heap.size < (W.pushCell (freshCell P1.m.cls N.kN)).heap.size
    rw [State.heap_size_pushCell]; omega
  rw [hfsz] at X3
  obtain ⟨g₁, hfrM⟩ := X3.frames_eq
  have hU : ((((W.pushCell (freshCell P1.m.cls N.kN)).setVm vm').setCell W.heap.size (npeBareV T.toThrowableT N.toNpeT (freshCell P1.m.cls N.kN) W.heap.size u0 sen)).setTop g).pushFrame (.throwing W.heap.size) = (((W.pushCell (freshCell P1.m.cls N.kN)).setVm vm').setCell W.heap.size (npeBareV T.toThrowableT N.toNpeT (freshCell P1.m.cls N.kN) W.heap.size u0 sen)).setFrames (.throwing W.heap.size :: .java g :: below) := by
    rw [State.pushFrame, State.frames_setTop _ hfrM, State.setTop_of_frames _ hfrM, State.setFrames_setFrames]
  refine ⟨_, W.heap.size, _, fun target ht => st.trans (by rw [← hU]; exact ht), X3.forget (fun y hy => ?_), heapAt_setCell_self _ hlt, hfound, rfl⟩
  simp only [List.mem_cons, List.not_mem_nil, or_false] at hy
  have hge : s.heap.size ≤ W.heap.size := X.same.2.1
  rcases hy with rfl | rfl | rfl | rfl | rfl <;> exact hge
/-- the words of a machine's NullPointerException, but the four that speak of the heap -/
def vx_atN (n : Nat) : List Cond := (Bundle.npeArmAtoms n).filter vx_no
/-- the words of a machine's throw with a message, but the four that speak of the heap -/
def vx_atM (X : String) (names : List String) : List Cond := (Bundle.messageArmAtoms X names).filter vx_no
section
variable {p : Program} {l : Launch} {e : Env} {R : Room} {s : State} {m : MethodId} {args : Array Value} {below : List Frame} {meth : Method} {c : Code} {H : Heap} {locs : List Loc} {cells slots : Nat}
/-- a frame seen from a rebased start, seen from the first start again -/
theorem vx_back9 {T S : State} {R' : Room} {k n : Nat} (X : Stand p l e R s m args below meth c T locs cells slots) (Y : Stand p l e R' ((T.setVm s.vm).setFrames (.invoking m args :: below)) m args below meth c T [] 0 0) (Z : Stand p l e R' ((T.setVm s.vm).setFrames (.invoking m args :: below)) m args below meth c S [] k n) :
    Stand p l e R s m args below meth c S locs (cells + k) (slots + n) := by
  have hW0 : s.WarmedH ((T.setVm s.vm).setFrames (.invoking m args :: below)).vm := State.WarmedH.refl s
  refine { admits := X.admits, cas := X.cas, clock := X.clock, frames := X.frames, room := X.room, hears := X.hears, method := X.method, code := X.code, here := Z.here, tail := Z.tail, warmed := State.WarmedH.trans hW0 Z.warmed, limits := Z.limits.trans (Y.limits.symm.trans X.limits), bytes := Z.bytes.trans (Y.bytes.symm.trans X.bytes), same := ?_ }
  obtain ⟨e1, e2⟩ := Z.same
  rw [State.setFrames_setFrames] at e1
  have h2 : (T.setVm s.vm).sameButNew (S.setVm s.vm) [] k n := ⟨e1, e2⟩
  have h3 := X.same.trans h2
  rw [List.append_nil] at h3
  exact h3
/-- from the machine's note that E is thrown here with this text -/
def vx_Note (p : Program) (l : Launch) (e : Env) (R : Room) (s : State) (m : MethodId) (args : Array Value) (below : List Frame) (meth : Method) (c : Code) (H : Heap) (locs : List Loc) (cells slots : Nat) (Q : State → Prop) (g : JFrame) (E text : String) : Prop :=
  ∀ T : State, T.heap = H → Stand p l e R s m args below meth c T locs cells slots → ∃ t, Steps p.tables e below ((T.setTop g).pushFrame (.throwNew E (some text) none)) t ∧ Q t
theorem vx_vm {pc : Nat} {ls : Array Slot} {rest : List Value} {Q : State → Prop} (hexec : p.tables.exec = Jvm.exec) (hl : l.stackTraces = false) {cls text : String} {names : List String} {nb : Nat} {A : Nat → Prop}
    (hcls : Bundle.fit cls = true) (hnames : ∀ n ∈ names, Bundle.fit n = true) (hsoe : (cls == "java/lang/StackOverflowError") = false) (hoom : (cls == "java/lang/OutOfMemoryError") = false)
    (hat : ∀ w ∈ vx_atM cls names, w.before args s = true) (hgood : ∀ w ∈ vx_atM cls names, vx_ot w = true)
    (hU : vx_Zq Bundle.tN "UNASSIGNED_STACK" Bundle.steD A s s.heap) (hN : vx_Zq Bundle.tN "SUPPRESSED_SENTINEL" Bundle.listD A s s.heap) (hS : va_S A s.heap H locs) (hsize : ls.size = c.maxLocals)
    (htext : (text == notModelled) = false) (hnb : (stringBytes (stringToUtf16 text)).size ≤ nb) (hnb1 : nb ≤ 1000)
    (hRframes : names.length + 4 < R.frames) (hRlocals : (rest.map fun v => v.category).sum + 10240 ≤ R.locals) (hshort : 13 * names.length + 55 ≤ 10240) (hRcells : cells + 3 ≤ R.cells) (hRslots : slots + (nb + 10) ≤ R.slots) (hlocks : meth.locks = false)
    (k : ∀ (H1 : Heap) (q9 : Addr) (ce : Cell), H.size ≤ H1.size → (∀ q : Nat, q < H.size → H1[q]? = H[q]?) → va_S A s.heap H1 locs → H1[q9]? = some ce → ce.vm = .none → s.vm.findClass cls = some ce.cls → vx_W p l e R s m args below meth c H1 locs (cells + 3) (slots + (nb + 10)) Q (F0 m pc ls rest) q9) :
    vx_Note p l e R s m args below meth c H locs cells slots Q (F0 m pc ls rest) cls text := by
  intro T hT X
  have htr : e.platform.stackTraces = false := (show e.platform.stackTraces = l.stackTraces by rw [X.admits.platform]).trans hl
  have Y := vx_rebase X (R' := { frames := R.frames, locals := R.locals, cells := 3, slots := nb + 10 }) (Nat.le_refl _) (Nat.le_refl _) hRcells hRslots
  have hhp : ((T.setVm s.vm).setFrames (.invoking m args :: below)).heap = H := hT
  have hW0 : s.WarmedH ((T.setVm s.vm).setFrames (.invoking m args :: below)).vm := State.WarmedH.refl s
  have hat' : ∀ w ∈ vx_atM cls names, w.before args ((T.setVm s.vm).setFrames (.invoking m args :: below)) = true := fun w hw => vx_ot_at hW0 rfl (hgood w hw) (hat w hw)
  have hU' : vx_Zq Bundle.tN "UNASSIGNED_STACK" Bundle.steD A ((T.setVm s.vm).setFrames (.invoking m args :: below)) ((T.setVm s.vm).setFrames (.invoking m args :: below)).heap := by rw [hhp]; exact vx_Zq.moved hW0.alike (hU.kept hS.2.1)
  have hN' : vx_Zq Bundle.tN "SUPPRESSED_SENTINEL" Bundle.listD A ((T.setVm s.vm).setFrames (.invoking m args :: below)) ((T.setVm s.vm).setFrames (.invoking m args :: below)).heap := by rw [hhp]; exact vx_Zq.moved hW0.alike (hN.kept hS.2.1)
  obtain ⟨S, q, ce, st, Z, hce, hcl', hv⟩ := vx_vmAt Y hexec htr (cls := cls) (names := names) (text := text) hcls hnames hsoe hoom (vx_own hat' (vx_isRefq hU'.1) (vx_isRefq hN'.1) hU'.2.word hN'.2.word) (fun x hx => nomatch hx) htext
    (by rw [Launch.admits_arrayLengthLimit X.admits]; omega) (by rw [Launch.admits_maxHeapBytes X.admits]; simp only [componentBytes]; omega)
    (g := F0 m pc ls rest) rfl hsize hRframes (by show 2 * 0 + (rest.map fun v => v.category).sum + 10240 ≤ R.locals; omega) hshort (by show 0 + 3 ≤ 3; omega) (by show 0 + (_ + 4 + 6) ≤ nb + 10; omega) hlocks
  obtain ⟨f1, f2⟩ := vx_frame Z.same
  have f1' : H.size ≤ S.heap.size := by rw [← hT]; exact f1
  have f2' : ∀ q : Nat, q < H.size → S.heap[q]? = H[q]? := fun q hq => by
    rw [← hT]
    exact f2 q (by rw [← hT] at hq; exact hq) (fun z hz => nomatch hz)
  have X5 := vx_back9 X Y Z
  have X6 : Stand p l e R s m args below meth c S locs (cells + 3) (slots + (nb + 10)) := { X5 with same := X5.same.mono (by omega) (by omega) }
  obtain ⟨t, a1, b1⟩ := k S.heap q ce f1' f2' ⟨Nat.le_trans hS.1 f1', fun q h1 h2 => (f2' q (Nat.lt_of_lt_of_le h1 hS.1)).trans (hS.2.1 q h1 h2), hS.2.2⟩ hce hv hcl' S rfl X6
  exact ⟨t, st t a1, b1⟩
/-- from the machine's note that NullPointerException is thrown here -/
def vx_NoteN (p : Program) (l : Launch) (e : Env) (R : Room) (s : State) (m : MethodId) (args : Array Value) (below : List Frame) (meth : Method) (c : Code) (H : Heap) (locs : List Loc) (cells slots : Nat) (Q : State → Prop) (g : JFrame) : Prop :=
  ∀ T : State, T.heap = H → Stand p l e R s m args below meth c T locs cells slots → ∃ t, Steps p.tables e below ((T.setTop g).pushFrame (.throwNew "java/lang/NullPointerException" none none)) t ∧ Q t
theorem vx_npe {pc : Nat} {ls : Array Slot} {rest : List Value} {Q : State → Prop} (hexec : p.tables.exec = Jvm.exec) (hl : l.stackTraces = false) {nb : Nat} {A : Nat → Prop}
    (hat : ∀ w ∈ vx_atN nb, w.before args s = true) (hgood : ∀ w ∈ vx_atN nb, vx_ot w = true)
    (hU : vx_Zq Bundle.tN "UNASSIGNED_STACK" Bundle.steD A s s.heap) (hN : vx_Zq Bundle.tN "SUPPRESSED_SENTINEL" Bundle.listD A s s.heap) (hS : va_S A s.heap H locs) (hsize : ls.size = c.maxLocals)
    (hRframes : 7 < R.frames) (hRlocals : (rest.map fun v => v.category).sum + 10240 ≤ R.locals) (hRcells : cells + 1 ≤ R.cells) (hRslots : slots + nb ≤ R.slots) (hlocks : meth.locks = false)
    (k : ∀ (H1 : Heap) (q9 : Addr) (ce : Cell), H.size ≤ H1.size → (∀ q : Nat, q < H.size → H1[q]? = H[q]?) → va_S A s.heap H1 locs → H1[q9]? = some ce → ce.vm = .none → s.vm.findClass "java/lang/NullPointerException" = some ce.cls → vx_W p l e R s m args below meth c H1 locs (cells + 1) (slots + nb) Q (F0 m pc ls rest) q9) :
    vx_NoteN p l e R s m args below meth c H locs cells slots Q (F0 m pc ls rest) := by
  intro T hT X
  have htr : e.platform.stackTraces = false := (show e.platform.stackTraces = l.stackTraces by rw [X.admits.platform]).trans hl
  have Y := vx_rebase X (R' := { frames := R.frames, locals := R.locals, cells := 1, slots := nb }) (Nat.le_refl _) (Nat.le_refl _) hRcells hRslots
  have hhp : ((T.setVm s.vm).setFrames (.invoking m args :: below)).heap = H := hT
  have hW0 : s.WarmedH ((T.setVm s.vm).setFrames (.invoking m args :: below)).vm := State.WarmedH.refl s
  have hat' : ∀ w ∈ vx_atN nb, w.before args ((T.setVm s.vm).setFrames (.invoking m args :: below)) = true := fun w hw => vx_ot_at hW0 rfl (hgood w hw) (hat w hw)
  have hU' : vx_Zq Bundle.tN "UNASSIGNED_STACK" Bundle.steD A ((T.setVm s.vm).setFrames (.invoking m args :: below)) ((T.setVm s.vm).setFrames (.invoking m args :: below)).heap := by rw [hhp]; exact vx_Zq.moved hW0.alike (hU.kept hS.2.1)
  have hN' : vx_Zq Bundle.tN "SUPPRESSED_SENTINEL" Bundle.listD A ((T.setVm s.vm).setFrames (.invoking m args :: below)) ((T.setVm s.vm).setFrames (.invoking m args :: below)).heap := by rw [hhp]; exact vx_Zq.moved hW0.alike (hN.kept hS.2.1)
  obtain ⟨S, q, ce, st, Z, hce, hcl', hv⟩ := vx_npeAt Y hexec htr (n := nb) (vx_own hat' (vx_isRefq hU'.1) (vx_isRefq hN'.1) hU'.2.word hN'.2.word) (fun x hx => nomatch hx)
    (g := F0 m pc ls rest) rfl hsize hRframes (by show 2 * 0 + (rest.map fun v => v.category).sum + 10240 ≤ R.locals; omega) (by show 0 + 1 ≤ 1; omega) (by show 0 + nb ≤ nb; omega) hlocks
  obtain ⟨f1, f2⟩ := vx_frame Z.same
  have f1' : H.size ≤ S.heap.size := by rw [← hT]; exact f1
  have f2' : ∀ q : Nat, q < H.size → S.heap[q]? = H[q]? := fun q hq => by
    rw [← hT]
    exact f2 q (by rw [← hT] at hq; exact hq) (fun z hz => nomatch hz)
  have X5 := vx_back9 X Y Z
  have X6 : Stand p l e R s m args below meth c S locs (cells + 1) (slots + nb) := { X5 with same := X5.same.mono (by omega) (by omega) }
  obtain ⟨t, a1, b1⟩ := k S.heap q ce f1' f2' ⟨Nat.le_trans hS.1 f1', fun q h1 h2 => (f2' q (Nat.lt_of_lt_of_le h1 hS.1)).trans (hS.2.1 q h1 h2), hS.2.2⟩ hce hv hcl' S rfl X6
  exact ⟨t, st t a1, b1⟩
variable {Q : State → Prop} {cc : ByteArray} {pc : Nat} {ls : Array Slot} {rest : List Value}
theorem vx_idivZ (hexec : p.tables.exec = Jvm.exec) (hb : c.code = cc) {a b : Int32} (h0 : b = 0) (d : decode cc pc = .ok (.idiv, 1)) (k : vx_Note p l e R s m args below meth c H locs cells slots Q (F0 m pc ls rest) "java/lang/ArithmeticException" "/ by zero") :
    W p l e R s m args below meth c H locs cells slots Q (F0 m pc ls (.int b :: .int a :: rest)) := by
  intro T hT X
  obtain ⟨t, st, q⟩ := k T hT X
  exact ⟨t, X.idivZero hexec (g := F0 m pc ls (.int b :: .int a :: rest)) rfl (a := a) (rest := rest) (by rw [h0]) (by rw [hb]; exact d) t st, q⟩
theorem vx_iremZ (hexec : p.tables.exec = Jvm.exec) (hb : c.code = cc) {a b : Int32} (h0 : b = 0) (d : decode cc pc = .ok (.irem, 1)) (k : vx_Note p l e R s m args below meth c H locs cells slots Q (F0 m pc ls rest) "java/lang/ArithmeticException" "/ by zero") :
    W p l e R s m args below meth c H locs cells slots Q (F0 m pc ls (.int b :: .int a :: rest)) := by
  intro T hT X
  obtain ⟨t, st, q⟩ := k T hT X
  exact ⟨t, X.iremZero hexec (g := F0 m pc ls (.int b :: .int a :: rest)) rfl (a := a) (rest := rest) (by rw [h0]) (by rw [hb]; exact d) t st, q⟩
theorem vx_ldivZ (hexec : p.tables.exec = Jvm.exec) (hb : c.code = cc) {a b : Int64} (h0 : b = 0) (d : decode cc pc = .ok (.ldiv, 1)) (k : vx_Note p l e R s m args below meth c H locs cells slots Q (F0 m pc ls rest) "java/lang/ArithmeticException" "/ by zero") :
    W p l e R s m args below meth c H locs cells slots Q (F0 m pc ls (.long b :: .long a :: rest)) := by
  intro T hT X
  obtain ⟨t, st, q⟩ := k T hT X
  exact ⟨t, X.ldivZero hexec (g := F0 m pc ls (.long b :: .long a :: rest)) rfl (a := a) (rest := rest) (by rw [h0]) (by rw [hb]; exact d) t st, q⟩
theorem vx_lremZ (hexec : p.tables.exec = Jvm.exec) (hb : c.code = cc) {a b : Int64} (h0 : b = 0) (d : decode cc pc = .ok (.lrem, 1)) (k : vx_Note p l e R s m args below meth c H locs cells slots Q (F0 m pc ls rest) "java/lang/ArithmeticException" "/ by zero") :
    W p l e R s m args below meth c H locs cells slots Q (F0 m pc ls (.long b :: .long a :: rest)) := by
  intro T hT X
  obtain ⟨t, st, q⟩ := k T hT X
  exact ⟨t, X.lremZero hexec (g := F0 m pc ls (.long b :: .long a :: rest)) rfl (a := a) (rest := rest) (by rw [h0]) (by rw [hb]; exact d) t st, q⟩
theorem vx_ialdZ {D : va_G} {cl : List vw_C} {ws : va_W} {tys : List (ClassId × FieldType)} {a : Nat} (hexec : p.tables.exec = Jvm.exec) (hb : c.code = cc) (hK : va_K D cl tys s) (hP : va_P D cl ws H) (q0 t0 : Nat) {cA : ClassId} {n : Nat} {f : Nat → Int32} (ha : ws[q0]? = some (a, .inl (cA, n, .inl f))) (ht : tys[t0]? = some (cA, .int)) {i : Int32} (hout : ¬ vp_in i n) (hdg : decode cc pc = .ok (.iaload, 1))
    (k : ∀ tx : String, tx = (toString "Index " ++ toString i ++ toString " out of bounds for length " ++ toString n : String) → vx_Note p l e R s m args below meth c H locs cells slots Q (F0 m pc ls rest) "java/lang/ArrayIndexOutOfBoundsException" tx) : W p l e R s m args below meth c H locs cells slots Q (F0 m pc ls (.int i :: .ref a :: rest)) := by
  intro T hT X
  obtain ⟨t, st, q⟩ := k _ rfl T hT X
  refine ⟨t, ?_, q⟩
  have h1 := X.ialoadOut hexec (by rw [hT]; exact hP q0 _ ha) ((hK.2 t0 _ ht).1 n (fun j => .int (f j))) (j := i) (by show (i < 0 ∨ (arrV _ _ _).slots.size ≤ _); rw [arrV_size]; exact Classical.byContradiction hout) (g := F0 m pc ls (.int i :: .ref a :: rest)) rfl (rest := rest) rfl (by rw [hb]; exact hdg) t
  simp only [arrV_size] at h1
  exact h1 st
theorem vx_iastZ {D : va_G} {cl : List vw_C} {ws : va_W} {tys : List (ClassId × FieldType)} {a : Nat} (hexec : p.tables.exec = Jvm.exec) (hb : c.code = cc) (hK : va_K D cl tys s) (hP : va_P D cl ws H) (q0 t0 : Nat) {cA : ClassId} {n : Nat} {f : Nat → Int32} (ha : ws[q0]? = some (a, .inl (cA, n, .inl f))) (ht : tys[t0]? = some (cA, .int)) {i : Int32} {x : Int32} (hout : ¬ vp_in i n) (hdg : decode cc pc = .ok (.iastore, 1))
    (k : ∀ tx : String, tx = (toString "Index " ++ toString i ++ toString " out of bounds for length " ++ toString n : String) → vx_Note p l e R s m args below meth c H locs cells slots Q (F0 m pc ls rest) "java/lang/ArrayIndexOutOfBoundsException" tx) : W p l e R s m args below meth c H locs cells slots Q (F0 m pc ls (.int x :: .int i :: .ref a :: rest)) := by
  intro T hT X
  obtain ⟨t, st, q⟩ := k _ rfl T hT X
  refine ⟨t, ?_, q⟩
  have h1 := X.iastoreOut hexec (by rw [hT]; exact hP q0 _ ha) ((hK.2 t0 _ ht).1 n (fun j => .int (f j))) (j := i) (by show (i < 0 ∨ (arrV _ _ _).slots.size ≤ _); rw [arrV_size]; exact Classical.byContradiction hout) (g := F0 m pc ls (.int x :: .int i :: .ref a :: rest)) rfl (rest := rest) rfl (by rw [hb]; exact hdg) t
  simp only [arrV_size] at h1
  exact h1 st
theorem vx_baldZ {D : va_G} {cl : List vw_C} {ws : va_W} {tys : List (ClassId × FieldType)} {a : Nat} (hexec : p.tables.exec = Jvm.exec) (hb : c.code = cc) (hK : va_K D cl tys s) (hP : va_P D cl ws H) (q0 t0 : Nat) {cA : ClassId} {n : Nat} {f : Nat → Int32} (ha : ws[q0]? = some (a, .inl (cA, n, .inl f))) (ht : tys[t0]? = some (cA, .byte)) {i : Int32} (hout : ¬ vp_in i n) (hdg : decode cc pc = .ok (.baload, 1))
    (k : ∀ tx : String, tx = (toString "Index " ++ toString i ++ toString " out of bounds for length " ++ toString n : String) → vx_Note p l e R s m args below meth c H locs cells slots Q (F0 m pc ls rest) "java/lang/ArrayIndexOutOfBoundsException" tx) : W p l e R s m args below meth c H locs cells slots Q (F0 m pc ls (.int i :: .ref a :: rest)) := by
  intro T hT X
  obtain ⟨t, st, q⟩ := k _ rfl T hT X
  refine ⟨t, ?_, q⟩
  have h1 := X.baloadOut hexec (by rw [hT]; exact hP q0 _ ha) ((hK.2 t0 _ ht).1 n (fun j => .int (f j))) (j := i) (by show (i < 0 ∨ (arrV _ _ _).slots.size ≤ _); rw [arrV_size]; exact Classical.byContradiction hout) (g := F0 m pc ls (.int i :: .ref a :: rest)) rfl (rest := rest) rfl (by rw [hb]; exact hdg) t
  simp only [arrV_size] at h1
  exact h1 st
theorem vx_bastZ {D : va_G} {cl : List vw_C} {ws : va_W} {tys : List (ClassId × FieldType)} {a : Nat} (hexec : p.tables.exec = Jvm.exec) (hb : c.code = cc) (hK : va_K D cl tys s) (hP : va_P D cl ws H) (q0 t0 : Nat) {cA : ClassId} {n : Nat} {f : Nat → Int32} (ha : ws[q0]? = some (a, .inl (cA, n, .inl f))) (ht : tys[t0]? = some (cA, .byte)) {i : Int32} {x : Int32} (hout : ¬ vp_in i n) (hdg : decode cc pc = .ok (.bastore, 1))
    (k : ∀ tx : String, tx = (toString "Index " ++ toString i ++ toString " out of bounds for length " ++ toString n : String) → vx_Note p l e R s m args below meth c H locs cells slots Q (F0 m pc ls rest) "java/lang/ArrayIndexOutOfBoundsException" tx) : W p l e R s m args below meth c H locs cells slots Q (F0 m pc ls (.int x :: .int i :: .ref a :: rest)) := by
  intro T hT X
  obtain ⟨t, st, q⟩ := k _ rfl T hT X
  refine ⟨t, ?_, q⟩
  have h1 := X.bastoreOut hexec (by rw [hT]; exact hP q0 _ ha) ((hK.2 t0 _ ht).1 n (fun j => .int (f j))) (j := i) (by show (i < 0 ∨ (arrV _ _ _).slots.size ≤ _); rw [arrV_size]; exact Classical.byContradiction hout) (g := F0 m pc ls (.int x :: .int i :: .ref a :: rest)) rfl (rest := rest) rfl (by rw [hb]; exact hdg) t
  simp only [arrV_size] at h1
  exact h1 st
theorem vx_zaldZ {D : va_G} {cl : List vw_C} {ws : va_W} {tys : List (ClassId × FieldType)} {a : Nat} (hexec : p.tables.exec = Jvm.exec) (hb : c.code = cc) (hK : va_K D cl tys s) (hP : va_P D cl ws H) (q0 t0 : Nat) {cA : ClassId} {n : Nat} {f : Nat → Int32} (ha : ws[q0]? = some (a, .inl (cA, n, .inl f))) (ht : tys[t0]? = some (cA, .boolean)) {i : Int32} (hout : ¬ vp_in i n) (hdg : decode cc pc = .ok (.baload, 1))
    (k : ∀ tx : String, tx = (toString "Index " ++ toString i ++ toString " out of bounds for length " ++ toString n : String) → vx_Note p l e R s m args below meth c H locs cells slots Q (F0 m pc ls rest) "java/lang/ArrayIndexOutOfBoundsException" tx) : W p l e R s m args below meth c H locs cells slots Q (F0 m pc ls (.int i :: .ref a :: rest)) := by
  intro T hT X
  obtain ⟨t, st, q⟩ := k _ rfl T hT X
  refine ⟨t, ?_, q⟩
  have h1 := X.baloadOut hexec (by rw [hT]; exact hP q0 _ ha) ((hK.2 t0 _ ht).1 n (fun j => .int (f j))) (j := i) (by show (i < 0 ∨ (arrV _ _ _).slots.size ≤ _); rw [arrV_size]; exact Classical.byContradiction hout) (g := F0 m pc ls (.int i :: .ref a :: rest)) rfl (rest := rest) rfl (by rw [hb]; exact hdg) t
  simp only [arrV_size] at h1
  exact h1 st
theorem vx_zastZ {D : va_G} {cl : List vw_C} {ws : va_W} {tys : List (ClassId × FieldType)} {a : Nat} (hexec : p.tables.exec = Jvm.exec) (hb : c.code = cc) (hK : va_K D cl tys s) (hP : va_P D cl ws H) (q0 t0 : Nat) {cA : ClassId} {n : Nat} {f : Nat → Int32} (ha : ws[q0]? = some (a, .inl (cA, n, .inl f))) (ht : tys[t0]? = some (cA, .boolean)) {i : Int32} {x : Int32} (hout : ¬ vp_in i n) (hdg : decode cc pc = .ok (.bastore, 1))
    (k : ∀ tx : String, tx = (toString "Index " ++ toString i ++ toString " out of bounds for length " ++ toString n : String) → vx_Note p l e R s m args below meth c H locs cells slots Q (F0 m pc ls rest) "java/lang/ArrayIndexOutOfBoundsException" tx) : W p l e R s m args below meth c H locs cells slots Q (F0 m pc ls (.int x :: .int i :: .ref a :: rest)) := by
  intro T hT X
  obtain ⟨t, st, q⟩ := k _ rfl T hT X
  refine ⟨t, ?_, q⟩
  have h1 := X.bastoreOut hexec (by rw [hT]; exact hP q0 _ ha) ((hK.2 t0 _ ht).1 n (fun j => .int (f j))) (j := i) (by show (i < 0 ∨ (arrV _ _ _).slots.size ≤ _); rw [arrV_size]; exact Classical.byContradiction hout) (g := F0 m pc ls (.int x :: .int i :: .ref a :: rest)) rfl (rest := rest) rfl (by rw [hb]; exact hdg) t
  simp only [arrV_size] at h1
  exact h1 st
theorem vx_caldZ {D : va_G} {cl : List vw_C} {ws : va_W} {tys : List (ClassId × FieldType)} {a : Nat} (hexec : p.tables.exec = Jvm.exec) (hb : c.code = cc) (hK : va_K D cl tys s) (hP : va_P D cl ws H) (q0 t0 : Nat) {cA : ClassId} {n : Nat} {f : Nat → Int32} (ha : ws[q0]? = some (a, .inl (cA, n, .inl f))) (ht : tys[t0]? = some (cA, .char)) {i : Int32} (hout : ¬ vp_in i n) (hdg : decode cc pc = .ok (.caload, 1))
    (k : ∀ tx : String, tx = (toString "Index " ++ toString i ++ toString " out of bounds for length " ++ toString n : String) → vx_Note p l e R s m args below meth c H locs cells slots Q (F0 m pc ls rest) "java/lang/ArrayIndexOutOfBoundsException" tx) : W p l e R s m args below meth c H locs cells slots Q (F0 m pc ls (.int i :: .ref a :: rest)) := by
  intro T hT X
  obtain ⟨t, st, q⟩ := k _ rfl T hT X
  refine ⟨t, ?_, q⟩
  have h1 := X.caloadOut hexec (by rw [hT]; exact hP q0 _ ha) ((hK.2 t0 _ ht).1 n (fun j => .int (f j))) (j := i) (by show (i < 0 ∨ (arrV _ _ _).slots.size ≤ _); rw [arrV_size]; exact Classical.byContradiction hout) (g := F0 m pc ls (.int i :: .ref a :: rest)) rfl (rest := rest) rfl (by rw [hb]; exact hdg) t
  simp only [arrV_size] at h1
  exact h1 st
theorem vx_castZ {D : va_G} {cl : List vw_C} {ws : va_W} {tys : List (ClassId × FieldType)} {a : Nat} (hexec : p.tables.exec = Jvm.exec) (hb : c.code = cc) (hK : va_K D cl tys s) (hP : va_P D cl ws H) (q0 t0 : Nat) {cA : ClassId} {n : Nat} {f : Nat → Int32} (ha : ws[q0]? = some (a, .inl (cA, n, .inl f))) (ht : tys[t0]? = some (cA, .char)) {i : Int32} {x : Int32} (hout : ¬ vp_in i n) (hdg : decode cc pc = .ok (.castore, 1))
    (k : ∀ tx : String, tx = (toString "Index " ++ toString i ++ toString " out of bounds for length " ++ toString n : String) → vx_Note p l e R s m args below meth c H locs cells slots Q (F0 m pc ls rest) "java/lang/ArrayIndexOutOfBoundsException" tx) : W p l e R s m args below meth c H locs cells slots Q (F0 m pc ls (.int x :: .int i :: .ref a :: rest)) := by
  intro T hT X
  obtain ⟨t, st, q⟩ := k _ rfl T hT X
  refine ⟨t, ?_, q⟩
  have h1 := X.castoreOut hexec (by rw [hT]; exact hP q0 _ ha) ((hK.2 t0 _ ht).1 n (fun j => .int (f j))) (j := i) (by show (i < 0 ∨ (arrV _ _ _).slots.size ≤ _); rw [arrV_size]; exact Classical.byContradiction hout) (g := F0 m pc ls (.int x :: .int i :: .ref a :: rest)) rfl (rest := rest) rfl (by rw [hb]; exact hdg) t
  simp only [arrV_size] at h1
  exact h1 st
theorem vx_saldZ {D : va_G} {cl : List vw_C} {ws : va_W} {tys : List (ClassId × FieldType)} {a : Nat} (hexec : p.tables.exec = Jvm.exec) (hb : c.code = cc) (hK : va_K D cl tys s) (hP : va_P D cl ws H) (q0 t0 : Nat) {cA : ClassId} {n : Nat} {f : Nat → Int32} (ha : ws[q0]? = some (a, .inl (cA, n, .inl f))) (ht : tys[t0]? = some (cA, .short)) {i : Int32} (hout : ¬ vp_in i n) (hdg : decode cc pc = .ok (.saload, 1))
    (k : ∀ tx : String, tx = (toString "Index " ++ toString i ++ toString " out of bounds for length " ++ toString n : String) → vx_Note p l e R s m args below meth c H locs cells slots Q (F0 m pc ls rest) "java/lang/ArrayIndexOutOfBoundsException" tx) : W p l e R s m args below meth c H locs cells slots Q (F0 m pc ls (.int i :: .ref a :: rest)) := by
  intro T hT X
  obtain ⟨t, st, q⟩ := k _ rfl T hT X
  refine ⟨t, ?_, q⟩
  have h1 := X.saloadOut hexec (by rw [hT]; exact hP q0 _ ha) ((hK.2 t0 _ ht).1 n (fun j => .int (f j))) (j := i) (by show (i < 0 ∨ (arrV _ _ _).slots.size ≤ _); rw [arrV_size]; exact Classical.byContradiction hout) (g := F0 m pc ls (.int i :: .ref a :: rest)) rfl (rest := rest) rfl (by rw [hb]; exact hdg) t
  simp only [arrV_size] at h1
  exact h1 st
theorem vx_sastZ {D : va_G} {cl : List vw_C} {ws : va_W} {tys : List (ClassId × FieldType)} {a : Nat} (hexec : p.tables.exec = Jvm.exec) (hb : c.code = cc) (hK : va_K D cl tys s) (hP : va_P D cl ws H) (q0 t0 : Nat) {cA : ClassId} {n : Nat} {f : Nat → Int32} (ha : ws[q0]? = some (a, .inl (cA, n, .inl f))) (ht : tys[t0]? = some (cA, .short)) {i : Int32} {x : Int32} (hout : ¬ vp_in i n) (hdg : decode cc pc = .ok (.sastore, 1))
    (k : ∀ tx : String, tx = (toString "Index " ++ toString i ++ toString " out of bounds for length " ++ toString n : String) → vx_Note p l e R s m args below meth c H locs cells slots Q (F0 m pc ls rest) "java/lang/ArrayIndexOutOfBoundsException" tx) : W p l e R s m args below meth c H locs cells slots Q (F0 m pc ls (.int x :: .int i :: .ref a :: rest)) := by
  intro T hT X
  obtain ⟨t, st, q⟩ := k _ rfl T hT X
  refine ⟨t, ?_, q⟩
  have h1 := X.sastoreOut hexec (by rw [hT]; exact hP q0 _ ha) ((hK.2 t0 _ ht).1 n (fun j => .int (f j))) (j := i) (by show (i < 0 ∨ (arrV _ _ _).slots.size ≤ _); rw [arrV_size]; exact Classical.byContradiction hout) (g := F0 m pc ls (.int x :: .int i :: .ref a :: rest)) rfl (rest := rest) rfl (by rw [hb]; exact hdg) t
  simp only [arrV_size] at h1
  exact h1 st
theorem vx_laldZ {D : va_G} {cl : List vw_C} {ws : va_W} {tys : List (ClassId × FieldType)} {a : Nat} (hexec : p.tables.exec = Jvm.exec) (hb : c.code = cc) (hK : va_K D cl tys s) (hP : va_P D cl ws H) (q0 t0 : Nat) {cA : ClassId} {n : Nat} {f : Nat → Int64} (ha : ws[q0]? = some (a, .inl (cA, n, .inr (.inl f)))) (ht : tys[t0]? = some (cA, .long)) {i : Int32} (hout : ¬ vp_in i n) (hdg : decode cc pc = .ok (.laload, 1))
    (k : ∀ tx : String, tx = (toString "Index " ++ toString i ++ toString " out of bounds for length " ++ toString n : String) → vx_Note p l e R s m args below meth c H locs cells slots Q (F0 m pc ls rest) "java/lang/ArrayIndexOutOfBoundsException" tx) : W p l e R s m args below meth c H locs cells slots Q (F0 m pc ls (.int i :: .ref a :: rest)) := by
  intro T hT X
  obtain ⟨t, st, q⟩ := k _ rfl T hT X
  refine ⟨t, ?_, q⟩
  have h1 := X.laloadOut hexec (by rw [hT]; exact hP q0 _ ha) ((hK.2 t0 _ ht).1 n (fun j => .long (f j))) (j := i) (by show (i < 0 ∨ (arrV _ _ _).slots.size ≤ _); rw [arrV_size]; exact Classical.byContradiction hout) (g := F0 m pc ls (.int i :: .ref a :: rest)) rfl (rest := rest) rfl (by rw [hb]; exact hdg) t
  simp only [arrV_size] at h1
  exact h1 st
theorem vx_lastZ {D : va_G} {cl : List vw_C} {ws : va_W} {tys : List (ClassId × FieldType)} {a : Nat} (hexec : p.tables.exec = Jvm.exec) (hb : c.code = cc) (hK : va_K D cl tys s) (hP : va_P D cl ws H) (q0 t0 : Nat) {cA : ClassId} {n : Nat} {f : Nat → Int64} (ha : ws[q0]? = some (a, .inl (cA, n, .inr (.inl f)))) (ht : tys[t0]? = some (cA, .long)) {i : Int32} {x : Int64} (hout : ¬ vp_in i n) (hdg : decode cc pc = .ok (.lastore, 1))
    (k : ∀ tx : String, tx = (toString "Index " ++ toString i ++ toString " out of bounds for length " ++ toString n : String) → vx_Note p l e R s m args below meth c H locs cells slots Q (F0 m pc ls rest) "java/lang/ArrayIndexOutOfBoundsException" tx) : W p l e R s m args below meth c H locs cells slots Q (F0 m pc ls (.long x :: .int i :: .ref a :: rest)) := by
  intro T hT X
  obtain ⟨t, st, q⟩ := k _ rfl T hT X
  refine ⟨t, ?_, q⟩
  have h1 := X.lastoreOut hexec (by rw [hT]; exact hP q0 _ ha) ((hK.2 t0 _ ht).1 n (fun j => .long (f j))) (j := i) (by show (i < 0 ∨ (arrV _ _ _).slots.size ≤ _); rw [arrV_size]; exact Classical.byContradiction hout) (g := F0 m pc ls (.long x :: .int i :: .ref a :: rest)) rfl (rest := rest) rfl (by rw [hb]; exact hdg) t
  simp only [arrV_size] at h1
  exact h1 st
theorem vx_faldZ {D : va_G} {cl : List vw_C} {ws : va_W} {tys : List (ClassId × FieldType)} {a : Nat} (hexec : p.tables.exec = Jvm.exec) (hb : c.code = cc) (hK : va_K D cl tys s) (hP : va_P D cl ws H) (q0 t0 : Nat) {cA : ClassId} {n : Nat} {f : Nat → UInt32} (ha : ws[q0]? = some (a, .inl (cA, n, .inr (.inr (.inl f))))) (ht : tys[t0]? = some (cA, .float)) {i : Int32} (hout : ¬ vp_in i n) (hdg : decode cc pc = .ok (.faload, 1))
    (k : ∀ tx : String, tx = (toString "Index " ++ toString i ++ toString " out of bounds for length " ++ toString n : String) → vx_Note p l e R s m args below meth c H locs cells slots Q (F0 m pc ls rest) "java/lang/ArrayIndexOutOfBoundsException" tx) : W p l e R s m args below meth c H locs cells slots Q (F0 m pc ls (.int i :: .ref a :: rest)) := by
  intro T hT X
  obtain ⟨t, st, q⟩ := k _ rfl T hT X
  refine ⟨t, ?_, q⟩
  have h1 := X.faloadOut hexec (by rw [hT]; exact hP q0 _ ha) ((hK.2 t0 _ ht).1 n (fun j => .float (f j))) (j := i) (by show (i < 0 ∨ (arrV _ _ _).slots.size ≤ _); rw [arrV_size]; exact Classical.byContradiction hout) (g := F0 m pc ls (.int i :: .ref a :: rest)) rfl (rest := rest) rfl (by rw [hb]; exact hdg) t
  simp only [arrV_size] at h1
  exact h1 st
theorem vx_fastZ {D : va_G} {cl : List vw_C} {ws : va_W} {tys : List (ClassId × FieldType)} {a : Nat} (hexec : p.tables.exec = Jvm.exec) (hb : c.code = cc) (hK : va_K D cl tys s) (hP : va_P D cl ws H) (q0 t0 : Nat) {cA : ClassId} {n : Nat} {f : Nat → UInt32} (ha : ws[q0]? = some (a, .inl (cA, n, .inr (.inr (.inl f))))) (ht : tys[t0]? = some (cA, .float)) {i : Int32} {x : UInt32} (hout : ¬ vp_in i n) (hdg : decode cc pc = .ok (.fastore, 1))
    (k : ∀ tx : String, tx = (toString "Index " ++ toString i ++ toString " out of bounds for length " ++ toString n : String) → vx_Note p l e R s m args below meth c H locs cells slots Q (F0 m pc ls rest) "java/lang/ArrayIndexOutOfBoundsException" tx) : W p l e R s m args below meth c H locs cells slots Q (F0 m pc ls (.float x :: .int i :: .ref a :: rest)) := by
  intro T hT X
  obtain ⟨t, st, q⟩ := k _ rfl T hT X
  refine ⟨t, ?_, q⟩
  have h1 := X.fastoreOut hexec (by rw [hT]; exact hP q0 _ ha) ((hK.2 t0 _ ht).1 n (fun j => .float (f j))) (j := i) (by show (i < 0 ∨ (arrV _ _ _).slots.size ≤ _); rw [arrV_size]; exact Classical.byContradiction hout) (g := F0 m pc ls (.float x :: .int i :: .ref a :: rest)) rfl (rest := rest) rfl (by rw [hb]; exact hdg) t
  simp only [arrV_size] at h1
  exact h1 st
theorem vx_daldZ {D : va_G} {cl : List vw_C} {ws : va_W} {tys : List (ClassId × FieldType)} {a : Nat} (hexec : p.tables.exec = Jvm.exec) (hb : c.code = cc) (hK : va_K D cl tys s) (hP : va_P D cl ws H) (q0 t0 : Nat) {cA : ClassId} {n : Nat} {f : Nat → UInt64} (ha : ws[q0]? = some (a, .inl (cA, n, .inr (.inr (.inr (.inl f)))))) (ht : tys[t0]? = some (cA, .double)) {i : Int32} (hout : ¬ vp_in i n) (hdg : decode cc pc = .ok (.daload, 1))
    (k : ∀ tx : String, tx = (toString "Index " ++ toString i ++ toString " out of bounds for length " ++ toString n : String) → vx_Note p l e R s m args below meth c H locs cells slots Q (F0 m pc ls rest) "java/lang/ArrayIndexOutOfBoundsException" tx) : W p l e R s m args below meth c H locs cells slots Q (F0 m pc ls (.int i :: .ref a :: rest)) := by
  intro T hT X
  obtain ⟨t, st, q⟩ := k _ rfl T hT X
  refine ⟨t, ?_, q⟩
  have h1 := X.daloadOut hexec (by rw [hT]; exact hP q0 _ ha) ((hK.2 t0 _ ht).1 n (fun j => .double (f j))) (j := i) (by show (i < 0 ∨ (arrV _ _ _).slots.size ≤ _); rw [arrV_size]; exact Classical.byContradiction hout) (g := F0 m pc ls (.int i :: .ref a :: rest)) rfl (rest := rest) rfl (by rw [hb]; exact hdg) t
  simp only [arrV_size] at h1
  exact h1 st
theorem vx_dastZ {D : va_G} {cl : List vw_C} {ws : va_W} {tys : List (ClassId × FieldType)} {a : Nat} (hexec : p.tables.exec = Jvm.exec) (hb : c.code = cc) (hK : va_K D cl tys s) (hP : va_P D cl ws H) (q0 t0 : Nat) {cA : ClassId} {n : Nat} {f : Nat → UInt64} (ha : ws[q0]? = some (a, .inl (cA, n, .inr (.inr (.inr (.inl f)))))) (ht : tys[t0]? = some (cA, .double)) {i : Int32} {x : UInt64} (hout : ¬ vp_in i n) (hdg : decode cc pc = .ok (.dastore, 1))
    (k : ∀ tx : String, tx = (toString "Index " ++ toString i ++ toString " out of bounds for length " ++ toString n : String) → vx_Note p l e R s m args below meth c H locs cells slots Q (F0 m pc ls rest) "java/lang/ArrayIndexOutOfBoundsException" tx) : W p l e R s m args below meth c H locs cells slots Q (F0 m pc ls (.double x :: .int i :: .ref a :: rest)) := by
  intro T hT X
  obtain ⟨t, st, q⟩ := k _ rfl T hT X
  refine ⟨t, ?_, q⟩
  have h1 := X.dastoreOut hexec (by rw [hT]; exact hP q0 _ ha) ((hK.2 t0 _ ht).1 n (fun j => .double (f j))) (j := i) (by show (i < 0 ∨ (arrV _ _ _).slots.size ≤ _); rw [arrV_size]; exact Classical.byContradiction hout) (g := F0 m pc ls (.double x :: .int i :: .ref a :: rest)) rfl (rest := rest) rfl (by rw [hb]; exact hdg) t
  simp only [arrV_size] at h1
  exact h1 st
theorem vx_arraylengthN (hexec : p.tables.exec = Jvm.exec) (hb : c.code = cc) (hdg : decode cc pc = .ok (.arraylength, 1)) (k : vx_NoteN p l e R s m args below meth c H locs cells slots Q (F0 m pc ls rest)) : W p l e R s m args below meth c H locs cells slots Q (F0 m pc ls (.null :: rest)) := by
  intro T hT X
  obtain ⟨t, st, q⟩ := k T hT X
  exact ⟨t, X.arraylengthNull hexec (g := F0 m pc ls (.null :: rest)) rfl (rest := rest) rfl (by rw [hb]; exact hdg) t st, q⟩
theorem vx_ialoadN (hexec : p.tables.exec = Jvm.exec) (hb : c.code = cc) {i : Int32} (hdg : decode cc pc = .ok (.iaload, 1)) (k : vx_NoteN p l e R s m args below meth c H locs cells slots Q (F0 m pc ls rest)) : W p l e R s m args below meth c H locs cells slots Q (F0 m pc ls (.int i :: .null :: rest)) := by
  intro T hT X
  obtain ⟨t, st, q⟩ := k T hT X
  exact ⟨t, X.ialoadNull hexec (g := F0 m pc ls (.int i :: .null :: rest)) rfl (rest := rest) rfl (by rw [hb]; exact hdg) t st, q⟩
theorem vx_laloadN (hexec : p.tables.exec = Jvm.exec) (hb : c.code = cc) {i : Int32} (hdg : decode cc pc = .ok (.laload, 1)) (k : vx_NoteN p l e R s m args below meth c H locs cells slots Q (F0 m pc ls rest)) : W p l e R s m args below meth c H locs cells slots Q (F0 m pc ls (.int i :: .null :: rest)) := by
  intro T hT X
  obtain ⟨t, st, q⟩ := k T hT X
  exact ⟨t, X.laloadNull hexec (g := F0 m pc ls (.int i :: .null :: rest)) rfl (rest := rest) rfl (by rw [hb]; exact hdg) t st, q⟩
theorem vx_faloadN (hexec : p.tables.exec = Jvm.exec) (hb : c.code = cc) {i : Int32} (hdg : decode cc pc = .ok (.faload, 1)) (k : vx_NoteN p l e R s m args below meth c H locs cells slots Q (F0 m pc ls rest)) : W p l e R s m args below meth c H locs cells slots Q (F0 m pc ls (.int i :: .null :: rest)) := by
  intro T hT X
  obtain ⟨t, st, q⟩ := k T hT X
  exact ⟨t, X.faloadNull hexec (g := F0 m pc ls (.int i :: .null :: rest)) rfl (rest := rest) rfl (by rw [hb]; exact hdg) t st, q⟩
theorem vx_daloadN (hexec : p.tables.exec = Jvm.exec) (hb : c.code = cc) {i : Int32} (hdg : decode cc pc = .ok (.daload, 1)) (k : vx_NoteN p l e R s m args below meth c H locs cells slots Q (F0 m pc ls rest)) : W p l e R s m args below meth c H locs cells slots Q (F0 m pc ls (.int i :: .null :: rest)) := by
  intro T hT X
  obtain ⟨t, st, q⟩ := k T hT X
  exact ⟨t, X.daloadNull hexec (g := F0 m pc ls (.int i :: .null :: rest)) rfl (rest := rest) rfl (by rw [hb]; exact hdg) t st, q⟩
theorem vx_aaloadN (hexec : p.tables.exec = Jvm.exec) (hb : c.code = cc) {i : Int32} (hdg : decode cc pc = .ok (.aaload, 1)) (k : vx_NoteN p l e R s m args below meth c H locs cells slots Q (F0 m pc ls rest)) : W p l e R s m args below meth c H locs cells slots Q (F0 m pc ls (.int i :: .null :: rest)) := by
  intro T hT X
  obtain ⟨t, st, q⟩ := k T hT X
  exact ⟨t, X.aaloadNull hexec (g := F0 m pc ls (.int i :: .null :: rest)) rfl (rest := rest) rfl (by rw [hb]; exact hdg) t st, q⟩
theorem vx_baloadN (hexec : p.tables.exec = Jvm.exec) (hb : c.code = cc) {i : Int32} (hdg : decode cc pc = .ok (.baload, 1)) (k : vx_NoteN p l e R s m args below meth c H locs cells slots Q (F0 m pc ls rest)) : W p l e R s m args below meth c H locs cells slots Q (F0 m pc ls (.int i :: .null :: rest)) := by
  intro T hT X
  obtain ⟨t, st, q⟩ := k T hT X
  exact ⟨t, X.baloadNull hexec (g := F0 m pc ls (.int i :: .null :: rest)) rfl (rest := rest) rfl (by rw [hb]; exact hdg) t st, q⟩
theorem vx_caloadN (hexec : p.tables.exec = Jvm.exec) (hb : c.code = cc) {i : Int32} (hdg : decode cc pc = .ok (.caload, 1)) (k : vx_NoteN p l e R s m args below meth c H locs cells slots Q (F0 m pc ls rest)) : W p l e R s m args below meth c H locs cells slots Q (F0 m pc ls (.int i :: .null :: rest)) := by
  intro T hT X
  obtain ⟨t, st, q⟩ := k T hT X
  exact ⟨t, X.caloadNull hexec (g := F0 m pc ls (.int i :: .null :: rest)) rfl (rest := rest) rfl (by rw [hb]; exact hdg) t st, q⟩
theorem vx_saloadN (hexec : p.tables.exec = Jvm.exec) (hb : c.code = cc) {i : Int32} (hdg : decode cc pc = .ok (.saload, 1)) (k : vx_NoteN p l e R s m args below meth c H locs cells slots Q (F0 m pc ls rest)) : W p l e R s m args below meth c H locs cells slots Q (F0 m pc ls (.int i :: .null :: rest)) := by
  intro T hT X
  obtain ⟨t, st, q⟩ := k T hT X
  exact ⟨t, X.saloadNull hexec (g := F0 m pc ls (.int i :: .null :: rest)) rfl (rest := rest) rfl (by rw [hb]; exact hdg) t st, q⟩
theorem vx_iastoreN (hexec : p.tables.exec = Jvm.exec) (hb : c.code = cc) {x : Int32} {i : Int32} (hdg : decode cc pc = .ok (.iastore, 1)) (k : vx_NoteN p l e R s m args below meth c H locs cells slots Q (F0 m pc ls rest)) : W p l e R s m args below meth c H locs cells slots Q (F0 m pc ls (.int x :: .int i :: .null :: rest)) := by
  intro T hT X
  obtain ⟨t, st, q⟩ := k T hT X
  exact ⟨t, X.iastoreNull hexec (g := F0 m pc ls (.int x :: .int i :: .null :: rest)) rfl (rest := rest) rfl (by rw [hb]; exact hdg) t st, q⟩
theorem vx_lastoreN (hexec : p.tables.exec = Jvm.exec) (hb : c.code = cc) {x : Int64} {i : Int32} (hdg : decode cc pc = .ok (.lastore, 1)) (k : vx_NoteN p l e R s m args below meth c H locs cells slots Q (F0 m pc ls rest)) : W p l e R s m args below meth c H locs cells slots Q (F0 m pc ls (.long x :: .int i :: .null :: rest)) := by
  intro T hT X
  obtain ⟨t, st, q⟩ := k T hT X
  exact ⟨t, X.lastoreNull hexec (g := F0 m pc ls (.long x :: .int i :: .null :: rest)) rfl (rest := rest) rfl (by rw [hb]; exact hdg) t st, q⟩
theorem vx_fastoreN (hexec : p.tables.exec = Jvm.exec) (hb : c.code = cc) {x : UInt32} {i : Int32} (hdg : decode cc pc = .ok (.fastore, 1)) (k : vx_NoteN p l e R s m args below meth c H locs cells slots Q (F0 m pc ls rest)) : W p l e R s m args below meth c H locs cells slots Q (F0 m pc ls (.float x :: .int i :: .null :: rest)) := by
  intro T hT X
  obtain ⟨t, st, q⟩ := k T hT X
  exact ⟨t, X.fastoreNull hexec (g := F0 m pc ls (.float x :: .int i :: .null :: rest)) rfl (rest := rest) rfl (by rw [hb]; exact hdg) t st, q⟩
theorem vx_dastoreN (hexec : p.tables.exec = Jvm.exec) (hb : c.code = cc) {x : UInt64} {i : Int32} (hdg : decode cc pc = .ok (.dastore, 1)) (k : vx_NoteN p l e R s m args below meth c H locs cells slots Q (F0 m pc ls rest)) : W p l e R s m args below meth c H locs cells slots Q (F0 m pc ls (.double x :: .int i :: .null :: rest)) := by
  intro T hT X
  obtain ⟨t, st, q⟩ := k T hT X
  exact ⟨t, X.dastoreNull hexec (g := F0 m pc ls (.double x :: .int i :: .null :: rest)) rfl (rest := rest) rfl (by rw [hb]; exact hdg) t st, q⟩
theorem vx_bastoreN (hexec : p.tables.exec = Jvm.exec) (hb : c.code = cc) {x : Int32} {i : Int32} (hdg : decode cc pc = .ok (.bastore, 1)) (k : vx_NoteN p l e R s m args below meth c H locs cells slots Q (F0 m pc ls rest)) : W p l e R s m args below meth c H locs cells slots Q (F0 m pc ls (.int x :: .int i :: .null :: rest)) := by
  intro T hT X
  obtain ⟨t, st, q⟩ := k T hT X
  exact ⟨t, X.bastoreNull hexec (g := F0 m pc ls (.int x :: .int i :: .null :: rest)) rfl (rest := rest) rfl (by rw [hb]; exact hdg) t st, q⟩
theorem vx_castoreN (hexec : p.tables.exec = Jvm.exec) (hb : c.code = cc) {x : Int32} {i : Int32} (hdg : decode cc pc = .ok (.castore, 1)) (k : vx_NoteN p l e R s m args below meth c H locs cells slots Q (F0 m pc ls rest)) : W p l e R s m args below meth c H locs cells slots Q (F0 m pc ls (.int x :: .int i :: .null :: rest)) := by
  intro T hT X
  obtain ⟨t, st, q⟩ := k T hT X
  exact ⟨t, X.castoreNull hexec (g := F0 m pc ls (.int x :: .int i :: .null :: rest)) rfl (rest := rest) rfl (by rw [hb]; exact hdg) t st, q⟩
theorem vx_sastoreN (hexec : p.tables.exec = Jvm.exec) (hb : c.code = cc) {x : Int32} {i : Int32} (hdg : decode cc pc = .ok (.sastore, 1)) (k : vx_NoteN p l e R s m args below meth c H locs cells slots Q (F0 m pc ls rest)) : W p l e R s m args below meth c H locs cells slots Q (F0 m pc ls (.int x :: .int i :: .null :: rest)) := by
  intro T hT X
  obtain ⟨t, st, q⟩ := k T hT X
  exact ⟨t, X.sastoreNull hexec (g := F0 m pc ls (.int x :: .int i :: .null :: rest)) rfl (rest := rest) rfl (by rw [hb]; exact hdg) t st, q⟩
theorem vx_invokeN {own C : String} {index maxL : Nat} {y : MethodName} {bytes : ByteArray} {ret : Option FieldType} (hexec : p.tables.exec = Jvm.exec) (hb : c.code = cc) (hown : s.vm.findClass own = some m.cls) (hlink : (Cond.methodLink own index y).before args s = true) (hinst : (Cond.instanceMethod y).before args s = true) (hcode : (Cond.code y bytes maxL ret).before args s = true) (hsel : (Cond.selects C y y).before args s = true)
    (hx : y.cls ≠ "java/lang/invoke/MethodHandle" ∧ y.cls ≠ "java/lang/invoke/VarHandle") {As : List Value} (hlen : (parseMethodDescriptor y.desc).map (fun d => d.parameters.length) = some As.length) (hdg : decode cc pc = .ok (.invokevirtual index, 3))
    (k : vx_NoteN p l e R s m args below meth c H locs cells slots Q (F0 m pc ls rest)) {st0 : List Value} (hst : st0 = As.reverse ++ .null :: rest) : W p l e R s m args below meth c H locs cells slots Q (F0 m pc ls st0) := by
  intro T hT X
  obtain ⟨r0, r, hn, hrm, hstR, hsigR⟩ := va_Decl.of hinst hcode
  obtain ⟨c2, r2, m2, q1, q2, q3, q4, kP, hkP, hkPi⟩ := Cond.selects_spec hsel
  cases hn.symm.trans q3
  have hl9 : As.length = r.sig.parameters.length := by
    rw [hsigR] at hlen
    exact (Option.some.inj hlen).symm
  obtain ⟨vm', X1, st1⟩ := X.invokevirtualNull hexec hown hlink hn hrm hstR hkP hkPi hx (g := F0 m pc ls st0) rfl (argsL := As) (rest := rest) hl9 hst (by rw [hb]; exact hdg)
  obtain ⟨t, st, q⟩ := k (T.setVm vm') hT X1
  exact ⟨t, st1 t st, q⟩
theorem vx_newarrayZ {atype : ArrayType} (hexec : p.tables.exec = Jvm.exec) (hb : c.code = cc) {n : Int32} (h0 : n < 0) (hdg : decode cc pc = .ok (.newarray atype, 2)) (k : ∀ tx : String, tx = toString n → vx_Note p l e R s m args below meth c H locs cells slots Q (F0 m pc ls rest) "java/lang/NegativeArraySizeException" tx) : W p l e R s m args below meth c H locs cells slots Q (F0 m pc ls (.int n :: rest)) := by
  intro T hT X
  obtain ⟨t, st, q⟩ := k _ rfl T hT X
  exact ⟨t, X.newarrayNegative hexec (g := F0 m pc ls (.int n :: rest)) rfl h0 (rest := rest) rfl (by rw [hb]; exact hdg) t st, q⟩
end
end VXM
/-! ===== END ===== -/

/-- names a law of floating point once, so that all parts are compiled over the same texts -/
theorem mv_wide : True := by
  have _h := @Jvm.FP.Core.dadd_out
  trivial
end
section
def RX0 : String := "SluiceChain$1"
def TX0 : u_T := fun k => match k with
  | _ => ("", "", "", false)
def tyX0 : Nat → FieldType := fun k => match k with
  | _ => .int
abbrev wsX00 : List Cond := u_ws RX0 TX0 0
theorem nmX0 : ∀ a, a < 0 → ∀ b, b < 0 → a ≠ b → (TX0 a).2.1 ≠ (TX0 b).2.1 := by decide +kernel
theorem tyX0_ok : ∀ k, k < 0 → parseFieldDescriptor (TX0 k).2.2.1 = some (tyX0 k) := by decide +kernel
def RX1 : String := "SluiceChain$Basin"
def TX1 : u_T := fun k => match k with
  | 0 => ("SluiceChain$Basin", "capacity", "I", false)
  | 1 => ("SluiceChain$Basin", "catchment", "I", false)
  | 2 => ("SluiceChain$Basin", "value", "I", false)
  | 3 => ("SluiceChain$Basin", "level", "I", false)
  | 4 => ("SluiceChain$Basin", "opening", "I", false)
  | 5 => ("SluiceChain$Basin", "automatic", "Z", false)
  | 6 => ("SluiceChain$Basin", "threshold", "I", false)
  | 7 => ("SluiceChain$Basin", "spilled", "I", false)
  | _ => ("SluiceChain$Basin", "floodedSteps", "I", false)
def tyX1 : Nat → FieldType := fun k => match k with
  | 0 => .int
  | 1 => .int
  | 2 => .int
  | 3 => .int
  | 4 => .int
  | 5 => .boolean
  | 6 => .int
  | 7 => .int
  | _ => .int
abbrev wsX10 : List Cond := u_ws RX1 TX1 9
theorem nmX1 : ∀ a, a < 9 → ∀ b, b < 9 → a ≠ b → (TX1 a).2.1 ≠ (TX1 b).2.1 := by decide +kernel
theorem tyX1_ok : ∀ k, k < 9 → parseFieldDescriptor (TX1 k).2.2.1 = some (tyX1 k) := by decide +kernel
def RX2 : String := "SluiceChain$Chain"
def TX2 : u_T := fun k => match k with
  | 0 => ("SluiceChain$Chain", "basins", "[LSluiceChain$Basin;", true)
  | 1 => ("SluiceChain$Chain", "basinsInUse", "I", false)
  | 2 => ("SluiceChain$Chain", "forecast", "[I", true)
  | 3 => ("SluiceChain$Chain", "amountsInForecast", "I", false)
  | 4 => ("SluiceChain$Chain", "time", "I", false)
  | 5 => ("SluiceChain$Chain", "rained", "J", false)
  | 6 => ("SluiceChain$Chain", "poured", "J", false)
  | _ => ("SluiceChain$Chain", "river", "J", false)
def tyX2 : Nat → FieldType := fun k => match k with
  | 0 => .array (.object "SluiceChain$Basin")
  | 1 => .int
  | 2 => .array .int
  | 3 => .int
  | 4 => .int
  | 5 => .long
  | 6 => .long
  | _ => .long
abbrev wsX20 : List Cond := u_ws RX2 TX2 8
theorem nmX2 : ∀ a, a < 8 → ∀ b, b < 8 → a ≠ b → (TX2 a).2.1 ≠ (TX2 b).2.1 := by decide +kernel
theorem tyX2_ok : ∀ k, k < 8 → parseFieldDescriptor (TX2 k).2.2.1 = some (tyX2 k) := by decide +kernel
def RX3 : String := "SluiceChain$Command"
def TX3 : u_T := fun k => match k with
  | _ => ("", "", "", false)
def tyX3 : Nat → FieldType := fun k => match k with
  | _ => .int
abbrev wsX30 : List Cond := u_ws RX3 TX3 0
theorem nmX3 : ∀ a, a < 0 → ∀ b, b < 0 → a ≠ b → (TX3 a).2.1 ≠ (TX3 b).2.1 := by decide +kernel
theorem tyX3_ok : ∀ k, k < 0 → parseFieldDescriptor (TX3 k).2.2.1 = some (tyX3 k) := by decide +kernel
def RX4 : String := "SluiceChain$Fault"
def TX4 : u_T := fun k => match k with
  | _ => ("", "", "", false)
def tyX4 : Nat → FieldType := fun k => match k with
  | _ => .int
abbrev wsX40 : List Cond := u_ws RX4 TX4 0
theorem nmX4 : ∀ a, a < 0 → ∀ b, b < 0 → a ≠ b → (TX4 a).2.1 ≠ (TX4 b).2.1 := by decide +kernel
theorem tyX4_ok : ∀ k, k < 0 → parseFieldDescriptor (TX4 k).2.2.1 = some (tyX4 k) := by decide +kernel
def RX5 : String := "SluiceChain$History"
def TX5 : u_T := fun k => match k with
  | 0 => ("SluiceChain$History", "states", "[LSluiceChain$Chain;", true)
  | 1 => ("SluiceChain$History", "next", "I", false)
  | _ => ("SluiceChain$History", "count", "I", false)
def tyX5 : Nat → FieldType := fun k => match k with
  | 0 => .array (.object "SluiceChain$Chain")
  | 1 => .int
  | _ => .int
abbrev wsX50 : List Cond := u_ws RX5 TX5 3
theorem nmX5 : ∀ a, a < 3 → ∀ b, b < 3 → a ≠ b → (TX5 a).2.1 ≠ (TX5 b).2.1 := by decide +kernel
theorem tyX5_ok : ∀ k, k < 3 → parseFieldDescriptor (TX5 k).2.2.1 = some (tyX5 k) := by decide +kernel
def RX6 : String := "SluiceChain$Line"
def TX6 : u_T := fun k => match k with
  | 0 => ("SluiceChain$Line", "signs", "[C", true)
  | _ => ("SluiceChain$Line", "length", "I", false)
def tyX6 : Nat → FieldType := fun k => match k with
  | 0 => .array .char
  | _ => .int
abbrev wsX60 : List Cond := u_ws RX6 TX6 2
theorem nmX6 : ∀ a, a < 2 → ∀ b, b < 2 → a ≠ b → (TX6 a).2.1 ≠ (TX6 b).2.1 := by decide +kernel
theorem tyX6_ok : ∀ k, k < 2 → parseFieldDescriptor (TX6 k).2.2.1 = some (tyX6 k) := by decide +kernel
def RX7 : String := "SluiceChain$PlanSearch"
def TX7 : u_T := fun k => match k with
  | _ => ("SluiceChain$PlanSearch", "tries", "[LSluiceChain$Chain;", true)
def tyX7 : Nat → FieldType := fun k => match k with
  | _ => .array (.object "SluiceChain$Chain")
abbrev wsX70 : List Cond := u_ws RX7 TX7 1
theorem nmX7 : ∀ a, a < 1 → ∀ b, b < 1 → a ≠ b → (TX7 a).2.1 ≠ (TX7 b).2.1 := by decide +kernel
theorem tyX7_ok : ∀ k, k < 1 → parseFieldDescriptor (TX7 k).2.2.1 = some (tyX7 k) := by decide +kernel
def RX8 : String := "SluiceChain$Program"
def TX8 : u_T := fun k => match k with
  | 0 => ("SluiceChain$Program", "text", "[C", true)
  | 1 => ("SluiceChain$Program", "length", "I", false)
  | 2 => ("SluiceChain$Program", "position", "I", false)
  | 3 => ("SluiceChain$Program", "command", "LSluiceChain$Command;", false)
  | 4 => ("SluiceChain$Program", "arguments", "[I", true)
  | _ => ("SluiceChain$Program", "argumentCount", "I", false)
def tyX8 : Nat → FieldType := fun k => match k with
  | 0 => .array .char
  | 1 => .int
  | 2 => .int
  | 3 => .object "SluiceChain$Command"
  | 4 => .array .int
  | _ => .int
abbrev wsX80 : List Cond := u_ws RX8 TX8 6
theorem nmX8 : ∀ a, a < 6 → ∀ b, b < 6 → a ≠ b → (TX8 a).2.1 ≠ (TX8 b).2.1 := by decide +kernel
theorem tyX8_ok : ∀ k, k < 6 → parseFieldDescriptor (TX8 k).2.2.1 = some (tyX8 k) := by decide +kernel
def RX9 : String := "SluiceChain$Protection"
def TX9 : u_T := fun k => match k with
  | 0 => ("SluiceChain$Protection", "bagsOf", "[I", true)
  | 1 => ("SluiceChain$Protection", "valueOf", "[I", true)
  | 2 => ("SluiceChain$Protection", "count", "I", false)
  | _ => ("SluiceChain$Protection", "bestWith", "[I", true)
def tyX9 : Nat → FieldType := fun k => match k with
  | 0 => .array .int
  | 1 => .array .int
  | 2 => .int
  | _ => .array .int
abbrev wsX90 : List Cond := u_ws RX9 TX9 4
theorem nmX9 : ∀ a, a < 4 → ∀ b, b < 4 → a ≠ b → (TX9 a).2.1 ≠ (TX9 b).2.1 := by decide +kernel
theorem tyX9_ok : ∀ k, k < 4 → parseFieldDescriptor (TX9 k).2.2.1 = some (tyX9 k) := by decide +kernel
def RX10 : String := "SluiceChain"
def TX10 : u_T := fun k => match k with
  | 0 => ("SluiceChain", "chain", "LSluiceChain$Chain;", true)
  | 1 => ("SluiceChain", "saved", "LSluiceChain$Chain;", true)
  | 2 => ("SluiceChain", "before", "LSluiceChain$Chain;", true)
  | 3 => ("SluiceChain", "ahead", "LSluiceChain$Chain;", true)
  | 4 => ("SluiceChain", "history", "LSluiceChain$History;", true)
  | 5 => ("SluiceChain", "plans", "LSluiceChain$PlanSearch;", true)
  | 6 => ("SluiceChain", "protection", "LSluiceChain$Protection;", true)
  | 7 => ("SluiceChain", "program", "LSluiceChain$Program;", true)
  | 8 => ("SluiceChain", "line", "LSluiceChain$Line;", true)
  | 9 => ("SluiceChain", "hasSaved", "Z", false)
  | 10 => ("SluiceChain", "storedErrorPosition", "I", false)
  | _ => ("SluiceChain", "storedFailedCommand", "I", false)
def tyX10 : Nat → FieldType := fun k => match k with
  | 0 => .object "SluiceChain$Chain"
  | 1 => .object "SluiceChain$Chain"
  | 2 => .object "SluiceChain$Chain"
  | 3 => .object "SluiceChain$Chain"
  | 4 => .object "SluiceChain$History"
  | 5 => .object "SluiceChain$PlanSearch"
  | 6 => .object "SluiceChain$Protection"
  | 7 => .object "SluiceChain$Program"
  | 8 => .object "SluiceChain$Line"
  | 9 => .boolean
  | 10 => .int
  | _ => .int
abbrev wsX100 : List Cond := u_ws RX10 TX10 12
theorem nmX10 : ∀ a, a < 12 → ∀ b, b < 12 → a ≠ b → (TX10 a).2.1 ≠ (TX10 b).2.1 := by decide +kernel
theorem tyX10_ok : ∀ k, k < 12 → parseFieldDescriptor (TX10 k).2.2.1 = some (tyX10 k) := by decide +kernel
def RX11 : String := "SluiceChainModel"
def TX11 : u_T := fun k => match k with
  | _ => ("", "", "", false)
def tyX11 : Nat → FieldType := fun k => match k with
  | _ => .int
abbrev wsX110 : List Cond := u_ws RX11 TX11 0
theorem nmX11 : ∀ a, a < 0 → ∀ b, b < 0 → a ≠ b → (TX11 a).2.1 ≠ (TX11 b).2.1 := by decide +kernel
theorem tyX11_ok : ∀ k, k < 0 → parseFieldDescriptor (TX11 k).2.2.1 = some (tyX11 k) := by decide +kernel
def RJ5 : String := "java/lang/AbstractStringBuilder"
def RJ6 : String := "java/lang/Integer"
def RJ9 : String := "java/lang/Math"
def RJ0 : String := "java/lang/String"
def TJ0 : u_T := fun k => match k with
  | 0 => ("java/lang/String", "value", "[B", true)
  | 1 => ("java/lang/String", "coder", "B", true)
  | 2 => ("java/lang/String", "hash", "I", false)
  | _ => ("java/lang/String", "hashIsZero", "Z", false)
def tyJ0 : Nat → FieldType := fun k => match k with
  | 0 => .array .byte
  | 1 => .byte
  | 2 => .int
  | _ => .boolean
abbrev wsJ00 : List Cond := u_ws RJ0 TJ0 4
theorem nmJ0 : ∀ a, a < 4 → ∀ b, b < 4 → a ≠ b → (TJ0 a).2.1 ≠ (TJ0 b).2.1 := by decide +kernel
theorem tyJ0_ok : ∀ k, k < 4 → parseFieldDescriptor (TJ0 k).2.2.1 = some (tyJ0 k) := by decide +kernel
def RJ4 : String := "java/lang/StringBuilder"
def TJ4 : u_T := fun k => match k with
  | 0 => ("java/lang/AbstractStringBuilder", "value", "[B", false)
  | 1 => ("java/lang/AbstractStringBuilder", "coder", "B", false)
  | 2 => ("java/lang/AbstractStringBuilder", "maybeLatin1", "Z", false)
  | _ => ("java/lang/AbstractStringBuilder", "count", "I", false)
def tyJ4 : Nat → FieldType := fun k => match k with
  | 0 => .array .byte
  | 1 => .byte
  | 2 => .boolean
  | _ => .int
abbrev wsJ40 : List Cond := u_ws RJ4 TJ4 4
theorem nmJ4 : ∀ a, a < 4 → ∀ b, b < 4 → a ≠ b → (TJ4 a).2.1 ≠ (TJ4 b).2.1 := by decide +kernel
theorem tyJ4_ok : ∀ k, k < 4 → parseFieldDescriptor (TJ4 k).2.2.1 = some (tyJ4 k) := by decide +kernel
def RJ1 : String := "java/lang/StringLatin1"
def RJ2 : String := "java/lang/StringUTF16"
def RJ10 : String := "java/lang/System"
def RJ7 : String := "java/util/Arrays"
def RJ8 : String := "jdk/internal/util/ArraysSupport"
def RJ3 : String := "jdk/internal/util/Preconditions"
end
section
/-! rows of all methods: (pc, instruction, next, a, b, w); a, b: what is linked, w: the place of the link's word in lw_tbl -/
abbrev mv_I : Type := Instr × Nat × Nat × Nat × Nat
noncomputable def k_X1_init : Nat := 0
noncomputable def k_X1_begin : Nat := 1
noncomputable def k_X1_copyFrom : Nat := 2
noncomputable def k_X1_moveAutomaticGate : Nat := 3
noncomputable def k_X1_letOut : Nat := 4
noncomputable def k_X1_spillOver : Nat := 5
noncomputable def k_X2_init : Nat := 6
noncomputable def k_X2_copyFrom : Nat := 7
noncomputable def k_X2_copyWithOpening : Nat := 8
noncomputable def k_X2_hasBasin : Nat := 9
noncomputable def k_X2_faultOf : Nat := 10
noncomputable def k_X2_faultOfNewBasin : Nat := 11
noncomputable def k_X2_faultAtBasin : Nat := 12
noncomputable def k_X2_faultOfGate : Nat := 13
noncomputable def k_X2_faultOfHand : Nat := 14
noncomputable def k_X2_faultOfRain : Nat := 15
noncomputable def k_X2_faultOfPour : Nat := 16
noncomputable def k_X2_faultOfPrediction : Nat := 17
noncomputable def k_X2_faultOfPlan : Nat := 18
noncomputable def k_X2_carryOut : Nat := 19
noncomputable def k_X2_useNextBasin : Nat := 20
noncomputable def k_X2_turnGate : Nat := 21
noncomputable def k_X2_makeAutomatic : Nat := 22
noncomputable def k_X2_makeManual : Nat := 23
noncomputable def k_X2_countAutomatic : Nat := 24
noncomputable def k_X2_expectRain : Nat := 25
noncomputable def k_X2_dropForecast : Nat := 26
noncomputable def k_X2_pourInto : Nat := 27
noncomputable def k_X2_passSteps : Nat := 28
noncomputable def k_X2_passStep : Nat := 29
noncomputable def k_X2_takeRain : Nat := 30
noncomputable def k_X2_rainDown : Nat := 31
noncomputable def k_X2_flowDown : Nat := 32
noncomputable def k_X2_rankOf : Nat := 33
noncomputable def k_X2_isRankedBefore : Nat := 34
noncomputable def k_X2_levelsFit : Nat := 35
noncomputable def k_X2_sumOfLevels : Nat := 36
noncomputable def k_X2_balanceOfAccounts : Nat := 37
noncomputable def k_X2_sumOfFloodedSteps : Nat := 38
noncomputable def k_X5_init : Nat := 39
noncomputable def k_X5_remember : Nat := 40
noncomputable def k_X6_init : Nat := 41
noncomputable def k_X6_put : Nat := 42
noncomputable def k_X6_putNumber : Nat := 43
noncomputable def k_X6_putDigit : Nat := 44
noncomputable def k_X7_init : Nat := 45
noncomputable def k_X7_leastOfAll : Nat := 46
noncomputable def k_X7_leastByCutting : Nat := 47
noncomputable def k_X7_lowestFirstOpening : Nat := 48
noncomputable def k_X7_leastFrom : Nat := 49
noncomputable def k_X7_leastBelow : Nat := 50
noncomputable def k_X8_init : Nat := 51
noncomputable def k_X9_init : Nat := 52
noncomputable def k_X9_include : Nat := 53
noncomputable def k_X9_sumOfBags : Nat := 54
noncomputable def k_X9_bestByTable : Nat := 55
noncomputable def k_X9_improveTable : Nat := 56
noncomputable def k_X9_bestBySets : Nat := 57
noncomputable def k_X9_bagsOfSet : Nat := 58
noncomputable def k_X9_valueOfSet : Nat := 59
noncomputable def k_X10_init : Nat := 60
noncomputable def k_X10_addBasin : Nat := 61
noncomputable def k_X10_setGate : Nat := 62
noncomputable def k_X10_setAutomatic : Nat := 63
noncomputable def k_X10_setManual : Nat := 64
noncomputable def k_X10_addRain : Nat := 65
noncomputable def k_X10_clearForecast : Nat := 66
noncomputable def k_X10_pour : Nat := 67
noncomputable def k_X10_advance : Nat := 68
noncomputable def k_X10_change : Nat := 69
noncomputable def k_X10_basinCount : Nat := 70
noncomputable def k_X10_capacity : Nat := 71
noncomputable def k_X10_level : Nat := 72
noncomputable def k_X10_fieldValue : Nat := 73
noncomputable def k_X10_opening : Nat := 74
noncomputable def k_X10_isAutomatic : Nat := 75
noncomputable def k_X10_threshold : Nat := 76
noncomputable def k_X10_spilled : Nat := 77
noncomputable def k_X10_floodedSteps : Nat := 78
noncomputable def k_X10_basinAtRank : Nat := 79
noncomputable def k_X10_time : Nat := 80
noncomputable def k_X10_forecastLength : Nat := 81
noncomputable def k_X10_rainAt : Nat := 82
noncomputable def k_X10_stored : Nat := 83
noncomputable def k_X10_storedByAccounts : Nat := 84
noncomputable def k_X10_riverTotal : Nat := 85
noncomputable def k_X10_meanFill : Nat := 86
noncomputable def k_X10_floodShare : Nat := 87
noncomputable def k_X10_levelAfter : Nat := 88
noncomputable def k_X10_spillOf : Nat := 89
noncomputable def k_X10_stepsUntilFlood : Nat := 90
noncomputable def k_X10_lookAhead : Nat := 91
noncomputable def k_X10_expectedSpill : Nat := 92
noncomputable def k_X10_leastSpill : Nat := 93
noncomputable def k_X10_leastSpillByPruning : Nat := 94
noncomputable def k_X10_bestOpening : Nat := 95
noncomputable def k_X10_endangered : Nat := 96
noncomputable def k_X10_bestProtection : Nat := 97
noncomputable def k_X10_bestProtectionBySets : Nat := 98
noncomputable def k_X10_bagsForAll : Nat := 99
noncomputable def k_X10_isConsistent : Nat := 100
noncomputable def k_X10_gatherEndangered : Nat := 101
noncomputable def k_X10_leastSpillsAgree : Nat := 102
noncomputable def k_X10_protectionsAgree : Nat := 103
noncomputable def k_X10_writeChain : Nat := 104
noncomputable def k_X10_writeForecast : Nat := 105
noncomputable def k_X10_outputAt : Nat := 106
noncomputable def k_X10_writeBasin : Nat := 107
noncomputable def k_X10_existingBasin : Nat := 108
noncomputable def k_X10_faultOfRange : Nat := 109
noncomputable def k_X10_throwFor : Nat := 110
noncomputable def k_L_cell : Nat := 111
noncomputable def k_L_some : Nat := 112
noncomputable def k_L_addBasin : Nat := 113
noncomputable def k_L_setGate : Nat := 114
noncomputable def k_L_setAutomatic : Nat := 115
noncomputable def k_L_setManual : Nat := 116
noncomputable def k_L_addRain : Nat := 117
noncomputable def k_L_pour : Nat := 118
noncomputable def k_L_advance : Nat := 119
noncomputable def k_L_threshold : Nat := 120
noncomputable def k_L_basinAtRank : Nat := 121
noncomputable def k_L_rainAt : Nat := 122
noncomputable def k_L_stepsUntilFlood : Nat := 123
noncomputable def k_L_build : Nat := 124
noncomputable def k_L_acts : Nat := 125
noncomputable def t_X1_init : List (Nat × mv_I) := [(0, (.aload_n 0, 1, 0, 0, 0)), (1, (.invokespecial 3, 4, 905, 1, 114)), (4, (.aload_n 0, 5, 0, 0, 0)), (5, (.iconst 0, 6, 0, 0, 0)), (6, (.putfield 9, 9, 0, 0, 115)), (9, (.aload_n 0, 10, 0, 0, 0)), (10, (.iconst 0, 11, 0, 0, 0)), (11, (.putfield 15, 14, 0, 1, 118)), (14, (.aload_n 0, 15, 0, 0, 0)), (15, (.iconst 0, 16, 0, 0, 0)), (16, (.putfield 18, 19, 0, 2, 120)), (19, (.aload_n 0, 20, 0, 0, 0)), (20, (.iconst 0, 21, 0, 0, 0)), (21, (.putfield 21, 24, 0, 3, 122)), (24, (.aload_n 0, 25, 0, 0, 0)), (25, (.iconst 0, 26, 0, 0, 0)), (26, (.putfield 24, 29, 0, 4, 125)), (29, (.aload_n 0, 30, 0, 0, 0)), (30, (.iconst 0, 31, 0, 0, 0)), (31, (.putfield 27, 34, 0, 5, 128)), (34, (.aload_n 0, 35, 0, 0, 0)), (35, (.iconst 0, 36, 0, 0, 0)), (36, (.putfield 31, 39, 0, 6, 131)), (39, (.aload_n 0, 40, 0, 0, 0)), (40, (.iconst 0, 41, 0, 0, 0)), (41, (.putfield 34, 44, 0, 7, 134)), (44, (.aload_n 0, 45, 0, 0, 0)), (45, (.iconst 0, 46, 0, 0, 0)), (46, (.putfield 37, 49, 0, 8, 137)), (49, (.return_, 50, 0, 0, 0))]
noncomputable def t_X1_begin : List (Nat × mv_I) := [(0, (.aload_n 0, 1, 0, 0, 0)), (1, (.iload_n 1, 2, 0, 0, 0)), (2, (.putfield 9, 5, 0, 0, 115)), (5, (.aload_n 0, 6, 0, 0, 0)), (6, (.iload_n 2, 7, 0, 0, 0)), (7, (.putfield 15, 10, 0, 1, 118)), (10, (.aload_n 0, 11, 0, 0, 0)), (11, (.iload_n 3, 12, 0, 0, 0)), (12, (.putfield 18, 15, 0, 2, 120)), (15, (.aload_n 0, 16, 0, 0, 0)), (16, (.iconst 0, 17, 0, 0, 0)), (17, (.putfield 21, 20, 0, 3, 122)), (20, (.aload_n 0, 21, 0, 0, 0)), (21, (.iconst 0, 22, 0, 0, 0)), (22, (.putfield 24, 25, 0, 4, 125)), (25, (.aload_n 0, 26, 0, 0, 0)), (26, (.iconst 0, 27, 0, 0, 0)), (27, (.putfield 27, 30, 0, 5, 128)), (30, (.aload_n 0, 31, 0, 0, 0)), (31, (.iconst 0, 32, 0, 0, 0)), (32, (.putfield 31, 35, 0, 6, 131)), (35, (.aload_n 0, 36, 0, 0, 0)), (36, (.iconst 0, 37, 0, 0, 0)), (37, (.putfield 34, 40, 0, 7, 134)), (40, (.aload_n 0, 41, 0, 0, 0)), (41, (.iconst 0, 42, 0, 0, 0)), (42, (.putfield 37, 45, 0, 8, 137)), (45, (.return_, 46, 0, 0, 0))]
noncomputable def t_X1_copyFrom : List (Nat × mv_I) := [(0, (.aload_n 0, 1, 0, 0, 0)), (1, (.aload_n 1, 2, 0, 0, 0)), (2, (.getfield 9, 5, 0, 0, 115)), (5, (.putfield 9, 8, 0, 0, 115)), (8, (.aload_n 0, 9, 0, 0, 0)), (9, (.aload_n 1, 10, 0, 0, 0)), (10, (.getfield 15, 13, 0, 1, 118)), (13, (.putfield 15, 16, 0, 1, 118)), (16, (.aload_n 0, 17, 0, 0, 0)), (17, (.aload_n 1, 18, 0, 0, 0)), (18, (.getfield 18, 21, 0, 2, 120)), (21, (.putfield 18, 24, 0, 2, 120)), (24, (.aload_n 0, 25, 0, 0, 0)), (25, (.aload_n 1, 26, 0, 0, 0)), (26, (.getfield 21, 29, 0, 3, 122)), (29, (.putfield 21, 32, 0, 3, 122)), (32, (.aload_n 0, 33, 0, 0, 0)), (33, (.aload_n 1, 34, 0, 0, 0)), (34, (.getfield 24, 37, 0, 4, 125)), (37, (.putfield 24, 40, 0, 4, 125)), (40, (.aload_n 0, 41, 0, 0, 0)), (41, (.aload_n 1, 42, 0, 0, 0)), (42, (.getfield 27, 45, 0, 5, 128)), (45, (.putfield 27, 48, 0, 5, 128)), (48, (.aload_n 0, 49, 0, 0, 0)), (49, (.aload_n 1, 50, 0, 0, 0)), (50, (.getfield 31, 53, 0, 6, 131)), (53, (.putfield 31, 56, 0, 6, 131)), (56, (.aload_n 0, 57, 0, 0, 0)), (57, (.aload_n 1, 58, 0, 0, 0)), (58, (.getfield 34, 61, 0, 7, 134)), (61, (.putfield 34, 64, 0, 7, 134)), (64, (.aload_n 0, 65, 0, 0, 0)), (65, (.aload_n 1, 66, 0, 0, 0)), (66, (.getfield 37, 69, 0, 8, 137)), (69, (.putfield 37, 72, 0, 8, 137)), (72, (.return_, 73, 0, 0, 0))]
noncomputable def t_X1_moveAutomaticGate : List (Nat × mv_I) := [(0, (.aload_n 0, 1, 0, 0, 0)), (1, (.getfield 27, 4, 0, 5, 128)), (4, (.ifCond .eq 44, 7, 48, 0, 0)), (7, (.aload_n 0, 8, 0, 0, 0)), (8, (.getfield 21, 11, 0, 3, 122)), (11, (.aload_n 0, 12, 0, 0, 0)), (12, (.getfield 31, 15, 0, 6, 131)), (15, (.if_icmp .le 17, 18, 32, 0, 0)), (18, (.aload_n 0, 19, 0, 0, 0)), (19, (.getfield 21, 22, 0, 3, 122)), (22, (.aload_n 0, 23, 0, 0, 0)), (23, (.getfield 31, 26, 0, 6, 131)), (26, (.isub, 27, 0, 0, 0)), (27, (.iconst 4, 28, 0, 0, 0)), (28, (.idiv, 29, 0, 0, 0)), (29, (.goto 4, 32, 33, 0, 0)), (32, (.iconst 0, 33, 0, 0, 0)), (33, (.istore_n 1, 34, 0, 0, 0)), (34, (.aload_n 0, 35, 0, 0, 0)), (35, (.iload_n 1, 36, 0, 0, 0)), (36, (.iconst 5, 37, 0, 0, 0)), (37, (.if_icmp .ge 7, 40, 44, 0, 0)), (40, (.iload_n 1, 41, 0, 0, 0)), (41, (.goto 4, 44, 45, 0, 0)), (44, (.iconst 5, 45, 0, 0, 0)), (45, (.putfield 24, 48, 0, 4, 125)), (48, (.return_, 49, 0, 0, 0))]
noncomputable def t_X1_letOut : List (Nat × mv_I) := [(0, (.iconst 4, 1, 0, 0, 0)), (1, (.aload_n 0, 2, 0, 0, 0)), (2, (.getfield 24, 5, 0, 4, 125)), (5, (.imul, 6, 0, 0, 0)), (6, (.istore_n 1, 7, 0, 0, 0)), (7, (.iload_n 1, 8, 0, 0, 0)), (8, (.aload_n 0, 9, 0, 0, 0)), (9, (.getfield 21, 12, 0, 3, 122)), (12, (.if_icmp .ge 7, 15, 19, 0, 0)), (15, (.iload_n 1, 16, 0, 0, 0)), (16, (.goto 7, 19, 23, 0, 0)), (19, (.aload_n 0, 20, 0, 0, 0)), (20, (.getfield 21, 23, 0, 3, 122)), (23, (.istore_n 2, 24, 0, 0, 0)), (24, (.aload_n 0, 25, 0, 0, 0)), (25, (.dup, 26, 0, 0, 0)), (26, (.getfield 21, 29, 0, 3, 122)), (29, (.iload_n 2, 30, 0, 0, 0)), (30, (.isub, 31, 0, 0, 0)), (31, (.putfield 21, 34, 0, 3, 122)), (34, (.iload_n 2, 35, 0, 0, 0)), (35, (.ireturn, 36, 0, 0, 0))]
noncomputable def t_X1_spillOver : List (Nat × mv_I) := [(0, (.aload_n 0, 1, 0, 0, 0)), (1, (.getfield 21, 4, 0, 3, 122)), (4, (.aload_n 0, 5, 0, 0, 0)), (5, (.getfield 9, 8, 0, 0, 115)), (8, (.if_icmp .gt 5, 11, 13, 0, 0)), (11, (.iconst 0, 12, 0, 0, 0)), (12, (.ireturn, 13, 0, 0, 0)), (13, (.aload_n 0, 14, 0, 0, 0)), (14, (.getfield 21, 17, 0, 3, 122)), (17, (.aload_n 0, 18, 0, 0, 0)), (18, (.getfield 9, 21, 0, 0, 115)), (21, (.isub, 22, 0, 0, 0)), (22, (.istore_n 1, 23, 0, 0, 0)), (23, (.aload_n 0, 24, 0, 0, 0)), (24, (.aload_n 0, 25, 0, 0, 0)), (25, (.getfield 9, 28, 0, 0, 115)), (28, (.putfield 21, 31, 0, 3, 122)), (31, (.aload_n 0, 32, 0, 0, 0)), (32, (.dup, 33, 0, 0, 0)), (33, (.getfield 34, 36, 0, 7, 134)), (36, (.iload_n 1, 37, 0, 0, 0)), (37, (.iadd, 38, 0, 0, 0)), (38, (.putfield 34, 41, 0, 7, 134)), (41, (.aload_n 0, 42, 0, 0, 0)), (42, (.dup, 43, 0, 0, 0)), (43, (.getfield 37, 46, 0, 8, 137)), (46, (.iconst 1, 47, 0, 0, 0)), (47, (.iadd, 48, 0, 0, 0)), (48, (.putfield 37, 51, 0, 8, 137)), (51, (.iload_n 1, 52, 0, 0, 0)), (52, (.ireturn, 53, 0, 0, 0))]
noncomputable def t_X2_init : List (Nat × mv_I) := [(0, (.aload_n 0, 1, 0, 0, 0)), (1, (.invokespecial 3, 4, 905, 1, 107)), (4, (.aload_n 0, 5, 0, 0, 0)), (5, (.iconst 5, 6, 0, 0, 0)), (6, (.anewarray 9, 9, 24, 0, 108)), (9, (.putfield 11, 12, 1, 0, 160)), (12, (.aload_n 0, 13, 0, 0, 0)), (13, (.iconst 0, 14, 0, 0, 0)), (14, (.putfield 17, 17, 1, 1, 162)), (17, (.aload_n 0, 18, 0, 0, 0)), (18, (.bipush 12, 20, 0, 0, 0)), (20, (.newarray .int, 22, 20, 0, 0)), (22, (.putfield 21, 25, 1, 2, 164)), (25, (.aload_n 0, 26, 0, 0, 0)), (26, (.iconst 0, 27, 0, 0, 0)), (27, (.putfield 25, 30, 1, 3, 166)), (30, (.aload_n 0, 31, 0, 0, 0)), (31, (.iconst 0, 32, 0, 0, 0)), (32, (.putfield 28, 35, 1, 4, 168)), (35, (.aload_n 0, 36, 0, 0, 0)), (36, (.lconst 0, 37, 0, 0, 0)), (37, (.putfield 31, 40, 1, 5, 170)), (40, (.aload_n 0, 41, 0, 0, 0)), (41, (.lconst 0, 42, 0, 0, 0)), (42, (.putfield 35, 45, 1, 6, 171)), (45, (.aload_n 0, 46, 0, 0, 0)), (46, (.lconst 0, 47, 0, 0, 0)), (47, (.putfield 38, 50, 1, 7, 172)), (50, (.iconst 0, 51, 0, 0, 0)), (51, (.istore_n 1, 52, 0, 0, 0)), (52, (.iload_n 1, 53, 0, 0, 0)), (53, (.aload_n 0, 54, 0, 0, 0)), (54, (.getfield 11, 57, 1, 0, 160)), (57, (.arraylength, 58, 0, 0, 0)), (58, (.if_icmp .ge 22, 61, 80, 0, 0)), (61, (.aload_n 0, 62, 0, 0, 0)), (62, (.getfield 11, 65, 1, 0, 160)), (65, (.iload_n 1, 66, 0, 0, 0)), (66, (.new 9, 69, 0, 0, 108)), (69, (.dup, 70, 0, 0, 0)), (70, (.invokespecial 41, 73, k_X1_init, 1, 111)), (73, (.aastore, 74, 0, 0, 0)), (74, (.iinc 1 1, 77, 0, 0, 0)), (77, (.goto (-25), 80, 52, 0, 0)), (80, (.return_, 81, 0, 0, 0))]
noncomputable def t_X2_copyFrom : List (Nat × mv_I) := [(0, (.aload_n 0, 1, 0, 0, 0)), (1, (.aload_n 1, 2, 0, 0, 0)), (2, (.getfield 17, 5, 1, 1, 162)), (5, (.putfield 17, 8, 1, 1, 162)), (8, (.iconst 0, 9, 0, 0, 0)), (9, (.istore_n 2, 10, 0, 0, 0)), (10, (.iload_n 2, 11, 0, 0, 0)), (11, (.aload_n 0, 12, 0, 0, 0)), (12, (.getfield 17, 15, 1, 1, 162)), (15, (.if_icmp .ge 24, 18, 39, 0, 0)), (18, (.aload_n 0, 19, 0, 0, 0)), (19, (.getfield 11, 22, 1, 0, 160)), (22, (.iload_n 2, 23, 0, 0, 0)), (23, (.aaload, 24, 0, 0, 0)), (24, (.aload_n 1, 25, 0, 0, 0)), (25, (.getfield 11, 28, 1, 0, 160)), (28, (.iload_n 2, 29, 0, 0, 0)), (29, (.aaload, 30, 0, 0, 0)), (30, (.invokevirtual 42, 33, k_X1_copyFrom, 2, 591)), (33, (.iinc 2 1, 36, 0, 0, 0)), (36, (.goto (-26), 39, 10, 0, 0)), (39, (.aload_n 0, 40, 0, 0, 0)), (40, (.aload_n 1, 41, 0, 0, 0)), (41, (.getfield 25, 44, 1, 3, 166)), (44, (.putfield 25, 47, 1, 3, 166)), (47, (.iconst 0, 48, 0, 0, 0)), (48, (.istore_n 2, 49, 0, 0, 0)), (49, (.iload_n 2, 50, 0, 0, 0)), (50, (.aload_n 0, 51, 0, 0, 0)), (51, (.getfield 25, 54, 1, 3, 166)), (54, (.if_icmp .ge 21, 57, 75, 0, 0)), (57, (.aload_n 0, 58, 0, 0, 0)), (58, (.getfield 21, 61, 1, 2, 164)), (61, (.iload_n 2, 62, 0, 0, 0)), (62, (.aload_n 1, 63, 0, 0, 0)), (63, (.getfield 21, 66, 1, 2, 164)), (66, (.iload_n 2, 67, 0, 0, 0)), (67, (.iaload, 68, 0, 0, 0)), (68, (.iastore, 69, 0, 0, 0)), (69, (.iinc 2 1, 72, 0, 0, 0)), (72, (.goto (-23), 75, 49, 0, 0)), (75, (.aload_n 0, 76, 0, 0, 0)), (76, (.aload_n 1, 77, 0, 0, 0)), (77, (.getfield 28, 80, 1, 4, 168)), (80, (.putfield 28, 83, 1, 4, 168)), (83, (.aload_n 0, 84, 0, 0, 0)), (84, (.aload_n 1, 85, 0, 0, 0)), (85, (.getfield 31, 88, 1, 5, 170)), (88, (.putfield 31, 91, 1, 5, 170)), (91, (.aload_n 0, 92, 0, 0, 0)), (92, (.aload_n 1, 93, 0, 0, 0)), (93, (.getfield 35, 96, 1, 6, 171)), (96, (.putfield 35, 99, 1, 6, 171)), (99, (.aload_n 0, 100, 0, 0, 0)), (100, (.aload_n 1, 101, 0, 0, 0)), (101, (.getfield 38, 104, 1, 7, 172)), (104, (.putfield 38, 107, 1, 7, 172)), (107, (.return_, 108, 0, 0, 0))]
noncomputable def t_X2_copyWithOpening : List (Nat × mv_I) := [(0, (.aload_n 0, 1, 0, 0, 0)), (1, (.aload_n 1, 2, 0, 0, 0)), (2, (.invokevirtual 46, 5, k_X2_copyFrom, 2, 653)), (5, (.aload_n 0, 6, 0, 0, 0)), (6, (.iload_n 2, 7, 0, 0, 0)), (7, (.invokevirtual 49, 10, k_X2_hasBasin, 2, 535)), (10, (.ifCond .eq 13, 13, 23, 0, 0)), (13, (.aload_n 0, 14, 0, 0, 0)), (14, (.getfield 11, 17, 1, 0, 160)), (17, (.iload_n 2, 18, 0, 0, 0)), (18, (.aaload, 19, 0, 0, 0)), (19, (.iload_n 3, 20, 0, 0, 0)), (20, (.putfield 53, 23, 0, 4, 126)), (23, (.return_, 24, 0, 0, 0))]
noncomputable def t_X2_hasBasin : List (Nat × mv_I) := [(0, (.iload_n 1, 1, 0, 0, 0)), (1, (.ifCond .lt 15, 4, 16, 0, 0)), (4, (.iload_n 1, 5, 0, 0, 0)), (5, (.aload_n 0, 6, 0, 0, 0)), (6, (.getfield 17, 9, 1, 1, 162)), (9, (.if_icmp .ge 7, 12, 16, 0, 0)), (12, (.iconst 1, 13, 0, 0, 0)), (13, (.goto 4, 16, 17, 0, 0)), (16, (.iconst 0, 17, 0, 0, 0)), (17, (.ireturn, 18, 1, 0, 0))]
noncomputable def t_X2_faultOf : List (Nat × mv_I) := [(0, (.getstatic 56, 3, 1021, 0, 842)), (3, (.aload_n 1, 4, 0, 0, 0)), (4, (.invokevirtual 61, 7, 902, 1, 844)), (7, (.iaload, 8, 0, 0, 0)), (8, (.tableswitch 97 1 7 #[44, 53, 60, 70, 76, 82, 89], 52, 8, 0, 0)), (52, (.aload_n 0, 53, 0, 0, 0)), (53, (.iload_n 2, 54, 0, 0, 0)), (54, (.iload_n 3, 55, 0, 0, 0)), (55, (.iload 4, 57, 0, 0, 0)), (57, (.invokevirtual 67, 60, k_X2_faultOfNewBasin, 4, 850)), (60, (.areturn, 61, 0, 0, 0)), (61, (.aload_n 0, 62, 0, 0, 0)), (62, (.iload_n 2, 63, 0, 0, 0)), (63, (.iload_n 3, 64, 0, 0, 0)), (64, (.invokevirtual 71, 67, k_X2_faultOfGate, 3, 855)), (67, (.areturn, 68, 0, 0, 0)), (68, (.aload_n 0, 69, 0, 0, 0)), (69, (.iload_n 2, 70, 0, 0, 0)), (70, (.iload_n 3, 71, 0, 0, 0)), (71, (.iconst 0, 72, 0, 0, 0)), (72, (.bipush 99, 74, 0, 0, 0)), (74, (.invokevirtual 75, 77, k_X2_faultAtBasin, 5, 531)), (77, (.areturn, 78, 0, 0, 0)), (78, (.aload_n 0, 79, 0, 0, 0)), (79, (.iload_n 2, 80, 0, 0, 0)), (80, (.invokevirtual 79, 83, k_X2_faultOfHand, 2, 859)), (83, (.areturn, 84, 0, 0, 0)), (84, (.aload_n 0, 85, 0, 0, 0)), (85, (.iload_n 2, 86, 0, 0, 0)), (86, (.invokevirtual 83, 89, k_X2_faultOfRain, 2, 863)), (89, (.areturn, 90, 0, 0, 0)), (90, (.aload_n 0, 91, 0, 0, 0)), (91, (.iload_n 2, 92, 0, 0, 0)), (92, (.iload_n 3, 93, 0, 0, 0)), (93, (.invokevirtual 86, 96, k_X2_faultOfPour, 3, 867)), (96, (.areturn, 97, 0, 0, 0)), (97, (.iload_n 2, 98, 0, 0, 0)), (98, (.iconst 1, 99, 0, 0, 0)), (99, (.bipush 30, 101, 0, 0, 0)), (101, (.invokestatic 89, 104, k_X10_faultOfRange, 3, 536)), (104, (.areturn, 105, 0, 0, 0)), (105, (.getstatic 92, 108, 1010, 0, 639)), (108, (.areturn, 109, 0, 0, 0))]
noncomputable def t_X2_faultOfNewBasin : List (Nat × mv_I) := [(0, (.iload_n 1, 1, 0, 0, 0)), (1, (.bipush 10, 3, 0, 0, 0)), (3, (.if_icmp .lt 28, 6, 31, 0, 0)), (6, (.iload_n 1, 7, 0, 0, 0)), (7, (.bipush 99, 9, 0, 0, 0)), (9, (.if_icmp .gt 22, 12, 31, 0, 0)), (12, (.iload_n 2, 13, 0, 0, 0)), (13, (.ifCond .lt 18, 16, 31, 0, 0)), (16, (.iload_n 2, 17, 0, 0, 0)), (17, (.iconst 3, 18, 0, 0, 0)), (18, (.if_icmp .gt 13, 21, 31, 0, 0)), (21, (.iload_n 3, 22, 0, 0, 0)), (22, (.ifCond .lt 9, 25, 31, 0, 0)), (25, (.iload_n 3, 26, 0, 0, 0)), (26, (.bipush 99, 28, 0, 0, 0)), (28, (.if_icmp .le 7, 31, 35, 0, 0)), (31, (.getstatic 98, 34, 1012, 0, 854)), (34, (.areturn, 35, 0, 0, 0)), (35, (.aload_n 0, 36, 0, 0, 0)), (36, (.getfield 17, 39, 1, 1, 162)), (39, (.iconst 5, 40, 0, 0, 0)), (40, (.if_icmp .lt 9, 43, 49, 0, 0)), (43, (.getstatic 101, 46, 1013, 0, 640)), (46, (.goto 6, 49, 52, 0, 0)), (49, (.getstatic 92, 52, 1010, 0, 639)), (52, (.areturn, 53, 0, 0, 0))]
noncomputable def t_X2_faultAtBasin : List (Nat × mv_I) := [(0, (.aload_n 0, 1, 0, 0, 0)), (1, (.iload_n 1, 2, 0, 0, 0)), (2, (.invokevirtual 49, 5, k_X2_hasBasin, 2, 535)), (5, (.ifCond .eq 13, 8, 18, 0, 0)), (8, (.iload_n 2, 9, 0, 0, 0)), (9, (.iload_n 3, 10, 0, 0, 0)), (10, (.iload 4, 12, 0, 0, 0)), (12, (.invokestatic 89, 15, k_X10_faultOfRange, 3, 536)), (15, (.goto 6, 18, 21, 0, 0)), (18, (.getstatic 104, 21, 1011, 0, 543)), (21, (.areturn, 22, 0, 0, 0))]
noncomputable def t_X2_faultOfGate : List (Nat × mv_I) := [(0, (.aload_n 0, 1, 0, 0, 0)), (1, (.iload_n 1, 2, 0, 0, 0)), (2, (.iload_n 2, 3, 0, 0, 0)), (3, (.iconst 0, 4, 0, 0, 0)), (4, (.iconst 5, 5, 0, 0, 0)), (5, (.invokevirtual 75, 8, k_X2_faultAtBasin, 5, 531)), (8, (.astore_n 3, 9, 0, 0, 0)), (9, (.aload_n 3, 10, 0, 0, 0)), (10, (.getstatic 92, 13, 1010, 0, 639)), (13, (.if_acmp .eq 5, 16, 18, 0, 0)), (16, (.aload_n 3, 17, 0, 0, 0)), (17, (.areturn, 18, 0, 0, 0)), (18, (.aload_n 0, 19, 0, 0, 0)), (19, (.getfield 11, 22, 1, 0, 160)), (22, (.iload_n 1, 23, 0, 0, 0)), (23, (.aaload, 24, 0, 0, 0)), (24, (.getfield 107, 27, 0, 5, 129)), (27, (.ifCond .eq 9, 30, 36, 0, 0)), (30, (.getstatic 101, 33, 1013, 0, 640)), (33, (.goto 6, 36, 39, 0, 0)), (36, (.getstatic 92, 39, 1010, 0, 639)), (39, (.areturn, 40, 0, 0, 0))]
noncomputable def t_X2_faultOfHand : List (Nat × mv_I) := [(0, (.aload_n 0, 1, 0, 0, 0)), (1, (.iload_n 1, 2, 0, 0, 0)), (2, (.invokevirtual 49, 5, k_X2_hasBasin, 2, 535)), (5, (.ifCond .ne 7, 8, 12, 0, 0)), (8, (.getstatic 104, 11, 1011, 0, 543)), (11, (.areturn, 12, 0, 0, 0)), (12, (.aload_n 0, 13, 0, 0, 0)), (13, (.getfield 11, 16, 1, 0, 160)), (16, (.iload_n 1, 17, 0, 0, 0)), (17, (.aaload, 18, 0, 0, 0)), (18, (.getfield 107, 21, 0, 5, 129)), (21, (.ifCond .eq 9, 24, 30, 0, 0)), (24, (.getstatic 92, 27, 1010, 0, 639)), (27, (.goto 6, 30, 33, 0, 0)), (30, (.getstatic 101, 33, 1013, 0, 640)), (33, (.areturn, 34, 0, 0, 0))]
noncomputable def t_X2_faultOfRain : List (Nat × mv_I) := [(0, (.iload_n 1, 1, 0, 0, 0)), (1, (.ifCond .lt 9, 4, 10, 0, 0)), (4, (.iload_n 1, 5, 0, 0, 0)), (5, (.bipush 20, 7, 0, 0, 0)), (7, (.if_icmp .le 7, 10, 14, 0, 0)), (10, (.getstatic 98, 13, 1012, 0, 854)), (13, (.areturn, 14, 0, 0, 0)), (14, (.aload_n 0, 15, 0, 0, 0)), (15, (.getfield 25, 18, 1, 3, 166)), (18, (.bipush 12, 20, 0, 0, 0)), (20, (.if_icmp .lt 9, 23, 29, 0, 0)), (23, (.getstatic 101, 26, 1013, 0, 640)), (26, (.goto 6, 29, 32, 0, 0)), (29, (.getstatic 92, 32, 1010, 0, 639)), (32, (.areturn, 33, 0, 0, 0))]
noncomputable def t_X2_faultOfPour : List (Nat × mv_I) := [(0, (.aload_n 0, 1, 0, 0, 0)), (1, (.iload_n 1, 2, 0, 0, 0)), (2, (.iload_n 2, 3, 0, 0, 0)), (3, (.iconst 1, 4, 0, 0, 0)), (4, (.bipush 50, 6, 0, 0, 0)), (6, (.invokevirtual 75, 9, k_X2_faultAtBasin, 5, 531)), (9, (.astore_n 3, 10, 0, 0, 0)), (10, (.aload_n 3, 11, 0, 0, 0)), (11, (.getstatic 92, 14, 1010, 0, 639)), (14, (.if_acmp .eq 5, 17, 19, 0, 0)), (17, (.aload_n 3, 18, 0, 0, 0)), (18, (.areturn, 19, 0, 0, 0)), (19, (.aload_n 0, 20, 0, 0, 0)), (20, (.getfield 11, 23, 1, 0, 160)), (23, (.iload_n 1, 24, 0, 0, 0)), (24, (.aaload, 25, 0, 0, 0)), (25, (.astore 4, 27, 0, 0, 0)), (27, (.aload 4, 29, 0, 0, 0)), (29, (.getfield 111, 32, 0, 3, 123)), (32, (.iload_n 2, 33, 0, 0, 0)), (33, (.iadd, 34, 0, 0, 0)), (34, (.aload 4, 36, 0, 0, 0)), (36, (.getfield 114, 39, 0, 0, 116)), (39, (.if_icmp .le 9, 42, 48, 0, 0)), (42, (.getstatic 101, 45, 1013, 0, 640)), (45, (.goto 6, 48, 51, 0, 0)), (48, (.getstatic 92, 51, 1010, 0, 639)), (51, (.areturn, 52, 0, 0, 0))]
noncomputable def t_X2_faultOfPrediction : List (Nat × mv_I) := [(0, (.aload_n 0, 1, 0, 0, 0)), (1, (.iload_n 1, 2, 0, 0, 0)), (2, (.iload_n 2, 3, 0, 0, 0)), (3, (.iconst 0, 4, 0, 0, 0)), (4, (.bipush 30, 6, 0, 0, 0)), (6, (.invokevirtual 75, 9, k_X2_faultAtBasin, 5, 531)), (9, (.areturn, 10, 0, 0, 0))]
noncomputable def t_X2_faultOfPlan : List (Nat × mv_I) := [(0, (.aload_n 0, 1, 0, 0, 0)), (1, (.iload_n 1, 2, 0, 0, 0)), (2, (.iload_n 2, 3, 0, 0, 0)), (3, (.iconst 1, 4, 0, 0, 0)), (4, (.iconst 4, 5, 0, 0, 0)), (5, (.invokevirtual 75, 8, k_X2_faultAtBasin, 5, 531)), (8, (.astore_n 3, 9, 0, 0, 0)), (9, (.aload_n 3, 10, 0, 0, 0)), (10, (.getstatic 92, 13, 1010, 0, 639)), (13, (.if_acmp .eq 5, 16, 18, 0, 0)), (16, (.aload_n 3, 17, 0, 0, 0)), (17, (.areturn, 18, 0, 0, 0)), (18, (.aload_n 0, 19, 0, 0, 0)), (19, (.getfield 11, 22, 1, 0, 160)), (22, (.iload_n 1, 23, 0, 0, 0)), (23, (.aaload, 24, 0, 0, 0)), (24, (.getfield 107, 27, 0, 5, 129)), (27, (.ifCond .eq 9, 30, 36, 0, 0)), (30, (.getstatic 101, 33, 1013, 0, 640)), (33, (.goto 6, 36, 39, 0, 0)), (36, (.getstatic 92, 39, 1010, 0, 639)), (39, (.areturn, 40, 0, 0, 0))]
noncomputable def t_X2_carryOut : List (Nat × mv_I) := [(0, (.getstatic 56, 3, 1021, 0, 842)), (3, (.aload_n 1, 4, 0, 0, 0)), (4, (.invokevirtual 61, 7, 902, 1, 844)), (7, (.iaload, 8, 0, 0, 0)), (8, (.tableswitch 92 1 7 #[44, 53, 60, 67, 73, 79, 86], 52, 8, 0, 0)), (52, (.aload_n 0, 53, 0, 0, 0)), (53, (.iload_n 2, 54, 0, 0, 0)), (54, (.iload_n 3, 55, 0, 0, 0)), (55, (.iload 4, 57, 0, 0, 0)), (57, (.invokevirtual 117, 60, k_X2_useNextBasin, 4, 881)), (60, (.ireturn, 61, 0, 0, 0)), (61, (.aload_n 0, 62, 0, 0, 0)), (62, (.iload_n 2, 63, 0, 0, 0)), (63, (.iload_n 3, 64, 0, 0, 0)), (64, (.invokevirtual 121, 67, k_X2_turnGate, 3, 889)), (67, (.ireturn, 68, 0, 0, 0)), (68, (.aload_n 0, 69, 0, 0, 0)), (69, (.iload_n 2, 70, 0, 0, 0)), (70, (.iload_n 3, 71, 0, 0, 0)), (71, (.invokevirtual 125, 74, k_X2_makeAutomatic, 3, 893)), (74, (.ireturn, 75, 0, 0, 0)), (75, (.aload_n 0, 76, 0, 0, 0)), (76, (.iload_n 2, 77, 0, 0, 0)), (77, (.invokevirtual 128, 80, k_X2_makeManual, 2, 901)), (80, (.ireturn, 81, 0, 0, 0)), (81, (.aload_n 0, 82, 0, 0, 0)), (82, (.iload_n 2, 83, 0, 0, 0)), (83, (.invokevirtual 132, 86, k_X2_expectRain, 2, 905)), (86, (.ireturn, 87, 0, 0, 0)), (87, (.aload_n 0, 88, 0, 0, 0)), (88, (.iload_n 2, 89, 0, 0, 0)), (89, (.iload_n 3, 90, 0, 0, 0)), (90, (.invokevirtual 135, 93, k_X2_pourInto, 3, 909)), (93, (.ireturn, 94, 0, 0, 0)), (94, (.aload_n 0, 95, 0, 0, 0)), (95, (.iload_n 2, 96, 0, 0, 0)), (96, (.invokevirtual 138, 99, k_X2_passSteps, 2, 913)), (99, (.ireturn, 100, 0, 0, 0)), (100, (.aload_n 0, 101, 0, 0, 0)), (101, (.invokevirtual 141, 104, k_X2_dropForecast, 1, 918)), (104, (.ireturn, 105, 0, 0, 0))]
noncomputable def t_X2_useNextBasin : List (Nat × mv_I) := [(0, (.aload_n 0, 1, 0, 0, 0)), (1, (.getfield 17, 4, 1, 1, 162)), (4, (.istore 4, 6, 0, 0, 0)), (6, (.aload_n 0, 7, 0, 0, 0)), (7, (.getfield 11, 10, 1, 0, 160)), (10, (.iload 4, 12, 0, 0, 0)), (12, (.aaload, 13, 0, 0, 0)), (13, (.iload_n 1, 14, 0, 0, 0)), (14, (.iload_n 2, 15, 0, 0, 0)), (15, (.iload_n 3, 16, 0, 0, 0)), (16, (.invokevirtual 144, 19, k_X1_begin, 4, 885)), (19, (.aload_n 0, 20, 0, 0, 0)), (20, (.dup, 21, 0, 0, 0)), (21, (.getfield 17, 24, 1, 1, 162)), (24, (.iconst 1, 25, 0, 0, 0)), (25, (.iadd, 26, 0, 0, 0)), (26, (.putfield 17, 29, 1, 1, 162)), (29, (.iload 4, 31, 0, 0, 0)), (31, (.ireturn, 32, 0, 0, 0))]
noncomputable def t_X2_turnGate : List (Nat × mv_I) := [(0, (.aload_n 0, 1, 0, 0, 0)), (1, (.getfield 11, 4, 1, 0, 160)), (4, (.iload_n 1, 5, 0, 0, 0)), (5, (.aaload, 6, 0, 0, 0)), (6, (.getfield 53, 9, 0, 4, 126)), (9, (.istore_n 3, 10, 0, 0, 0)), (10, (.aload_n 0, 11, 0, 0, 0)), (11, (.getfield 11, 14, 1, 0, 160)), (14, (.iload_n 1, 15, 0, 0, 0)), (15, (.aaload, 16, 0, 0, 0)), (16, (.iload_n 2, 17, 0, 0, 0)), (17, (.putfield 53, 20, 0, 4, 126)), (20, (.iload_n 3, 21, 0, 0, 0)), (21, (.ireturn, 22, 0, 0, 0))]
noncomputable def t_X2_makeAutomatic : List (Nat × mv_I) := [(0, (.aload_n 0, 1, 0, 0, 0)), (1, (.getfield 11, 4, 1, 0, 160)), (4, (.iload_n 1, 5, 0, 0, 0)), (5, (.aaload, 6, 0, 0, 0)), (6, (.iconst 1, 7, 0, 0, 0)), (7, (.putfield 107, 10, 0, 5, 129)), (10, (.aload_n 0, 11, 0, 0, 0)), (11, (.getfield 11, 14, 1, 0, 160)), (14, (.iload_n 1, 15, 0, 0, 0)), (15, (.aaload, 16, 0, 0, 0)), (16, (.iload_n 2, 17, 0, 0, 0)), (17, (.putfield 148, 20, 0, 6, 132)), (20, (.aload_n 0, 21, 0, 0, 0)), (21, (.invokevirtual 151, 24, k_X2_countAutomatic, 1, 897)), (24, (.ireturn, 25, 0, 0, 0))]
noncomputable def t_X2_makeManual : List (Nat × mv_I) := [(0, (.aload_n 0, 1, 0, 0, 0)), (1, (.getfield 11, 4, 1, 0, 160)), (4, (.iload_n 1, 5, 0, 0, 0)), (5, (.aaload, 6, 0, 0, 0)), (6, (.iconst 0, 7, 0, 0, 0)), (7, (.putfield 107, 10, 0, 5, 129)), (10, (.aload_n 0, 11, 0, 0, 0)), (11, (.invokevirtual 151, 14, k_X2_countAutomatic, 1, 897)), (14, (.ireturn, 15, 0, 0, 0))]
noncomputable def t_X2_countAutomatic : List (Nat × mv_I) := [(0, (.iconst 0, 1, 0, 0, 0)), (1, (.istore_n 1, 2, 0, 0, 0)), (2, (.iconst 0, 3, 0, 0, 0)), (3, (.istore_n 2, 4, 0, 0, 0)), (4, (.iload_n 2, 5, 0, 0, 0)), (5, (.aload_n 0, 6, 0, 0, 0)), (6, (.getfield 17, 9, 1, 1, 162)), (9, (.if_icmp .ge 24, 12, 33, 0, 0)), (12, (.aload_n 0, 13, 0, 0, 0)), (13, (.getfield 11, 16, 1, 0, 160)), (16, (.iload_n 2, 17, 0, 0, 0)), (17, (.aaload, 18, 0, 0, 0)), (18, (.getfield 107, 21, 0, 5, 129)), (21, (.ifCond .eq 6, 24, 27, 0, 0)), (24, (.iinc 1 1, 27, 0, 0, 0)), (27, (.iinc 2 1, 30, 0, 0, 0)), (30, (.goto (-26), 33, 4, 0, 0)), (33, (.iload_n 1, 34, 0, 0, 0)), (34, (.ireturn, 35, 0, 0, 0))]
noncomputable def t_X2_expectRain : List (Nat × mv_I) := [(0, (.aload_n 0, 1, 0, 0, 0)), (1, (.getfield 21, 4, 1, 2, 164)), (4, (.aload_n 0, 5, 0, 0, 0)), (5, (.getfield 25, 8, 1, 3, 166)), (8, (.iload_n 1, 9, 0, 0, 0)), (9, (.iastore, 10, 0, 0, 0)), (10, (.aload_n 0, 11, 0, 0, 0)), (11, (.dup, 12, 0, 0, 0)), (12, (.getfield 25, 15, 1, 3, 166)), (15, (.iconst 1, 16, 0, 0, 0)), (16, (.iadd, 17, 0, 0, 0)), (17, (.putfield 25, 20, 1, 3, 166)), (20, (.aload_n 0, 21, 0, 0, 0)), (21, (.getfield 25, 24, 1, 3, 166)), (24, (.ireturn, 25, 0, 0, 0))]
noncomputable def t_X2_dropForecast : List (Nat × mv_I) := [(0, (.iconst 0, 1, 0, 0, 0)), (1, (.istore_n 1, 2, 0, 0, 0)), (2, (.iconst 0, 3, 0, 0, 0)), (3, (.istore_n 2, 4, 0, 0, 0)), (4, (.iload_n 2, 5, 0, 0, 0)), (5, (.aload_n 0, 6, 0, 0, 0)), (6, (.getfield 25, 9, 1, 3, 166)), (9, (.if_icmp .ge 18, 12, 27, 0, 0)), (12, (.iload_n 1, 13, 0, 0, 0)), (13, (.aload_n 0, 14, 0, 0, 0)), (14, (.getfield 21, 17, 1, 2, 164)), (17, (.iload_n 2, 18, 0, 0, 0)), (18, (.iaload, 19, 0, 0, 0)), (19, (.iadd, 20, 0, 0, 0)), (20, (.istore_n 1, 21, 0, 0, 0)), (21, (.iinc 2 1, 24, 0, 0, 0)), (24, (.goto (-20), 27, 4, 0, 0)), (27, (.aload_n 0, 28, 0, 0, 0)), (28, (.iconst 0, 29, 0, 0, 0)), (29, (.putfield 25, 32, 1, 3, 166)), (32, (.iload_n 1, 33, 0, 0, 0)), (33, (.ireturn, 34, 0, 0, 0))]
noncomputable def t_X2_pourInto : List (Nat × mv_I) := [(0, (.aload_n 0, 1, 0, 0, 0)), (1, (.getfield 11, 4, 1, 0, 160)), (4, (.iload_n 1, 5, 0, 0, 0)), (5, (.aaload, 6, 0, 0, 0)), (6, (.dup, 7, 0, 0, 0)), (7, (.getfield 111, 10, 0, 3, 123)), (10, (.iload_n 2, 11, 0, 0, 0)), (11, (.iadd, 12, 0, 0, 0)), (12, (.putfield 111, 15, 0, 3, 123)), (15, (.aload_n 0, 16, 0, 0, 0)), (16, (.dup, 17, 0, 0, 0)), (17, (.getfield 35, 20, 1, 6, 171)), (20, (.iload_n 2, 21, 0, 0, 0)), (21, (.i2l, 22, 0, 0, 0)), (22, (.ladd, 23, 0, 0, 0)), (23, (.putfield 35, 26, 1, 6, 171)), (26, (.aload_n 0, 27, 0, 0, 0)), (27, (.getfield 11, 30, 1, 0, 160)), (30, (.iload_n 1, 31, 0, 0, 0)), (31, (.aaload, 32, 0, 0, 0)), (32, (.getfield 111, 35, 0, 3, 123)), (35, (.ireturn, 36, 0, 0, 0))]
noncomputable def t_X2_passSteps : List (Nat × mv_I) := [(0, (.iconst 0, 1, 0, 0, 0)), (1, (.istore_n 2, 2, 0, 0, 0)), (2, (.iconst 0, 3, 0, 0, 0)), (3, (.istore_n 3, 4, 0, 0, 0)), (4, (.iload_n 3, 5, 0, 0, 0)), (5, (.iload_n 1, 6, 0, 0, 0)), (6, (.if_icmp .ge 16, 9, 22, 0, 0)), (9, (.iload_n 2, 10, 0, 0, 0)), (10, (.aload_n 0, 11, 0, 0, 0)), (11, (.invokevirtual 154, 14, k_X2_passStep, 1, 917)), (14, (.iadd, 15, 0, 0, 0)), (15, (.istore_n 2, 16, 0, 0, 0)), (16, (.iinc 3 1, 19, 0, 0, 0)), (19, (.goto (-15), 22, 4, 0, 0)), (22, (.iload_n 2, 23, 0, 0, 0)), (23, (.ireturn, 24, 0, 0, 0))]
noncomputable def t_X2_passStep : List (Nat × mv_I) := [(0, (.aload_n 0, 1, 0, 0, 0)), (1, (.dup, 2, 0, 0, 0)), (2, (.getfield 28, 5, 1, 4, 168)), (5, (.iconst 1, 6, 0, 0, 0)), (6, (.iadd, 7, 0, 0, 0)), (7, (.putfield 28, 10, 1, 4, 168)), (10, (.aload_n 0, 11, 0, 0, 0)), (11, (.aload_n 0, 12, 0, 0, 0)), (12, (.invokevirtual 157, 15, k_X2_takeRain, 1, 599)), (15, (.invokevirtual 160, 18, k_X2_rainDown, 2, 603)), (18, (.aload_n 0, 19, 0, 0, 0)), (19, (.dup, 20, 0, 0, 0)), (20, (.getfield 38, 23, 1, 7, 172)), (23, (.aload_n 0, 24, 0, 0, 0)), (24, (.invokevirtual 164, 27, k_X2_flowDown, 1, 607)), (27, (.i2l, 28, 0, 0, 0)), (28, (.ladd, 29, 0, 0, 0)), (29, (.putfield 38, 32, 1, 7, 172)), (32, (.iconst 0, 33, 0, 0, 0)), (33, (.istore_n 1, 34, 0, 0, 0)), (34, (.iconst 0, 35, 0, 0, 0)), (35, (.istore_n 2, 36, 0, 0, 0)), (36, (.iload_n 2, 37, 0, 0, 0)), (37, (.aload_n 0, 38, 0, 0, 0)), (38, (.getfield 17, 41, 1, 1, 162)), (41, (.if_icmp .ge 21, 44, 62, 0, 0)), (44, (.iload_n 1, 45, 0, 0, 0)), (45, (.aload_n 0, 46, 0, 0, 0)), (46, (.getfield 11, 49, 1, 0, 160)), (49, (.iload_n 2, 50, 0, 0, 0)), (50, (.aaload, 51, 0, 0, 0)), (51, (.invokevirtual 167, 54, k_X1_spillOver, 1, 619)), (54, (.iadd, 55, 0, 0, 0)), (55, (.istore_n 1, 56, 0, 0, 0)), (56, (.iinc 2 1, 59, 0, 0, 0)), (59, (.goto (-23), 62, 36, 0, 0)), (62, (.iload_n 1, 63, 0, 0, 0)), (63, (.ireturn, 64, 0, 0, 0))]
noncomputable def t_X2_takeRain : List (Nat × mv_I) := [(0, (.aload_n 0, 1, 0, 0, 0)), (1, (.getfield 25, 4, 1, 3, 166)), (4, (.ifCond .ne 5, 7, 9, 0, 0)), (7, (.iconst 0, 8, 0, 0, 0)), (8, (.ireturn, 9, 0, 0, 0)), (9, (.aload_n 0, 10, 0, 0, 0)), (10, (.getfield 21, 13, 1, 2, 164)), (13, (.iconst 0, 14, 0, 0, 0)), (14, (.iaload, 15, 0, 0, 0)), (15, (.istore_n 1, 16, 0, 0, 0)), (16, (.aload_n 0, 17, 0, 0, 0)), (17, (.dup, 18, 0, 0, 0)), (18, (.getfield 25, 21, 1, 3, 166)), (21, (.iconst 1, 22, 0, 0, 0)), (22, (.isub, 23, 0, 0, 0)), (23, (.putfield 25, 26, 1, 3, 166)), (26, (.iconst 0, 27, 0, 0, 0)), (27, (.istore_n 2, 28, 0, 0, 0)), (28, (.iload_n 2, 29, 0, 0, 0)), (29, (.aload_n 0, 30, 0, 0, 0)), (30, (.getfield 25, 33, 1, 3, 166)), (33, (.if_icmp .ge 23, 36, 56, 0, 0)), (36, (.aload_n 0, 37, 0, 0, 0)), (37, (.getfield 21, 40, 1, 2, 164)), (40, (.iload_n 2, 41, 0, 0, 0)), (41, (.aload_n 0, 42, 0, 0, 0)), (42, (.getfield 21, 45, 1, 2, 164)), (45, (.iload_n 2, 46, 0, 0, 0)), (46, (.iconst 1, 47, 0, 0, 0)), (47, (.iadd, 48, 0, 0, 0)), (48, (.iaload, 49, 0, 0, 0)), (49, (.iastore, 50, 0, 0, 0)), (50, (.iinc 2 1, 53, 0, 0, 0)), (53, (.goto (-25), 56, 28, 0, 0)), (56, (.iload_n 1, 57, 0, 0, 0)), (57, (.ireturn, 58, 0, 0, 0))]
noncomputable def t_X2_rainDown : List (Nat × mv_I) := [(0, (.iconst 0, 1, 0, 0, 0)), (1, (.istore_n 2, 2, 0, 0, 0)), (2, (.iload_n 2, 3, 0, 0, 0)), (3, (.aload_n 0, 4, 0, 0, 0)), (4, (.getfield 17, 7, 1, 1, 162)), (7, (.if_icmp .ge 47, 10, 54, 0, 0)), (10, (.iload_n 1, 11, 0, 0, 0)), (11, (.aload_n 0, 12, 0, 0, 0)), (12, (.getfield 11, 15, 1, 0, 160)), (15, (.iload_n 2, 16, 0, 0, 0)), (16, (.aaload, 17, 0, 0, 0)), (17, (.getfield 170, 20, 0, 1, 119)), (20, (.imul, 21, 0, 0, 0)), (21, (.istore_n 3, 22, 0, 0, 0)), (22, (.aload_n 0, 23, 0, 0, 0)), (23, (.getfield 11, 26, 1, 0, 160)), (26, (.iload_n 2, 27, 0, 0, 0)), (27, (.aaload, 28, 0, 0, 0)), (28, (.dup, 29, 0, 0, 0)), (29, (.getfield 111, 32, 0, 3, 123)), (32, (.iload_n 3, 33, 0, 0, 0)), (33, (.iadd, 34, 0, 0, 0)), (34, (.putfield 111, 37, 0, 3, 123)), (37, (.aload_n 0, 38, 0, 0, 0)), (38, (.dup, 39, 0, 0, 0)), (39, (.getfield 31, 42, 1, 5, 170)), (42, (.iload_n 3, 43, 0, 0, 0)), (43, (.i2l, 44, 0, 0, 0)), (44, (.ladd, 45, 0, 0, 0)), (45, (.putfield 31, 48, 1, 5, 170)), (48, (.iinc 2 1, 51, 0, 0, 0)), (51, (.goto (-49), 54, 2, 0, 0)), (54, (.return_, 55, 0, 0, 0))]
noncomputable def t_X2_flowDown : List (Nat × mv_I) := [(0, (.iconst 0, 1, 0, 0, 0)), (1, (.istore_n 1, 2, 0, 0, 0)), (2, (.iconst 0, 3, 0, 0, 0)), (3, (.istore_n 2, 4, 0, 0, 0)), (4, (.iload_n 2, 5, 0, 0, 0)), (5, (.aload_n 0, 6, 0, 0, 0)), (6, (.getfield 17, 9, 1, 1, 162)), (9, (.if_icmp .ge 35, 12, 44, 0, 0)), (12, (.aload_n 0, 13, 0, 0, 0)), (13, (.getfield 11, 16, 1, 0, 160)), (16, (.iload_n 2, 17, 0, 0, 0)), (17, (.aaload, 18, 0, 0, 0)), (18, (.astore_n 3, 19, 0, 0, 0)), (19, (.aload_n 3, 20, 0, 0, 0)), (20, (.dup, 21, 0, 0, 0)), (21, (.getfield 111, 24, 0, 3, 123)), (24, (.iload_n 1, 25, 0, 0, 0)), (25, (.iadd, 26, 0, 0, 0)), (26, (.putfield 111, 29, 0, 3, 123)), (29, (.aload_n 3, 30, 0, 0, 0)), (30, (.invokevirtual 173, 33, k_X1_moveAutomaticGate, 1, 611)), (33, (.aload_n 3, 34, 0, 0, 0)), (34, (.invokevirtual 176, 37, k_X1_letOut, 1, 615)), (37, (.istore_n 1, 38, 0, 0, 0)), (38, (.iinc 2 1, 41, 0, 0, 0)), (41, (.goto (-37), 44, 4, 0, 0)), (44, (.iload_n 1, 45, 0, 0, 0)), (45, (.ireturn, 46, 0, 0, 0))]
noncomputable def t_X2_rankOf : List (Nat × mv_I) := [(0, (.iconst 0, 1, 0, 0, 0)), (1, (.istore_n 2, 2, 0, 0, 0)), (2, (.iconst 0, 3, 0, 0, 0)), (3, (.istore_n 3, 4, 0, 0, 0)), (4, (.iload_n 3, 5, 0, 0, 0)), (5, (.aload_n 0, 6, 0, 0, 0)), (6, (.getfield 17, 9, 1, 1, 162)), (9, (.if_icmp .ge 21, 12, 30, 0, 0)), (12, (.aload_n 0, 13, 0, 0, 0)), (13, (.iload_n 3, 14, 0, 0, 0)), (14, (.iload_n 1, 15, 0, 0, 0)), (15, (.invokevirtual 179, 18, k_X2_isRankedBefore, 3, 441)), (18, (.ifCond .eq 6, 21, 24, 0, 0)), (21, (.iinc 2 1, 24, 0, 0, 0)), (24, (.iinc 3 1, 27, 0, 0, 0)), (27, (.goto (-23), 30, 4, 0, 0)), (30, (.iload_n 2, 31, 0, 0, 0)), (31, (.ireturn, 32, 0, 0, 0))]
noncomputable def t_X2_isRankedBefore : List (Nat × mv_I) := [(0, (.aload_n 0, 1, 0, 0, 0)), (1, (.getfield 11, 4, 1, 0, 160)), (4, (.iload_n 1, 5, 0, 0, 0)), (5, (.aaload, 6, 0, 0, 0)), (6, (.getfield 111, 9, 0, 3, 123)), (9, (.aload_n 0, 10, 0, 0, 0)), (10, (.getfield 11, 13, 1, 0, 160)), (13, (.iload_n 2, 14, 0, 0, 0)), (14, (.aaload, 15, 0, 0, 0)), (15, (.getfield 114, 18, 0, 0, 116)), (18, (.imul, 19, 0, 0, 0)), (19, (.istore_n 3, 20, 0, 0, 0)), (20, (.aload_n 0, 21, 0, 0, 0)), (21, (.getfield 11, 24, 1, 0, 160)), (24, (.iload_n 2, 25, 0, 0, 0)), (25, (.aaload, 26, 0, 0, 0)), (26, (.getfield 111, 29, 0, 3, 123)), (29, (.aload_n 0, 30, 0, 0, 0)), (30, (.getfield 11, 33, 1, 0, 160)), (33, (.iload_n 1, 34, 0, 0, 0)), (34, (.aaload, 35, 0, 0, 0)), (35, (.getfield 114, 38, 0, 0, 116)), (38, (.imul, 39, 0, 0, 0)), (39, (.istore 4, 41, 0, 0, 0)), (41, (.iload_n 3, 42, 0, 0, 0)), (42, (.iload 4, 44, 0, 0, 0)), (44, (.if_icmp .gt 14, 47, 58, 0, 0)), (47, (.iload_n 3, 48, 0, 0, 0)), (48, (.iload 4, 50, 0, 0, 0)), (50, (.if_icmp .ne 12, 53, 62, 0, 0)), (53, (.iload_n 1, 54, 0, 0, 0)), (54, (.iload_n 2, 55, 0, 0, 0)), (55, (.if_icmp .ge 7, 58, 62, 0, 0)), (58, (.iconst 1, 59, 0, 0, 0)), (59, (.goto 4, 62, 63, 0, 0)), (62, (.iconst 0, 63, 0, 0, 0)), (63, (.ireturn, 64, 1, 0, 0))]
noncomputable def t_X2_levelsFit : List (Nat × mv_I) := [(0, (.iconst 0, 1, 0, 0, 0)), (1, (.istore_n 1, 2, 0, 0, 0)), (2, (.iload_n 1, 3, 0, 0, 0)), (3, (.aload_n 0, 4, 0, 0, 0)), (4, (.getfield 17, 7, 1, 1, 162)), (7, (.if_icmp .ge 32, 10, 39, 0, 0)), (10, (.aload_n 0, 11, 0, 0, 0)), (11, (.getfield 11, 14, 1, 0, 160)), (14, (.iload_n 1, 15, 0, 0, 0)), (15, (.aaload, 16, 0, 0, 0)), (16, (.getfield 111, 19, 0, 3, 123)), (19, (.aload_n 0, 20, 0, 0, 0)), (20, (.getfield 11, 23, 1, 0, 160)), (23, (.iload_n 1, 24, 0, 0, 0)), (24, (.aaload, 25, 0, 0, 0)), (25, (.getfield 114, 28, 0, 0, 116)), (28, (.if_icmp .le 5, 31, 33, 0, 0)), (31, (.iconst 0, 32, 0, 0, 0)), (32, (.ireturn, 33, 1, 0, 0)), (33, (.iinc 1 1, 36, 0, 0, 0)), (36, (.goto (-34), 39, 2, 0, 0)), (39, (.iconst 1, 40, 0, 0, 0)), (40, (.ireturn, 41, 1, 0, 0))]
noncomputable def t_X2_sumOfLevels : List (Nat × mv_I) := [(0, (.iconst 0, 1, 0, 0, 0)), (1, (.istore_n 1, 2, 0, 0, 0)), (2, (.iconst 0, 3, 0, 0, 0)), (3, (.istore_n 2, 4, 0, 0, 0)), (4, (.iload_n 2, 5, 0, 0, 0)), (5, (.aload_n 0, 6, 0, 0, 0)), (6, (.getfield 17, 9, 1, 1, 162)), (9, (.if_icmp .ge 21, 12, 30, 0, 0)), (12, (.iload_n 1, 13, 0, 0, 0)), (13, (.aload_n 0, 14, 0, 0, 0)), (14, (.getfield 11, 17, 1, 0, 160)), (17, (.iload_n 2, 18, 0, 0, 0)), (18, (.aaload, 19, 0, 0, 0)), (19, (.getfield 111, 22, 0, 3, 123)), (22, (.iadd, 23, 0, 0, 0)), (23, (.istore_n 1, 24, 0, 0, 0)), (24, (.iinc 2 1, 27, 0, 0, 0)), (27, (.goto (-23), 30, 4, 0, 0)), (30, (.iload_n 1, 31, 0, 0, 0)), (31, (.ireturn, 32, 0, 0, 0))]
noncomputable def t_X2_balanceOfAccounts : List (Nat × mv_I) := [(0, (.aload_n 0, 1, 0, 0, 0)), (1, (.getfield 31, 4, 1, 5, 170)), (4, (.aload_n 0, 5, 0, 0, 0)), (5, (.getfield 35, 8, 1, 6, 171)), (8, (.ladd, 9, 0, 0, 0)), (9, (.aload_n 0, 10, 0, 0, 0)), (10, (.getfield 38, 13, 1, 7, 172)), (13, (.lsub, 14, 0, 0, 0)), (14, (.lstore_n 1, 15, 0, 0, 0)), (15, (.iconst 0, 16, 0, 0, 0)), (16, (.istore_n 3, 17, 0, 0, 0)), (17, (.iload_n 3, 18, 0, 0, 0)), (18, (.aload_n 0, 19, 0, 0, 0)), (19, (.getfield 17, 22, 1, 1, 162)), (22, (.if_icmp .ge 22, 25, 44, 0, 0)), (25, (.lload_n 1, 26, 0, 0, 0)), (26, (.aload_n 0, 27, 0, 0, 0)), (27, (.getfield 11, 30, 1, 0, 160)), (30, (.iload_n 3, 31, 0, 0, 0)), (31, (.aaload, 32, 0, 0, 0)), (32, (.getfield 183, 35, 0, 7, 136)), (35, (.i2l, 36, 0, 0, 0)), (36, (.lsub, 37, 0, 0, 0)), (37, (.lstore_n 1, 38, 0, 0, 0)), (38, (.iinc 3 1, 41, 0, 0, 0)), (41, (.goto (-24), 44, 17, 0, 0)), (44, (.lload_n 1, 45, 0, 0, 0)), (45, (.l2i, 46, 0, 0, 0)), (46, (.ireturn, 47, 0, 0, 0))]
noncomputable def t_X2_sumOfFloodedSteps : List (Nat × mv_I) := [(0, (.iconst 0, 1, 0, 0, 0)), (1, (.istore_n 1, 2, 0, 0, 0)), (2, (.iconst 0, 3, 0, 0, 0)), (3, (.istore_n 2, 4, 0, 0, 0)), (4, (.iload_n 2, 5, 0, 0, 0)), (5, (.aload_n 0, 6, 0, 0, 0)), (6, (.getfield 17, 9, 1, 1, 162)), (9, (.if_icmp .ge 21, 12, 30, 0, 0)), (12, (.iload_n 1, 13, 0, 0, 0)), (13, (.aload_n 0, 14, 0, 0, 0)), (14, (.getfield 11, 17, 1, 0, 160)), (17, (.iload_n 2, 18, 0, 0, 0)), (18, (.aaload, 19, 0, 0, 0)), (19, (.getfield 186, 22, 0, 8, 139)), (22, (.iadd, 23, 0, 0, 0)), (23, (.istore_n 1, 24, 0, 0, 0)), (24, (.iinc 2 1, 27, 0, 0, 0)), (27, (.goto (-23), 30, 4, 0, 0)), (30, (.iload_n 1, 31, 0, 0, 0)), (31, (.ireturn, 32, 0, 0, 0))]
noncomputable def t_X5_init : List (Nat × mv_I) := [(0, (.aload_n 0, 1, 0, 0, 0)), (1, (.invokespecial 3, 4, 905, 1, 196)), (4, (.aload_n 0, 5, 0, 0, 0)), (5, (.bipush 8, 7, 0, 0, 0)), (7, (.anewarray 9, 10, 25, 0, 197)), (10, (.putfield 11, 13, 2, 0, 200)), (13, (.aload_n 0, 14, 0, 0, 0)), (14, (.iconst 0, 15, 0, 0, 0)), (15, (.putfield 17, 18, 2, 1, 201)), (18, (.aload_n 0, 19, 0, 0, 0)), (19, (.iconst 0, 20, 0, 0, 0)), (20, (.putfield 21, 23, 2, 2, 202)), (23, (.iconst 0, 24, 0, 0, 0)), (24, (.istore_n 1, 25, 0, 0, 0)), (25, (.iload_n 1, 26, 0, 0, 0)), (26, (.aload_n 0, 27, 0, 0, 0)), (27, (.getfield 11, 30, 2, 0, 200)), (30, (.arraylength, 31, 0, 0, 0)), (31, (.if_icmp .ge 22, 34, 53, 0, 0)), (34, (.aload_n 0, 35, 0, 0, 0)), (35, (.getfield 11, 38, 2, 0, 200)), (38, (.iload_n 1, 39, 0, 0, 0)), (39, (.new 9, 42, 1, 0, 197)), (42, (.dup, 43, 0, 0, 0)), (43, (.invokespecial 24, 46, k_X2_init, 1, 199)), (46, (.aastore, 47, 0, 0, 0)), (47, (.iinc 1 1, 50, 0, 0, 0)), (50, (.goto (-25), 53, 25, 0, 0)), (53, (.return_, 54, 0, 0, 0))]
noncomputable def t_X5_remember : List (Nat × mv_I) := [(0, (.aload_n 0, 1, 0, 0, 0)), (1, (.getfield 11, 4, 2, 0, 200)), (4, (.aload_n 0, 5, 0, 0, 0)), (5, (.getfield 17, 8, 2, 1, 201)), (8, (.aaload, 9, 0, 0, 0)), (9, (.aload_n 1, 10, 0, 0, 0)), (10, (.invokevirtual 25, 13, k_X2_copyFrom, 2, 875)), (13, (.aload_n 0, 14, 0, 0, 0)), (14, (.aload_n 0, 15, 0, 0, 0)), (15, (.getfield 17, 18, 2, 1, 201)), (18, (.iconst 1, 19, 0, 0, 0)), (19, (.iadd, 20, 0, 0, 0)), (20, (.bipush 8, 22, 0, 0, 0)), (22, (.irem, 23, 0, 0, 0)), (23, (.putfield 17, 26, 2, 1, 201)), (26, (.aload_n 0, 27, 0, 0, 0)), (27, (.aload_n 0, 28, 0, 0, 0)), (28, (.getfield 21, 31, 2, 2, 202)), (31, (.iconst 1, 32, 0, 0, 0)), (32, (.iadd, 33, 0, 0, 0)), (33, (.bipush 8, 35, 0, 0, 0)), (35, (.invokestatic 29, 38, 900, 2, 876)), (38, (.putfield 21, 41, 2, 2, 202)), (41, (.return_, 42, 0, 0, 0))]
noncomputable def t_X6_init : List (Nat × mv_I) := [(0, (.aload_n 0, 1, 0, 0, 0)), (1, (.invokespecial 3, 4, 905, 1, 275)), (4, (.aload_n 0, 5, 0, 0, 0)), (5, (.bipush 54, 7, 0, 0, 0)), (7, (.newarray .char, 9, 21, 0, 0)), (9, (.putfield 9, 12, 3, 0, 276)), (12, (.aload_n 0, 13, 0, 0, 0)), (13, (.iconst 0, 14, 0, 0, 0)), (14, (.putfield 15, 17, 3, 1, 278)), (17, (.return_, 18, 0, 0, 0))]
noncomputable def t_X6_put : List (Nat × mv_I) := [(0, (.aload_n 0, 1, 0, 0, 0)), (1, (.getfield 15, 4, 3, 1, 278)), (4, (.bipush 54, 6, 0, 0, 0)), (6, (.if_icmp .ge 23, 9, 29, 0, 0)), (9, (.aload_n 0, 10, 0, 0, 0)), (10, (.getfield 9, 13, 3, 0, 276)), (13, (.aload_n 0, 14, 0, 0, 0)), (14, (.getfield 15, 17, 3, 1, 278)), (17, (.iload_n 1, 18, 0, 0, 0)), (18, (.castore, 19, 0, 0, 0)), (19, (.aload_n 0, 20, 0, 0, 0)), (20, (.dup, 21, 0, 0, 0)), (21, (.getfield 15, 24, 3, 1, 278)), (24, (.iconst 1, 25, 0, 0, 0)), (25, (.iadd, 26, 0, 0, 0)), (26, (.putfield 15, 29, 3, 1, 278)), (29, (.return_, 30, 0, 0, 0))]
noncomputable def t_X6_putNumber : List (Nat × mv_I) := [(0, (.iload_n 1, 1, 0, 0, 0)), (1, (.bipush 10, 3, 0, 0, 0)), (3, (.if_icmp .lt 11, 6, 14, 0, 0)), (6, (.aload_n 0, 7, 0, 0, 0)), (7, (.iload_n 1, 8, 0, 0, 0)), (8, (.bipush 10, 10, 0, 0, 0)), (10, (.idiv, 11, 0, 0, 0)), (11, (.invokevirtual 19, 14, k_X6_putDigit, 2, 761)), (14, (.aload_n 0, 15, 0, 0, 0)), (15, (.iload_n 1, 16, 0, 0, 0)), (16, (.bipush 10, 18, 0, 0, 0)), (18, (.irem, 19, 0, 0, 0)), (19, (.invokevirtual 19, 22, k_X6_putDigit, 2, 761)), (22, (.return_, 23, 0, 0, 0))]
noncomputable def t_X6_putDigit : List (Nat × mv_I) := [(0, (.aload_n 0, 1, 0, 0, 0)), (1, (.bipush 48, 3, 0, 0, 0)), (3, (.iload_n 1, 4, 0, 0, 0)), (4, (.iadd, 5, 0, 0, 0)), (5, (.i2c, 6, 0, 0, 0)), (6, (.invokevirtual 23, 9, k_X6_put, 2, 765)), (9, (.return_, 10, 0, 0, 0))]
noncomputable def t_X7_init : List (Nat × mv_I) := [(0, (.aload_n 0, 1, 0, 0, 0)), (1, (.invokespecial 3, 4, 905, 1, 215)), (4, (.aload_n 0, 5, 0, 0, 0)), (5, (.iconst 4, 6, 0, 0, 0)), (6, (.anewarray 9, 9, 25, 0, 216)), (9, (.putfield 11, 12, 4, 0, 218)), (12, (.iconst 0, 13, 0, 0, 0)), (13, (.istore_n 1, 14, 0, 0, 0)), (14, (.iload_n 1, 15, 0, 0, 0)), (15, (.aload_n 0, 16, 0, 0, 0)), (16, (.getfield 11, 19, 4, 0, 218)), (19, (.arraylength, 20, 0, 0, 0)), (20, (.if_icmp .ge 22, 23, 42, 0, 0)), (23, (.aload_n 0, 24, 0, 0, 0)), (24, (.getfield 11, 27, 4, 0, 218)), (27, (.iload_n 1, 28, 0, 0, 0)), (28, (.new 9, 31, 1, 0, 216)), (31, (.dup, 32, 0, 0, 0)), (32, (.invokespecial 17, 35, k_X2_init, 1, 217)), (35, (.aastore, 36, 0, 0, 0)), (36, (.iinc 1 1, 39, 0, 0, 0)), (39, (.goto (-25), 42, 14, 0, 0)), (42, (.return_, 43, 0, 0, 0))]
noncomputable def t_X7_leastOfAll : List (Nat × mv_I) := [(0, (.aload_n 0, 1, 0, 0, 0)), (1, (.getfield 11, 4, 4, 0, 218)), (4, (.aload_n 1, 5, 0, 0, 0)), (5, (.iload_n 2, 6, 0, 0, 0)), (6, (.iload_n 3, 7, 0, 0, 0)), (7, (.invokestatic 18, 10, k_X7_leastFrom, 4, 645)), (10, (.ireturn, 11, 0, 0, 0))]
noncomputable def t_X7_leastByCutting : List (Nat × mv_I) := [(0, (.aload_n 0, 1, 0, 0, 0)), (1, (.getfield 11, 4, 4, 0, 218)), (4, (.aload_n 1, 5, 0, 0, 0)), (5, (.iload_n 2, 6, 0, 0, 0)), (6, (.iload_n 3, 7, 0, 0, 0)), (7, (.iconst 0, 8, 0, 0, 0)), (8, (.ldc 22, 10, 1, 1000000, 648)), (10, (.invokestatic 23, 13, k_X7_leastBelow, 6, 666)), (13, (.ireturn, 14, 0, 0, 0))]
noncomputable def t_X7_lowestFirstOpening : List (Nat × mv_I) := [(0, (.iload_n 3, 1, 0, 0, 0)), (1, (.iconst 1, 2, 0, 0, 0)), (2, (.if_icmp .lt 12, 5, 14, 0, 0)), (5, (.iload_n 3, 6, 0, 0, 0)), (6, (.aload_n 0, 7, 0, 0, 0)), (7, (.getfield 11, 10, 4, 0, 218)), (10, (.arraylength, 11, 0, 0, 0)), (11, (.if_icmp .le 5, 14, 16, 0, 0)), (14, (.iconst 0, 15, 0, 0, 0)), (15, (.ireturn, 16, 0, 0, 0)), (16, (.aload_n 0, 17, 0, 0, 0)), (17, (.getfield 11, 20, 4, 0, 218)), (20, (.iload_n 3, 21, 0, 0, 0)), (21, (.iconst 1, 22, 0, 0, 0)), (22, (.isub, 23, 0, 0, 0)), (23, (.aaload, 24, 0, 0, 0)), (24, (.astore 4, 26, 0, 0, 0)), (26, (.iconst 0, 27, 0, 0, 0)), (27, (.istore 5, 29, 0, 0, 0)), (29, (.ldc 22, 31, 1, 1000000, 648)), (31, (.istore 6, 33, 0, 0, 0)), (33, (.iconst 0, 34, 0, 0, 0)), (34, (.istore 7, 36, 0, 0, 0)), (36, (.iload 7, 38, 0, 0, 0)), (38, (.iconst 5, 39, 0, 0, 0)), (39, (.if_icmp .gt 54, 42, 93, 0, 0)), (42, (.aload 4, 44, 0, 0, 0)), (44, (.aload_n 1, 45, 0, 0, 0)), (45, (.iload_n 2, 46, 0, 0, 0)), (46, (.iload 7, 48, 0, 0, 0)), (48, (.invokevirtual 27, 51, k_X2_copyWithOpening, 4, 649)), (51, (.aload 4, 53, 0, 0, 0)), (53, (.invokevirtual 31, 56, k_X2_passStep, 1, 654)), (56, (.aload_n 0, 57, 0, 0, 0)), (57, (.getfield 11, 60, 4, 0, 218)), (60, (.aload 4, 62, 0, 0, 0)), (62, (.iload_n 2, 63, 0, 0, 0)), (63, (.iload_n 3, 64, 0, 0, 0)), (64, (.iconst 1, 65, 0, 0, 0)), (65, (.isub, 66, 0, 0, 0)), (66, (.invokestatic 18, 69, k_X7_leastFrom, 4, 645)), (69, (.iadd, 70, 0, 0, 0)), (70, (.istore 8, 72, 0, 0, 0)), (72, (.iload 8, 74, 0, 0, 0)), (74, (.iload 6, 76, 0, 0, 0)), (76, (.if_icmp .ge 11, 79, 87, 0, 0)), (79, (.iload 8, 81, 0, 0, 0)), (81, (.istore 6, 83, 0, 0, 0)), (83, (.iload 7, 85, 0, 0, 0)), (85, (.istore 5, 87, 0, 0, 0)), (87, (.iinc 7 1, 90, 0, 0, 0)), (90, (.goto (-54), 93, 36, 0, 0)), (93, (.iload 5, 95, 0, 0, 0)), (95, (.ireturn, 96, 0, 0, 0))]
noncomputable def t_X7_leastFrom : List (Nat × mv_I) := [(0, (.iload_n 3, 1, 0, 0, 0)), (1, (.iconst 1, 2, 0, 0, 0)), (2, (.if_icmp .lt 9, 5, 11, 0, 0)), (5, (.iload_n 3, 6, 0, 0, 0)), (6, (.aload_n 0, 7, 0, 0, 0)), (7, (.arraylength, 8, 0, 0, 0)), (8, (.if_icmp .le 5, 11, 13, 0, 0)), (11, (.iconst 0, 12, 0, 0, 0)), (12, (.ireturn, 13, 0, 0, 0)), (13, (.aload_n 0, 14, 0, 0, 0)), (14, (.iload_n 3, 15, 0, 0, 0)), (15, (.iconst 1, 16, 0, 0, 0)), (16, (.isub, 17, 0, 0, 0)), (17, (.aaload, 18, 0, 0, 0)), (18, (.astore 4, 20, 0, 0, 0)), (20, (.ldc 22, 22, 1, 1000000, 648)), (22, (.istore 5, 24, 0, 0, 0)), (24, (.iconst 0, 25, 0, 0, 0)), (25, (.istore 6, 27, 0, 0, 0)), (27, (.iload 6, 29, 0, 0, 0)), (29, (.iconst 5, 30, 0, 0, 0)), (30, (.if_icmp .gt 45, 33, 75, 0, 0)), (33, (.aload 4, 35, 0, 0, 0)), (35, (.aload_n 1, 36, 0, 0, 0)), (36, (.iload_n 2, 37, 0, 0, 0)), (37, (.iload 6, 39, 0, 0, 0)), (39, (.invokevirtual 27, 42, k_X2_copyWithOpening, 4, 649)), (42, (.aload 4, 44, 0, 0, 0)), (44, (.invokevirtual 31, 47, k_X2_passStep, 1, 654)), (47, (.aload_n 0, 48, 0, 0, 0)), (48, (.aload 4, 50, 0, 0, 0)), (50, (.iload_n 2, 51, 0, 0, 0)), (51, (.iload_n 3, 52, 0, 0, 0)), (52, (.iconst 1, 53, 0, 0, 0)), (53, (.isub, 54, 0, 0, 0)), (54, (.invokestatic 18, 57, k_X7_leastFrom, 4, 645)), (57, (.iadd, 58, 0, 0, 0)), (58, (.istore 7, 60, 0, 0, 0)), (60, (.iload 5, 62, 0, 0, 0)), (62, (.iload 7, 64, 0, 0, 0)), (64, (.invokestatic 35, 67, 900, 2, 655)), (67, (.istore 5, 69, 0, 0, 0)), (69, (.iinc 6 1, 72, 0, 0, 0)), (72, (.goto (-45), 75, 27, 0, 0)), (75, (.iload 5, 77, 0, 0, 0)), (77, (.ireturn, 78, 0, 0, 0))]
noncomputable def t_X7_leastBelow : List (Nat × mv_I) := [(0, (.iload_n 3, 1, 0, 0, 0)), (1, (.iconst 1, 2, 0, 0, 0)), (2, (.if_icmp .lt 9, 5, 11, 0, 0)), (5, (.iload_n 3, 6, 0, 0, 0)), (6, (.aload_n 0, 7, 0, 0, 0)), (7, (.arraylength, 8, 0, 0, 0)), (8, (.if_icmp .le 11, 11, 19, 0, 0)), (11, (.iload 4, 13, 0, 0, 0)), (13, (.iload 5, 15, 0, 0, 0)), (15, (.invokestatic 35, 18, 900, 2, 655)), (18, (.ireturn, 19, 0, 0, 0)), (19, (.aload_n 0, 20, 0, 0, 0)), (20, (.iload_n 3, 21, 0, 0, 0)), (21, (.iconst 1, 22, 0, 0, 0)), (22, (.isub, 23, 0, 0, 0)), (23, (.aaload, 24, 0, 0, 0)), (24, (.astore 6, 26, 0, 0, 0)), (26, (.iload 5, 28, 0, 0, 0)), (28, (.istore 7, 30, 0, 0, 0)), (30, (.iconst 0, 31, 0, 0, 0)), (31, (.istore 8, 33, 0, 0, 0)), (33, (.iload 8, 35, 0, 0, 0)), (35, (.iconst 5, 36, 0, 0, 0)), (36, (.if_icmp .gt 51, 39, 87, 0, 0)), (39, (.aload 6, 41, 0, 0, 0)), (41, (.aload_n 1, 42, 0, 0, 0)), (42, (.iload_n 2, 43, 0, 0, 0)), (43, (.iload 8, 45, 0, 0, 0)), (45, (.invokevirtual 27, 48, k_X2_copyWithOpening, 4, 649)), (48, (.iload 4, 50, 0, 0, 0)), (50, (.aload 6, 52, 0, 0, 0)), (52, (.invokevirtual 31, 55, k_X2_passStep, 1, 654)), (55, (.iadd, 56, 0, 0, 0)), (56, (.istore 9, 58, 0, 0, 0)), (58, (.iload 9, 60, 0, 0, 0)), (60, (.iload 7, 62, 0, 0, 0)), (62, (.if_icmp .ge 19, 65, 81, 0, 0)), (65, (.aload_n 0, 66, 0, 0, 0)), (66, (.aload 6, 68, 0, 0, 0)), (68, (.iload_n 2, 69, 0, 0, 0)), (69, (.iload_n 3, 70, 0, 0, 0)), (70, (.iconst 1, 71, 0, 0, 0)), (71, (.isub, 72, 0, 0, 0)), (72, (.iload 9, 74, 0, 0, 0)), (74, (.iload 7, 76, 0, 0, 0)), (76, (.invokestatic 23, 79, k_X7_leastBelow, 6, 666)), (79, (.istore 7, 81, 0, 0, 0)), (81, (.iinc 8 1, 84, 0, 0, 0)), (84, (.goto (-51), 87, 33, 0, 0)), (87, (.iload 7, 89, 0, 0, 0)), (89, (.ireturn, 90, 0, 0, 0))]
noncomputable def t_X8_init : List (Nat × mv_I) := [(0, (.aload_n 0, 1, 0, 0, 0)), (1, (.invokespecial 3, 4, 905, 1, 247)), (4, (.aload_n 0, 5, 0, 0, 0)), (5, (.bipush 60, 7, 0, 0, 0)), (7, (.newarray .char, 9, 21, 0, 0)), (9, (.putfield 9, 12, 5, 0, 250)), (12, (.aload_n 0, 13, 0, 0, 0)), (13, (.iconst 0, 14, 0, 0, 0)), (14, (.putfield 15, 17, 5, 1, 251)), (17, (.aload_n 0, 18, 0, 0, 0)), (18, (.iconst 0, 19, 0, 0, 0)), (19, (.putfield 19, 22, 5, 2, 252)), (22, (.aload_n 0, 23, 0, 0, 0)), (23, (.getstatic 22, 26, 1005, 0, 248)), (26, (.putfield 28, 29, 5, 3, 253)), (29, (.aload_n 0, 30, 0, 0, 0)), (30, (.iconst 3, 31, 0, 0, 0)), (31, (.newarray .int, 33, 20, 0, 0)), (33, (.putfield 31, 36, 5, 4, 254)), (36, (.aload_n 0, 37, 0, 0, 0)), (37, (.iconst 0, 38, 0, 0, 0)), (38, (.putfield 35, 41, 5, 5, 255)), (41, (.return_, 42, 0, 0, 0))]
noncomputable def t_X9_init : List (Nat × mv_I) := [(0, (.aload_n 0, 1, 0, 0, 0)), (1, (.invokespecial 3, 4, 905, 1, 227)), (4, (.aload_n 0, 5, 0, 0, 0)), (5, (.iconst 5, 6, 0, 0, 0)), (6, (.newarray .int, 8, 20, 0, 0)), (8, (.putfield 9, 11, 6, 0, 228)), (11, (.aload_n 0, 12, 0, 0, 0)), (12, (.iconst 5, 13, 0, 0, 0)), (13, (.newarray .int, 15, 20, 0, 0)), (15, (.putfield 15, 18, 6, 1, 229)), (18, (.aload_n 0, 19, 0, 0, 0)), (19, (.iconst 0, 20, 0, 0, 0)), (20, (.putfield 18, 23, 6, 2, 230)), (23, (.aload_n 0, 24, 0, 0, 0)), (24, (.bipush 100, 26, 0, 0, 0)), (26, (.newarray .int, 28, 20, 0, 0)), (28, (.putfield 22, 31, 6, 3, 232)), (31, (.return_, 32, 0, 0, 0))]
noncomputable def t_X9_include : List (Nat × mv_I) := [(0, (.aload_n 0, 1, 0, 0, 0)), (1, (.getfield 18, 4, 6, 2, 230)), (4, (.iconst 5, 5, 0, 0, 0)), (5, (.if_icmp .ge 33, 8, 38, 0, 0)), (8, (.aload_n 0, 9, 0, 0, 0)), (9, (.getfield 9, 12, 6, 0, 228)), (12, (.aload_n 0, 13, 0, 0, 0)), (13, (.getfield 18, 16, 6, 2, 230)), (16, (.iload_n 1, 17, 0, 0, 0)), (17, (.iastore, 18, 0, 0, 0)), (18, (.aload_n 0, 19, 0, 0, 0)), (19, (.getfield 15, 22, 6, 1, 229)), (22, (.aload_n 0, 23, 0, 0, 0)), (23, (.getfield 18, 26, 6, 2, 230)), (26, (.iload_n 2, 27, 0, 0, 0)), (27, (.iastore, 28, 0, 0, 0)), (28, (.aload_n 0, 29, 0, 0, 0)), (29, (.dup, 30, 0, 0, 0)), (30, (.getfield 18, 33, 6, 2, 230)), (33, (.iconst 1, 34, 0, 0, 0)), (34, (.iadd, 35, 0, 0, 0)), (35, (.putfield 18, 38, 6, 2, 230)), (38, (.return_, 39, 0, 0, 0))]
noncomputable def t_X9_sumOfBags : List (Nat × mv_I) := [(0, (.iconst 0, 1, 0, 0, 0)), (1, (.istore_n 1, 2, 0, 0, 0)), (2, (.iconst 0, 3, 0, 0, 0)), (3, (.istore_n 2, 4, 0, 0, 0)), (4, (.iload_n 2, 5, 0, 0, 0)), (5, (.aload_n 0, 6, 0, 0, 0)), (6, (.getfield 18, 9, 6, 2, 230)), (9, (.if_icmp .ge 18, 12, 27, 0, 0)), (12, (.iload_n 1, 13, 0, 0, 0)), (13, (.aload_n 0, 14, 0, 0, 0)), (14, (.getfield 9, 17, 6, 0, 228)), (17, (.iload_n 2, 18, 0, 0, 0)), (18, (.iaload, 19, 0, 0, 0)), (19, (.iadd, 20, 0, 0, 0)), (20, (.istore_n 1, 21, 0, 0, 0)), (21, (.iinc 2 1, 24, 0, 0, 0)), (24, (.goto (-20), 27, 4, 0, 0)), (27, (.iload_n 1, 28, 0, 0, 0)), (28, (.ireturn, 29, 0, 0, 0))]
noncomputable def t_X9_bestByTable : List (Nat × mv_I) := [(0, (.iconst 0, 1, 0, 0, 0)), (1, (.istore_n 2, 2, 0, 0, 0)), (2, (.iload_n 2, 3, 0, 0, 0)), (3, (.aload_n 0, 4, 0, 0, 0)), (4, (.getfield 22, 7, 6, 3, 232)), (7, (.arraylength, 8, 0, 0, 0)), (8, (.if_icmp .ge 16, 11, 24, 0, 0)), (11, (.aload_n 0, 12, 0, 0, 0)), (12, (.getfield 22, 15, 6, 3, 232)), (15, (.iload_n 2, 16, 0, 0, 0)), (16, (.iconst 0, 17, 0, 0, 0)), (17, (.iastore, 18, 0, 0, 0)), (18, (.iinc 2 1, 21, 0, 0, 0)), (21, (.goto (-19), 24, 2, 0, 0)), (24, (.iconst 0, 25, 0, 0, 0)), (25, (.istore_n 2, 26, 0, 0, 0)), (26, (.iload_n 2, 27, 0, 0, 0)), (27, (.aload_n 0, 28, 0, 0, 0)), (28, (.getfield 18, 31, 6, 2, 230)), (31, (.if_icmp .ge 25, 34, 56, 0, 0)), (34, (.aload_n 0, 35, 0, 0, 0)), (35, (.aload_n 0, 36, 0, 0, 0)), (36, (.getfield 9, 39, 6, 0, 228)), (39, (.iload_n 2, 40, 0, 0, 0)), (40, (.iaload, 41, 0, 0, 0)), (41, (.aload_n 0, 42, 0, 0, 0)), (42, (.getfield 15, 45, 6, 1, 229)), (45, (.iload_n 2, 46, 0, 0, 0)), (46, (.iaload, 47, 0, 0, 0)), (47, (.invokevirtual 25, 50, k_X9_improveTable, 3, 698)), (50, (.iinc 2 1, 53, 0, 0, 0)), (53, (.goto (-27), 56, 26, 0, 0)), (56, (.iload_n 1, 57, 0, 0, 0)), (57, (.ifCond .lt 21, 60, 78, 0, 0)), (60, (.iload_n 1, 61, 0, 0, 0)), (61, (.aload_n 0, 62, 0, 0, 0)), (62, (.getfield 22, 65, 6, 3, 232)), (65, (.arraylength, 66, 0, 0, 0)), (66, (.if_icmp .ge 12, 69, 78, 0, 0)), (69, (.aload_n 0, 70, 0, 0, 0)), (70, (.getfield 22, 73, 6, 3, 232)), (73, (.iload_n 1, 74, 0, 0, 0)), (74, (.iaload, 75, 0, 0, 0)), (75, (.goto 4, 78, 79, 0, 0)), (78, (.iconst 0, 79, 0, 0, 0)), (79, (.ireturn, 80, 0, 0, 0))]
noncomputable def t_X9_improveTable : List (Nat × mv_I) := [(0, (.aload_n 0, 1, 0, 0, 0)), (1, (.getfield 22, 4, 6, 3, 232)), (4, (.arraylength, 5, 0, 0, 0)), (5, (.iconst 1, 6, 0, 0, 0)), (6, (.isub, 7, 0, 0, 0)), (7, (.istore_n 3, 8, 0, 0, 0)), (8, (.iload_n 3, 9, 0, 0, 0)), (9, (.iload_n 1, 10, 0, 0, 0)), (10, (.if_icmp .lt 34, 13, 44, 0, 0)), (13, (.aload_n 0, 14, 0, 0, 0)), (14, (.getfield 22, 17, 6, 3, 232)), (17, (.iload_n 3, 18, 0, 0, 0)), (18, (.aload_n 0, 19, 0, 0, 0)), (19, (.getfield 22, 22, 6, 3, 232)), (22, (.iload_n 3, 23, 0, 0, 0)), (23, (.iaload, 24, 0, 0, 0)), (24, (.aload_n 0, 25, 0, 0, 0)), (25, (.getfield 22, 28, 6, 3, 232)), (28, (.iload_n 3, 29, 0, 0, 0)), (29, (.iload_n 1, 30, 0, 0, 0)), (30, (.isub, 31, 0, 0, 0)), (31, (.iaload, 32, 0, 0, 0)), (32, (.iload_n 2, 33, 0, 0, 0)), (33, (.iadd, 34, 0, 0, 0)), (34, (.invokestatic 29, 37, 901, 2, 702)), (37, (.iastore, 38, 0, 0, 0)), (38, (.iinc 3 (-1), 41, 0, 0, 0)), (41, (.goto (-33), 44, 8, 0, 0)), (44, (.return_, 45, 0, 0, 0))]
noncomputable def t_X9_bestBySets : List (Nat × mv_I) := [(0, (.iconst 0, 1, 0, 0, 0)), (1, (.istore_n 2, 2, 0, 0, 0)), (2, (.iconst 0, 3, 0, 0, 0)), (3, (.istore_n 3, 4, 0, 0, 0)), (4, (.iload_n 3, 5, 0, 0, 0)), (5, (.iconst 1, 6, 0, 0, 0)), (6, (.aload_n 0, 7, 0, 0, 0)), (7, (.getfield 18, 10, 6, 2, 230)), (10, (.ishl, 11, 0, 0, 0)), (11, (.if_icmp .ge 28, 14, 39, 0, 0)), (14, (.aload_n 0, 15, 0, 0, 0)), (15, (.iload_n 3, 16, 0, 0, 0)), (16, (.invokevirtual 35, 19, k_X9_bagsOfSet, 2, 713)), (19, (.iload_n 1, 20, 0, 0, 0)), (20, (.if_icmp .gt 13, 23, 33, 0, 0)), (23, (.iload_n 2, 24, 0, 0, 0)), (24, (.aload_n 0, 25, 0, 0, 0)), (25, (.iload_n 3, 26, 0, 0, 0)), (26, (.invokevirtual 39, 29, k_X9_valueOfSet, 2, 717)), (29, (.invokestatic 29, 32, 901, 2, 702)), (32, (.istore_n 2, 33, 0, 0, 0)), (33, (.iinc 3 1, 36, 0, 0, 0)), (36, (.goto (-32), 39, 4, 0, 0)), (39, (.iload_n 2, 40, 0, 0, 0)), (40, (.ireturn, 41, 0, 0, 0))]
noncomputable def t_X9_bagsOfSet : List (Nat × mv_I) := [(0, (.iconst 0, 1, 0, 0, 0)), (1, (.istore_n 2, 2, 0, 0, 0)), (2, (.iconst 0, 3, 0, 0, 0)), (3, (.istore_n 3, 4, 0, 0, 0)), (4, (.iload_n 3, 5, 0, 0, 0)), (5, (.aload_n 0, 6, 0, 0, 0)), (6, (.getfield 18, 9, 6, 2, 230)), (9, (.if_icmp .ge 27, 12, 36, 0, 0)), (12, (.iload_n 1, 13, 0, 0, 0)), (13, (.iload_n 3, 14, 0, 0, 0)), (14, (.ishr, 15, 0, 0, 0)), (15, (.iconst 1, 16, 0, 0, 0)), (16, (.iand, 17, 0, 0, 0)), (17, (.iconst 1, 18, 0, 0, 0)), (18, (.if_icmp .ne 12, 21, 30, 0, 0)), (21, (.iload_n 2, 22, 0, 0, 0)), (22, (.aload_n 0, 23, 0, 0, 0)), (23, (.getfield 9, 26, 6, 0, 228)), (26, (.iload_n 3, 27, 0, 0, 0)), (27, (.iaload, 28, 0, 0, 0)), (28, (.iadd, 29, 0, 0, 0)), (29, (.istore_n 2, 30, 0, 0, 0)), (30, (.iinc 3 1, 33, 0, 0, 0)), (33, (.goto (-29), 36, 4, 0, 0)), (36, (.iload_n 2, 37, 0, 0, 0)), (37, (.ireturn, 38, 0, 0, 0))]
noncomputable def t_X9_valueOfSet : List (Nat × mv_I) := [(0, (.iconst 0, 1, 0, 0, 0)), (1, (.istore_n 2, 2, 0, 0, 0)), (2, (.iconst 0, 3, 0, 0, 0)), (3, (.istore_n 3, 4, 0, 0, 0)), (4, (.iload_n 3, 5, 0, 0, 0)), (5, (.aload_n 0, 6, 0, 0, 0)), (6, (.getfield 18, 9, 6, 2, 230)), (9, (.if_icmp .ge 27, 12, 36, 0, 0)), (12, (.iload_n 1, 13, 0, 0, 0)), (13, (.iload_n 3, 14, 0, 0, 0)), (14, (.ishr, 15, 0, 0, 0)), (15, (.iconst 1, 16, 0, 0, 0)), (16, (.iand, 17, 0, 0, 0)), (17, (.iconst 1, 18, 0, 0, 0)), (18, (.if_icmp .ne 12, 21, 30, 0, 0)), (21, (.iload_n 2, 22, 0, 0, 0)), (22, (.aload_n 0, 23, 0, 0, 0)), (23, (.getfield 15, 26, 6, 1, 229)), (26, (.iload_n 3, 27, 0, 0, 0)), (27, (.iaload, 28, 0, 0, 0)), (28, (.iadd, 29, 0, 0, 0)), (29, (.istore_n 2, 30, 0, 0, 0)), (30, (.iinc 3 1, 33, 0, 0, 0)), (33, (.goto (-29), 36, 4, 0, 0)), (36, (.iload_n 2, 37, 0, 0, 0)), (37, (.ireturn, 38, 0, 0, 0))]
noncomputable def t_X10_init : List (Nat × mv_I) := [(0, (.aload_n 0, 1, 0, 0, 0)), (1, (.invokespecial 1, 4, 905, 1, 99)), (4, (.aload_n 0, 5, 0, 0, 0)), (5, (.new 7, 8, 1, 0, 102)), (8, (.dup, 9, 0, 0, 0)), (9, (.invokespecial 9, 12, k_X2_init, 1, 104)), (12, (.putfield 10, 15, 7, 0, 285)), (15, (.aload_n 0, 16, 0, 0, 0)), (16, (.new 7, 19, 1, 0, 102)), (19, (.dup, 20, 0, 0, 0)), (20, (.invokespecial 9, 23, k_X2_init, 1, 104)), (23, (.putfield 16, 26, 7, 1, 286)), (26, (.aload_n 0, 27, 0, 0, 0)), (27, (.new 7, 30, 1, 0, 102)), (30, (.dup, 31, 0, 0, 0)), (31, (.invokespecial 9, 34, k_X2_init, 1, 104)), (34, (.putfield 19, 37, 7, 2, 287)), (37, (.aload_n 0, 38, 0, 0, 0)), (38, (.new 7, 41, 1, 0, 102)), (41, (.dup, 42, 0, 0, 0)), (42, (.invokespecial 9, 45, k_X2_init, 1, 104)), (45, (.putfield 22, 48, 7, 3, 288)), (48, (.aload_n 0, 49, 0, 0, 0)), (49, (.new 25, 52, 2, 0, 191)), (52, (.dup, 53, 0, 0, 0)), (53, (.invokespecial 27, 56, k_X5_init, 1, 193)), (56, (.putfield 28, 59, 7, 4, 289)), (59, (.aload_n 0, 60, 0, 0, 0)), (60, (.new 32, 63, 4, 0, 210)), (63, (.dup, 64, 0, 0, 0)), (64, (.invokespecial 34, 67, k_X7_init, 1, 212)), (67, (.putfield 35, 70, 7, 5, 290)), (70, (.aload_n 0, 71, 0, 0, 0)), (71, (.new 39, 74, 6, 0, 222)), (74, (.dup, 75, 0, 0, 0)), (75, (.invokespecial 41, 78, k_X9_init, 1, 224)), (78, (.putfield 42, 81, 7, 6, 291)), (81, (.aload_n 0, 82, 0, 0, 0)), (82, (.new 46, 85, 5, 0, 242)), (85, (.dup, 86, 0, 0, 0)), (86, (.invokespecial 48, 89, k_X8_init, 1, 244)), (89, (.putfield 49, 92, 7, 7, 292)), (92, (.aload_n 0, 93, 0, 0, 0)), (93, (.new 53, 96, 3, 0, 270)), (96, (.dup, 97, 0, 0, 0)), (97, (.invokespecial 55, 100, k_X6_init, 1, 272)), (100, (.putfield 56, 103, 7, 8, 293)), (103, (.aload_n 0, 104, 0, 0, 0)), (104, (.iconst 0, 105, 0, 0, 0)), (105, (.putfield 60, 108, 7, 9, 294)), (108, (.aload_n 0, 109, 0, 0, 0)), (109, (.iconst (-1), 110, 0, 0, 0)), (110, (.putfield 64, 113, 7, 10, 295)), (113, (.aload_n 0, 114, 0, 0, 0)), (114, (.iconst (-1), 115, 0, 0, 0)), (115, (.putfield 68, 118, 7, 11, 296)), (118, (.return_, 119, 0, 0, 0))]
noncomputable def t_X10_addBasin : List (Nat × mv_I) := [(0, (.aload_n 0, 1, 0, 0, 0)), (1, (.getstatic 71, 4, 1000, 0, 832)), (4, (.iload_n 1, 5, 0, 0, 0)), (5, (.iload_n 2, 6, 0, 0, 0)), (6, (.iload_n 3, 7, 0, 0, 0)), (7, (.invokevirtual 77, 10, k_X10_change, 5, 834)), (10, (.ireturn, 11, 0, 0, 0))]
noncomputable def t_X10_setGate : List (Nat × mv_I) := [(0, (.aload_n 0, 1, 0, 0, 0)), (1, (.getstatic 81, 4, 1001, 0, 941)), (4, (.iload_n 1, 5, 0, 0, 0)), (5, (.iload_n 2, 6, 0, 0, 0)), (6, (.iconst 0, 7, 0, 0, 0)), (7, (.invokevirtual 77, 10, k_X10_change, 5, 834)), (10, (.ireturn, 11, 0, 0, 0))]
noncomputable def t_X10_setAutomatic : List (Nat × mv_I) := [(0, (.aload_n 0, 1, 0, 0, 0)), (1, (.getstatic 84, 4, 1002, 0, 950)), (4, (.iload_n 1, 5, 0, 0, 0)), (5, (.iload_n 2, 6, 0, 0, 0)), (6, (.iconst 0, 7, 0, 0, 0)), (7, (.invokevirtual 77, 10, k_X10_change, 5, 834)), (10, (.ireturn, 11, 0, 0, 0))]
noncomputable def t_X10_setManual : List (Nat × mv_I) := [(0, (.aload_n 0, 1, 0, 0, 0)), (1, (.getstatic 87, 4, 1003, 0, 959)), (4, (.iload_n 1, 5, 0, 0, 0)), (5, (.iconst 0, 6, 0, 0, 0)), (6, (.iconst 0, 7, 0, 0, 0)), (7, (.invokevirtual 77, 10, k_X10_change, 5, 834)), (10, (.ireturn, 11, 0, 0, 0))]
noncomputable def t_X10_addRain : List (Nat × mv_I) := [(0, (.aload_n 0, 1, 0, 0, 0)), (1, (.getstatic 90, 4, 1004, 0, 929)), (4, (.iload_n 1, 5, 0, 0, 0)), (5, (.iconst 0, 6, 0, 0, 0)), (6, (.iconst 0, 7, 0, 0, 0)), (7, (.invokevirtual 77, 10, k_X10_change, 5, 834)), (10, (.ireturn, 11, 0, 0, 0))]
noncomputable def t_X10_clearForecast : List (Nat × mv_I) := [(0, (.aload_n 0, 1, 0, 0, 0)), (1, (.getstatic 93, 4, 1005, 0, 965)), (4, (.iconst 0, 5, 0, 0, 0)), (5, (.iconst 0, 6, 0, 0, 0)), (6, (.iconst 0, 7, 0, 0, 0)), (7, (.invokevirtual 77, 10, k_X10_change, 5, 834)), (10, (.ireturn, 11, 0, 0, 0))]
noncomputable def t_X10_pour : List (Nat × mv_I) := [(0, (.aload_n 0, 1, 0, 0, 0)), (1, (.getstatic 96, 4, 1006, 0, 973)), (4, (.iload_n 1, 5, 0, 0, 0)), (5, (.iload_n 2, 6, 0, 0, 0)), (6, (.iconst 0, 7, 0, 0, 0)), (7, (.invokevirtual 77, 10, k_X10_change, 5, 834)), (10, (.ireturn, 11, 0, 0, 0))]
noncomputable def t_X10_advance : List (Nat × mv_I) := [(0, (.aload_n 0, 1, 0, 0, 0)), (1, (.getstatic 99, 4, 1007, 0, 982)), (4, (.iload_n 1, 5, 0, 0, 0)), (5, (.iconst 0, 6, 0, 0, 0)), (6, (.iconst 0, 7, 0, 0, 0)), (7, (.invokevirtual 77, 10, k_X10_change, 5, 834)), (10, (.ireturn, 11, 0, 0, 0))]
noncomputable def t_X10_change : List (Nat × mv_I) := [(0, (.aload_n 0, 1, 0, 0, 0)), (1, (.getfield 10, 4, 7, 0, 285)), (4, (.aload_n 1, 5, 0, 0, 0)), (5, (.iload_n 2, 6, 0, 0, 0)), (6, (.iload_n 3, 7, 0, 0, 0)), (7, (.iload 4, 9, 0, 0, 0)), (9, (.invokevirtual 102, 12, k_X2_faultOf, 5, 838)), (12, (.invokestatic 106, 15, k_X10_throwFor, 1, 545)), (15, (.aload_n 0, 16, 0, 0, 0)), (16, (.getfield 28, 19, 7, 4, 289)), (19, (.aload_n 0, 20, 0, 0, 0)), (20, (.getfield 10, 23, 7, 0, 285)), (23, (.invokevirtual 110, 26, k_X5_remember, 2, 871)), (26, (.aload_n 0, 27, 0, 0, 0)), (27, (.getfield 10, 30, 7, 0, 285)), (30, (.aload_n 1, 31, 0, 0, 0)), (31, (.iload_n 2, 32, 0, 0, 0)), (32, (.iload_n 3, 33, 0, 0, 0)), (33, (.iload 4, 35, 0, 0, 0)), (35, (.invokevirtual 114, 38, k_X2_carryOut, 5, 877)), (38, (.ireturn, 39, 0, 0, 0))]
noncomputable def t_X10_basinCount : List (Nat × mv_I) := [(0, (.aload_n 0, 1, 0, 0, 0)), (1, (.getfield 10, 4, 7, 0, 285)), (4, (.getfield 117, 7, 1, 1, 163)), (7, (.ireturn, 8, 0, 0, 0))]
noncomputable def t_X10_capacity : List (Nat × mv_I) := [(0, (.aload_n 0, 1, 0, 0, 0)), (1, (.iload_n 1, 2, 0, 0, 0)), (2, (.invokevirtual 120, 5, k_X10_existingBasin, 2, 330)), (5, (.getfield 124, 8, 0, 0, 117)), (8, (.ireturn, 9, 0, 0, 0))]
noncomputable def t_X10_level : List (Nat × mv_I) := [(0, (.aload_n 0, 1, 0, 0, 0)), (1, (.iload_n 1, 2, 0, 0, 0)), (2, (.invokevirtual 120, 5, k_X10_existingBasin, 2, 330)), (5, (.getfield 129, 8, 0, 3, 124)), (8, (.ireturn, 9, 0, 0, 0))]
noncomputable def t_X10_fieldValue : List (Nat × mv_I) := [(0, (.aload_n 0, 1, 0, 0, 0)), (1, (.iload_n 1, 2, 0, 0, 0)), (2, (.invokevirtual 120, 5, k_X10_existingBasin, 2, 330)), (5, (.getfield 135, 8, 0, 2, 121)), (8, (.ireturn, 9, 0, 0, 0))]
noncomputable def t_X10_opening : List (Nat × mv_I) := [(0, (.aload_n 0, 1, 0, 0, 0)), (1, (.iload_n 1, 2, 0, 0, 0)), (2, (.invokevirtual 120, 5, k_X10_existingBasin, 2, 330)), (5, (.getfield 138, 8, 0, 4, 127)), (8, (.ireturn, 9, 0, 0, 0))]
noncomputable def t_X10_isAutomatic : List (Nat × mv_I) := [(0, (.aload_n 0, 1, 0, 0, 0)), (1, (.iload_n 1, 2, 0, 0, 0)), (2, (.invokevirtual 120, 5, k_X10_existingBasin, 2, 330)), (5, (.getfield 141, 8, 0, 5, 130)), (8, (.ireturn, 9, 1, 0, 0))]
noncomputable def t_X10_threshold : List (Nat × mv_I) := [(0, (.aload_n 0, 1, 0, 0, 0)), (1, (.iload_n 1, 2, 0, 0, 0)), (2, (.invokevirtual 120, 5, k_X10_existingBasin, 2, 330)), (5, (.astore_n 2, 6, 0, 0, 0)), (6, (.aload_n 2, 7, 0, 0, 0)), (7, (.getfield 141, 10, 0, 5, 130)), (10, (.ifCond .ne 13, 13, 23, 0, 0)), (13, (.new 144, 16, 99, 5, 445)), (16, (.dup, 17, 0, 0, 0)), (17, (.ldc 146, 19, 0, 0, 805)), (19, (.invokespecial 148, 22, 999, 2, 455)), (22, (.athrow, 23, 0, 0, 0)), (23, (.aload_n 2, 24, 0, 0, 0)), (24, (.getfield 151, 27, 0, 6, 133)), (27, (.ireturn, 28, 0, 0, 0))]
noncomputable def t_X10_spilled : List (Nat × mv_I) := [(0, (.aload_n 0, 1, 0, 0, 0)), (1, (.iload_n 1, 2, 0, 0, 0)), (2, (.invokevirtual 120, 5, k_X10_existingBasin, 2, 330)), (5, (.getfield 154, 8, 0, 7, 135)), (8, (.ireturn, 9, 0, 0, 0))]
noncomputable def t_X10_floodedSteps : List (Nat × mv_I) := [(0, (.aload_n 0, 1, 0, 0, 0)), (1, (.iload_n 1, 2, 0, 0, 0)), (2, (.invokevirtual 120, 5, k_X10_existingBasin, 2, 330)), (5, (.getfield 157, 8, 0, 8, 138)), (8, (.ireturn, 9, 0, 0, 0))]
noncomputable def t_X10_basinAtRank : List (Nat × mv_I) := [(0, (.iconst 0, 1, 0, 0, 0)), (1, (.istore_n 2, 2, 0, 0, 0)), (2, (.iload_n 2, 3, 0, 0, 0)), (3, (.aload_n 0, 4, 0, 0, 0)), (4, (.getfield 10, 7, 7, 0, 285)), (7, (.getfield 117, 10, 1, 1, 163)), (10, (.if_icmp .ge 23, 13, 33, 0, 0)), (13, (.aload_n 0, 14, 0, 0, 0)), (14, (.getfield 10, 17, 7, 0, 285)), (17, (.iload_n 2, 18, 0, 0, 0)), (18, (.invokevirtual 160, 21, k_X2_rankOf, 2, 437)), (21, (.iload_n 1, 22, 0, 0, 0)), (22, (.if_icmp .ne 5, 25, 27, 0, 0)), (25, (.iload_n 2, 26, 0, 0, 0)), (26, (.ireturn, 27, 0, 0, 0)), (27, (.iinc 2 1, 30, 0, 0, 0)), (30, (.goto (-28), 33, 2, 0, 0)), (33, (.new 144, 36, 99, 5, 445)), (36, (.dup, 37, 0, 0, 0)), (37, (.ldc 164, 39, 0, 0, 454)), (39, (.invokespecial 148, 42, 999, 2, 455)), (42, (.athrow, 43, 0, 0, 0))]
noncomputable def t_X10_time : List (Nat × mv_I) := [(0, (.aload_n 0, 1, 0, 0, 0)), (1, (.getfield 10, 4, 7, 0, 285)), (4, (.getfield 166, 7, 1, 4, 169)), (7, (.ireturn, 8, 0, 0, 0))]
noncomputable def t_X10_forecastLength : List (Nat × mv_I) := [(0, (.aload_n 0, 1, 0, 0, 0)), (1, (.getfield 10, 4, 7, 0, 285)), (4, (.getfield 169, 7, 1, 3, 167)), (7, (.ireturn, 8, 0, 0, 0))]
noncomputable def t_X10_rainAt : List (Nat × mv_I) := [(0, (.iload_n 1, 1, 0, 0, 0)), (1, (.ifCond .lt 14, 4, 15, 0, 0)), (4, (.iload_n 1, 5, 0, 0, 0)), (5, (.aload_n 0, 6, 0, 0, 0)), (6, (.getfield 10, 9, 7, 0, 285)), (9, (.getfield 169, 12, 1, 3, 167)), (12, (.if_icmp .lt 13, 15, 25, 0, 0)), (15, (.new 172, 18, 99, 2, 338)), (18, (.dup, 19, 0, 0, 0)), (19, (.ldc 174, 21, 0, 0, 473)), (21, (.invokespecial 176, 24, 999, 2, 383)), (24, (.athrow, 25, 0, 0, 0)), (25, (.aload_n 0, 26, 0, 0, 0)), (26, (.getfield 10, 29, 7, 0, 285)), (29, (.getfield 177, 32, 1, 2, 165)), (32, (.iload_n 1, 33, 0, 0, 0)), (33, (.iaload, 34, 0, 0, 0)), (34, (.ireturn, 35, 0, 0, 0))]
noncomputable def t_X10_stored : List (Nat × mv_I) := [(0, (.aload_n 0, 1, 0, 0, 0)), (1, (.getfield 10, 4, 7, 0, 285)), (4, (.invokevirtual 181, 7, k_X2_sumOfLevels, 1, 478)), (7, (.ireturn, 8, 0, 0, 0))]
noncomputable def t_X10_storedByAccounts : List (Nat × mv_I) := [(0, (.aload_n 0, 1, 0, 0, 0)), (1, (.getfield 10, 4, 7, 0, 285)), (4, (.invokevirtual 185, 7, k_X2_balanceOfAccounts, 1, 486)), (7, (.ireturn, 8, 0, 0, 0))]
noncomputable def t_X10_riverTotal : List (Nat × mv_I) := [(0, (.aload_n 0, 1, 0, 0, 0)), (1, (.getfield 10, 4, 7, 0, 285)), (4, (.getfield 188, 7, 1, 7, 173)), (7, (.lreturn, 8, 0, 0, 0))]
noncomputable def t_X10_meanFill : List (Nat × mv_I) := [(0, (.aload_n 0, 1, 0, 0, 0)), (1, (.getfield 10, 4, 7, 0, 285)), (4, (.getfield 117, 7, 1, 1, 163)), (7, (.ifCond .ne 13, 10, 20, 0, 0)), (10, (.new 192, 13, 99, 3, 498)), (13, (.dup, 14, 0, 0, 0)), (14, (.ldc 194, 16, 0, 0, 507)), (16, (.invokespecial 196, 19, 999, 2, 508)), (19, (.athrow, 20, 0, 0, 0)), (20, (.dconst 0, 21, 0, 0, 0)), (21, (.dstore_n 1, 22, 0, 0, 0)), (22, (.iconst 0, 23, 0, 0, 0)), (23, (.istore_n 3, 24, 0, 0, 0)), (24, (.iload_n 3, 25, 0, 0, 0)), (25, (.aload_n 0, 26, 0, 0, 0)), (26, (.getfield 10, 29, 7, 0, 285)), (29, (.getfield 117, 32, 1, 1, 163)), (32, (.if_icmp .ge 36, 35, 68, 0, 0)), (35, (.aload_n 0, 36, 0, 0, 0)), (36, (.getfield 10, 39, 7, 0, 285)), (39, (.getfield 197, 42, 1, 0, 161)), (42, (.iload_n 3, 43, 0, 0, 0)), (43, (.aaload, 44, 0, 0, 0)), (44, (.astore 4, 46, 0, 0, 0)), (46, (.dload_n 1, 47, 0, 0, 0)), (47, (.aload 4, 49, 0, 0, 0)), (49, (.getfield 129, 52, 0, 3, 124)), (52, (.i2d, 53, 0, 0, 0)), (53, (.aload 4, 55, 0, 0, 0)), (55, (.getfield 124, 58, 0, 0, 117)), (58, (.i2d, 59, 0, 0, 0)), (59, (.ddiv, 60, 0, 0, 0)), (60, (.dadd, 61, 0, 0, 0)), (61, (.dstore_n 1, 62, 0, 0, 0)), (62, (.iinc 3 1, 65, 0, 0, 0)), (65, (.goto (-41), 68, 24, 0, 0)), (68, (.dload_n 1, 69, 0, 0, 0)), (69, (.aload_n 0, 70, 0, 0, 0)), (70, (.getfield 10, 73, 7, 0, 285)), (73, (.getfield 117, 76, 1, 1, 163)), (76, (.i2d, 77, 0, 0, 0)), (77, (.ddiv, 78, 0, 0, 0)), (78, (.dreturn, 79, 0, 0, 0))]
noncomputable def t_X10_floodShare : List (Nat × mv_I) := [(0, (.aload_n 0, 1, 0, 0, 0)), (1, (.getfield 10, 4, 7, 0, 285)), (4, (.getfield 166, 7, 1, 4, 169)), (7, (.ifCond .ne 13, 10, 20, 0, 0)), (10, (.new 192, 13, 99, 3, 498)), (13, (.dup, 14, 0, 0, 0)), (14, (.ldc 201, 16, 0, 0, 518)), (16, (.invokespecial 196, 19, 999, 2, 508)), (19, (.athrow, 20, 0, 0, 0)), (20, (.aload_n 0, 21, 0, 0, 0)), (21, (.getfield 10, 24, 7, 0, 285)), (24, (.invokevirtual 203, 27, k_X2_sumOfFloodedSteps, 1, 519)), (27, (.i2f, 28, 0, 0, 0)), (28, (.aload_n 0, 29, 0, 0, 0)), (29, (.getfield 10, 32, 7, 0, 285)), (32, (.getfield 166, 35, 1, 4, 169)), (35, (.i2f, 36, 0, 0, 0)), (36, (.fdiv, 37, 0, 0, 0)), (37, (.freturn, 38, 0, 0, 0))]
noncomputable def t_X10_levelAfter : List (Nat × mv_I) := [(0, (.aload_n 0, 1, 0, 0, 0)), (1, (.getfield 10, 4, 7, 0, 285)), (4, (.iload_n 1, 5, 0, 0, 0)), (5, (.iload_n 2, 6, 0, 0, 0)), (6, (.invokevirtual 206, 9, k_X2_faultOfPrediction, 3, 527)), (9, (.invokestatic 106, 12, k_X10_throwFor, 1, 545)), (12, (.aload_n 0, 13, 0, 0, 0)), (13, (.iload_n 2, 14, 0, 0, 0)), (14, (.invokevirtual 210, 17, k_X10_lookAhead, 2, 583)), (17, (.aload_n 0, 18, 0, 0, 0)), (18, (.getfield 22, 21, 7, 3, 288)), (21, (.getfield 197, 24, 1, 0, 161)), (24, (.iload_n 1, 25, 0, 0, 0)), (25, (.aaload, 26, 0, 0, 0)), (26, (.getfield 129, 29, 0, 3, 124)), (29, (.ireturn, 30, 0, 0, 0))]
noncomputable def t_X10_spillOf : List (Nat × mv_I) := [(0, (.aload_n 0, 1, 0, 0, 0)), (1, (.getfield 10, 4, 7, 0, 285)), (4, (.iload_n 1, 5, 0, 0, 0)), (5, (.iload_n 2, 6, 0, 0, 0)), (6, (.invokevirtual 206, 9, k_X2_faultOfPrediction, 3, 527)), (9, (.invokestatic 106, 12, k_X10_throwFor, 1, 545)), (12, (.aload_n 0, 13, 0, 0, 0)), (13, (.iload_n 2, 14, 0, 0, 0)), (14, (.invokevirtual 210, 17, k_X10_lookAhead, 2, 583)), (17, (.aload_n 0, 18, 0, 0, 0)), (18, (.iload_n 1, 19, 0, 0, 0)), (19, (.invokevirtual 214, 22, k_X10_expectedSpill, 2, 627)), (22, (.ireturn, 23, 0, 0, 0))]
noncomputable def t_X10_stepsUntilFlood : List (Nat × mv_I) := [(0, (.aload_n 0, 1, 0, 0, 0)), (1, (.getfield 22, 4, 7, 3, 288)), (4, (.aload_n 0, 5, 0, 0, 0)), (5, (.getfield 10, 8, 7, 0, 285)), (8, (.invokevirtual 217, 11, k_X2_copyFrom, 2, 587)), (11, (.iconst 1, 12, 0, 0, 0)), (12, (.istore_n 1, 13, 0, 0, 0)), (13, (.iload_n 1, 14, 0, 0, 0)), (14, (.bipush 30, 16, 0, 0, 0)), (16, (.if_icmp .gt 21, 19, 37, 0, 0)), (19, (.aload_n 0, 20, 0, 0, 0)), (20, (.getfield 22, 23, 7, 3, 288)), (23, (.invokevirtual 220, 26, k_X2_passStep, 1, 595)), (26, (.ifCond .le 5, 29, 31, 0, 0)), (29, (.iload_n 1, 30, 0, 0, 0)), (30, (.ireturn, 31, 0, 0, 0)), (31, (.iinc 1 1, 34, 0, 0, 0)), (34, (.goto (-21), 37, 13, 0, 0)), (37, (.new 144, 40, 99, 5, 445)), (40, (.dup, 41, 0, 0, 0)), (41, (.ldc 223, 43, 0, 0, 819)), (43, (.invokespecial 148, 46, 999, 2, 455)), (46, (.athrow, 47, 0, 0, 0))]
noncomputable def t_X10_lookAhead : List (Nat × mv_I) := [(0, (.aload_n 0, 1, 0, 0, 0)), (1, (.getfield 22, 4, 7, 3, 288)), (4, (.aload_n 0, 5, 0, 0, 0)), (5, (.getfield 10, 8, 7, 0, 285)), (8, (.invokevirtual 217, 11, k_X2_copyFrom, 2, 587)), (11, (.iconst 0, 12, 0, 0, 0)), (12, (.istore_n 2, 13, 0, 0, 0)), (13, (.iload_n 2, 14, 0, 0, 0)), (14, (.iload_n 1, 15, 0, 0, 0)), (15, (.if_icmp .ge 17, 18, 32, 0, 0)), (18, (.aload_n 0, 19, 0, 0, 0)), (19, (.getfield 22, 22, 7, 3, 288)), (22, (.invokevirtual 220, 25, k_X2_passStep, 1, 595)), (25, (.pop, 26, 0, 0, 0)), (26, (.iinc 2 1, 29, 0, 0, 0)), (29, (.goto (-16), 32, 13, 0, 0)), (32, (.return_, 33, 0, 0, 0))]
noncomputable def t_X10_expectedSpill : List (Nat × mv_I) := [(0, (.aload_n 0, 1, 0, 0, 0)), (1, (.getfield 22, 4, 7, 3, 288)), (4, (.getfield 197, 7, 1, 0, 161)), (7, (.iload_n 1, 8, 0, 0, 0)), (8, (.aaload, 9, 0, 0, 0)), (9, (.getfield 154, 12, 0, 7, 135)), (12, (.aload_n 0, 13, 0, 0, 0)), (13, (.getfield 10, 16, 7, 0, 285)), (16, (.getfield 197, 19, 1, 0, 161)), (19, (.iload_n 1, 20, 0, 0, 0)), (20, (.aaload, 21, 0, 0, 0)), (21, (.getfield 154, 24, 0, 7, 135)), (24, (.isub, 25, 0, 0, 0)), (25, (.ireturn, 26, 0, 0, 0))]
noncomputable def t_X10_leastSpill : List (Nat × mv_I) := [(0, (.aload_n 0, 1, 0, 0, 0)), (1, (.getfield 10, 4, 7, 0, 285)), (4, (.iload_n 1, 5, 0, 0, 0)), (5, (.iload_n 2, 6, 0, 0, 0)), (6, (.invokevirtual 225, 9, k_X2_faultOfPlan, 3, 635)), (9, (.invokestatic 106, 12, k_X10_throwFor, 1, 545)), (12, (.aload_n 0, 13, 0, 0, 0)), (13, (.getfield 35, 16, 7, 5, 290)), (16, (.aload_n 0, 17, 0, 0, 0)), (17, (.getfield 10, 20, 7, 0, 285)), (20, (.iload_n 1, 21, 0, 0, 0)), (21, (.iload_n 2, 22, 0, 0, 0)), (22, (.invokevirtual 228, 25, k_X7_leastOfAll, 4, 641)), (25, (.ireturn, 26, 0, 0, 0))]
noncomputable def t_X10_leastSpillByPruning : List (Nat × mv_I) := [(0, (.aload_n 0, 1, 0, 0, 0)), (1, (.getfield 10, 4, 7, 0, 285)), (4, (.iload_n 1, 5, 0, 0, 0)), (5, (.iload_n 2, 6, 0, 0, 0)), (6, (.invokevirtual 225, 9, k_X2_faultOfPlan, 3, 635)), (9, (.invokestatic 106, 12, k_X10_throwFor, 1, 545)), (12, (.aload_n 0, 13, 0, 0, 0)), (13, (.getfield 35, 16, 7, 5, 290)), (16, (.aload_n 0, 17, 0, 0, 0)), (17, (.getfield 10, 20, 7, 0, 285)), (20, (.iload_n 1, 21, 0, 0, 0)), (21, (.iload_n 2, 22, 0, 0, 0)), (22, (.invokevirtual 232, 25, k_X7_leastByCutting, 4, 662)), (25, (.ireturn, 26, 0, 0, 0))]
noncomputable def t_X10_bestOpening : List (Nat × mv_I) := [(0, (.aload_n 0, 1, 0, 0, 0)), (1, (.getfield 10, 4, 7, 0, 285)), (4, (.iload_n 1, 5, 0, 0, 0)), (5, (.iload_n 2, 6, 0, 0, 0)), (6, (.invokevirtual 225, 9, k_X2_faultOfPlan, 3, 635)), (9, (.invokestatic 106, 12, k_X10_throwFor, 1, 545)), (12, (.aload_n 0, 13, 0, 0, 0)), (13, (.getfield 35, 16, 7, 5, 290)), (16, (.aload_n 0, 17, 0, 0, 0)), (17, (.getfield 10, 20, 7, 0, 285)), (20, (.iload_n 1, 21, 0, 0, 0)), (21, (.iload_n 2, 22, 0, 0, 0)), (22, (.invokevirtual 235, 25, k_X7_lowestFirstOpening, 4, 673)), (25, (.ireturn, 26, 0, 0, 0))]
noncomputable def t_X10_endangered : List (Nat × mv_I) := [(0, (.iload_n 1, 1, 0, 0, 0)), (1, (.iconst 0, 2, 0, 0, 0)), (2, (.bipush 30, 4, 0, 0, 0)), (4, (.invokestatic 238, 7, k_X10_faultOfRange, 3, 681)), (7, (.invokestatic 106, 10, k_X10_throwFor, 1, 545)), (10, (.aload_n 0, 11, 0, 0, 0)), (11, (.iload_n 1, 12, 0, 0, 0)), (12, (.invokevirtual 242, 15, k_X10_gatherEndangered, 2, 682)), (15, (.aload_n 0, 16, 0, 0, 0)), (16, (.getfield 42, 19, 7, 6, 291)), (19, (.getfield 245, 22, 6, 2, 231)), (22, (.ireturn, 23, 0, 0, 0))]
noncomputable def t_X10_bestProtection : List (Nat × mv_I) := [(0, (.iload_n 1, 1, 0, 0, 0)), (1, (.iconst 0, 2, 0, 0, 0)), (2, (.bipush 99, 4, 0, 0, 0)), (4, (.invokestatic 238, 7, k_X10_faultOfRange, 3, 681)), (7, (.invokestatic 106, 10, k_X10_throwFor, 1, 545)), (10, (.iload_n 2, 11, 0, 0, 0)), (11, (.iconst 0, 12, 0, 0, 0)), (12, (.bipush 30, 14, 0, 0, 0)), (14, (.invokestatic 238, 17, k_X10_faultOfRange, 3, 681)), (17, (.invokestatic 106, 20, k_X10_throwFor, 1, 545)), (20, (.aload_n 0, 21, 0, 0, 0)), (21, (.iload_n 2, 22, 0, 0, 0)), (22, (.invokevirtual 242, 25, k_X10_gatherEndangered, 2, 682)), (25, (.aload_n 0, 26, 0, 0, 0)), (26, (.getfield 42, 29, 7, 6, 291)), (29, (.iload_n 1, 30, 0, 0, 0)), (30, (.invokevirtual 248, 33, k_X9_bestByTable, 2, 694)), (33, (.ireturn, 34, 0, 0, 0))]
noncomputable def t_X10_bestProtectionBySets : List (Nat × mv_I) := [(0, (.iload_n 1, 1, 0, 0, 0)), (1, (.iconst 0, 2, 0, 0, 0)), (2, (.bipush 99, 4, 0, 0, 0)), (4, (.invokestatic 238, 7, k_X10_faultOfRange, 3, 681)), (7, (.invokestatic 106, 10, k_X10_throwFor, 1, 545)), (10, (.iload_n 2, 11, 0, 0, 0)), (11, (.iconst 0, 12, 0, 0, 0)), (12, (.bipush 30, 14, 0, 0, 0)), (14, (.invokestatic 238, 17, k_X10_faultOfRange, 3, 681)), (17, (.invokestatic 106, 20, k_X10_throwFor, 1, 545)), (20, (.aload_n 0, 21, 0, 0, 0)), (21, (.iload_n 2, 22, 0, 0, 0)), (22, (.invokevirtual 242, 25, k_X10_gatherEndangered, 2, 682)), (25, (.aload_n 0, 26, 0, 0, 0)), (26, (.getfield 42, 29, 7, 6, 291)), (29, (.iload_n 1, 30, 0, 0, 0)), (30, (.invokevirtual 251, 33, k_X9_bestBySets, 2, 709)), (33, (.ireturn, 34, 0, 0, 0))]
noncomputable def t_X10_bagsForAll : List (Nat × mv_I) := [(0, (.iload_n 1, 1, 0, 0, 0)), (1, (.iconst 0, 2, 0, 0, 0)), (2, (.bipush 30, 4, 0, 0, 0)), (4, (.invokestatic 238, 7, k_X10_faultOfRange, 3, 681)), (7, (.invokestatic 106, 10, k_X10_throwFor, 1, 545)), (10, (.aload_n 0, 11, 0, 0, 0)), (11, (.iload_n 1, 12, 0, 0, 0)), (12, (.invokevirtual 242, 15, k_X10_gatherEndangered, 2, 682)), (15, (.aload_n 0, 16, 0, 0, 0)), (16, (.getfield 42, 19, 7, 6, 291)), (19, (.invokevirtual 254, 22, k_X9_sumOfBags, 1, 725)), (22, (.ireturn, 23, 0, 0, 0))]
noncomputable def t_X10_isConsistent : List (Nat × mv_I) := [(0, (.aload_n 0, 1, 0, 0, 0)), (1, (.getfield 10, 4, 7, 0, 285)), (4, (.invokevirtual 257, 7, k_X2_levelsFit, 1, 733)), (7, (.ifCond .eq 38, 10, 45, 0, 0)), (10, (.aload_n 0, 11, 0, 0, 0)), (11, (.getfield 10, 14, 7, 0, 285)), (14, (.invokevirtual 181, 17, k_X2_sumOfLevels, 1, 478)), (17, (.aload_n 0, 18, 0, 0, 0)), (18, (.getfield 10, 21, 7, 0, 285)), (21, (.invokevirtual 185, 24, k_X2_balanceOfAccounts, 1, 486)), (24, (.if_icmp .ne 21, 27, 45, 0, 0)), (27, (.aload_n 0, 28, 0, 0, 0)), (28, (.invokevirtual 261, 31, k_X10_leastSpillsAgree, 1, 737)), (31, (.ifCond .eq 14, 34, 45, 0, 0)), (34, (.aload_n 0, 35, 0, 0, 0)), (35, (.invokevirtual 264, 38, k_X10_protectionsAgree, 1, 741)), (38, (.ifCond .eq 7, 41, 45, 0, 0)), (41, (.iconst 1, 42, 0, 0, 0)), (42, (.goto 4, 45, 46, 0, 0)), (45, (.iconst 0, 46, 0, 0, 0)), (46, (.ireturn, 47, 1, 0, 0))]
noncomputable def t_X10_gatherEndangered : List (Nat × mv_I) := [(0, (.aload_n 0, 1, 0, 0, 0)), (1, (.iload_n 1, 2, 0, 0, 0)), (2, (.invokevirtual 210, 5, k_X10_lookAhead, 2, 583)), (5, (.aload_n 0, 6, 0, 0, 0)), (6, (.getfield 42, 9, 7, 6, 291)), (9, (.iconst 0, 10, 0, 0, 0)), (10, (.putfield 245, 13, 6, 2, 231)), (13, (.iconst 0, 14, 0, 0, 0)), (14, (.istore_n 2, 15, 0, 0, 0)), (15, (.iload_n 2, 16, 0, 0, 0)), (16, (.aload_n 0, 17, 0, 0, 0)), (17, (.getfield 10, 20, 7, 0, 285)), (20, (.getfield 117, 23, 1, 1, 163)), (23, (.if_icmp .ge 39, 26, 62, 0, 0)), (26, (.aload_n 0, 27, 0, 0, 0)), (27, (.iload_n 2, 28, 0, 0, 0)), (28, (.invokevirtual 214, 31, k_X10_expectedSpill, 2, 627)), (31, (.istore_n 3, 32, 0, 0, 0)), (32, (.iload_n 3, 33, 0, 0, 0)), (33, (.ifCond .le 23, 36, 56, 0, 0)), (36, (.aload_n 0, 37, 0, 0, 0)), (37, (.getfield 42, 40, 7, 6, 291)), (40, (.iload_n 3, 41, 0, 0, 0)), (41, (.aload_n 0, 42, 0, 0, 0)), (42, (.getfield 10, 45, 7, 0, 285)), (45, (.getfield 197, 48, 1, 0, 161)), (48, (.iload_n 2, 49, 0, 0, 0)), (49, (.aaload, 50, 0, 0, 0)), (50, (.getfield 135, 53, 0, 2, 121)), (53, (.invokevirtual 267, 56, k_X9_include, 3, 686)), (56, (.iinc 2 1, 59, 0, 0, 0)), (59, (.goto (-44), 62, 15, 0, 0)), (62, (.return_, 63, 0, 0, 0))]
noncomputable def t_X10_leastSpillsAgree : List (Nat × mv_I) := [(0, (.iconst 0, 1, 0, 0, 0)), (1, (.istore_n 1, 2, 0, 0, 0)), (2, (.iload_n 1, 3, 0, 0, 0)), (3, (.aload_n 0, 4, 0, 0, 0)), (4, (.getfield 10, 7, 7, 0, 285)), (7, (.getfield 117, 10, 1, 1, 163)), (10, (.if_icmp .ge 55, 13, 65, 0, 0)), (13, (.aload_n 0, 14, 0, 0, 0)), (14, (.getfield 10, 17, 7, 0, 285)), (17, (.getfield 197, 20, 1, 0, 161)), (20, (.iload_n 1, 21, 0, 0, 0)), (21, (.aaload, 22, 0, 0, 0)), (22, (.getfield 141, 25, 0, 5, 130)), (25, (.ifCond .ne 34, 28, 59, 0, 0)), (28, (.aload_n 0, 29, 0, 0, 0)), (29, (.getfield 35, 32, 7, 5, 290)), (32, (.aload_n 0, 33, 0, 0, 0)), (33, (.getfield 10, 36, 7, 0, 285)), (36, (.iload_n 1, 37, 0, 0, 0)), (37, (.iconst 2, 38, 0, 0, 0)), (38, (.invokevirtual 228, 41, k_X7_leastOfAll, 4, 641)), (41, (.aload_n 0, 42, 0, 0, 0)), (42, (.getfield 35, 45, 7, 5, 290)), (45, (.aload_n 0, 46, 0, 0, 0)), (46, (.getfield 10, 49, 7, 0, 285)), (49, (.iload_n 1, 50, 0, 0, 0)), (50, (.iconst 2, 51, 0, 0, 0)), (51, (.invokevirtual 232, 54, k_X7_leastByCutting, 4, 662)), (54, (.if_icmp .eq 5, 57, 59, 0, 0)), (57, (.iconst 0, 58, 0, 0, 0)), (58, (.ireturn, 59, 1, 0, 0)), (59, (.iinc 1 1, 62, 0, 0, 0)), (62, (.goto (-60), 65, 2, 0, 0)), (65, (.iconst 1, 66, 0, 0, 0)), (66, (.ireturn, 67, 1, 0, 0))]
noncomputable def t_X10_protectionsAgree : List (Nat × mv_I) := [(0, (.aload_n 0, 1, 0, 0, 0)), (1, (.bipush 6, 3, 0, 0, 0)), (3, (.invokevirtual 242, 6, k_X10_gatherEndangered, 2, 682)), (6, (.aload_n 0, 7, 0, 0, 0)), (7, (.getfield 42, 10, 7, 6, 291)), (10, (.bipush 20, 12, 0, 0, 0)), (12, (.invokevirtual 248, 15, k_X9_bestByTable, 2, 694)), (15, (.aload_n 0, 16, 0, 0, 0)), (16, (.getfield 42, 19, 7, 6, 291)), (19, (.bipush 20, 21, 0, 0, 0)), (21, (.invokevirtual 251, 24, k_X9_bestBySets, 2, 709)), (24, (.if_icmp .ne 7, 27, 31, 0, 0)), (27, (.iconst 1, 28, 0, 0, 0)), (28, (.goto 4, 31, 32, 0, 0)), (31, (.iconst 0, 32, 0, 0, 0)), (32, (.ireturn, 33, 1, 0, 0))]
noncomputable def t_X10_writeChain : List (Nat × mv_I) := [(0, (.aload_n 0, 1, 0, 0, 0)), (1, (.getfield 56, 4, 7, 8, 293)), (4, (.iconst 0, 5, 0, 0, 0)), (5, (.putfield 321, 8, 3, 1, 279)), (8, (.iconst 0, 9, 0, 0, 0)), (9, (.istore_n 1, 10, 0, 0, 0)), (10, (.iload_n 1, 11, 0, 0, 0)), (11, (.aload_n 0, 12, 0, 0, 0)), (12, (.getfield 10, 15, 7, 0, 285)), (15, (.getfield 117, 18, 1, 1, 163)), (18, (.if_icmp .ge 35, 21, 53, 0, 0)), (21, (.iload_n 1, 22, 0, 0, 0)), (22, (.ifCond .le 12, 25, 34, 0, 0)), (25, (.aload_n 0, 26, 0, 0, 0)), (26, (.getfield 56, 29, 7, 8, 293)), (29, (.bipush 32, 31, 0, 0, 0)), (31, (.invokevirtual 322, 34, k_X6_put, 2, 749)), (34, (.aload_n 0, 35, 0, 0, 0)), (35, (.aload_n 0, 36, 0, 0, 0)), (36, (.getfield 10, 39, 7, 0, 285)), (39, (.getfield 197, 42, 1, 0, 161)), (42, (.iload_n 1, 43, 0, 0, 0)), (43, (.aaload, 44, 0, 0, 0)), (44, (.invokevirtual 325, 47, k_X10_writeBasin, 2, 753)), (47, (.iinc 1 1, 50, 0, 0, 0)), (50, (.goto (-40), 53, 10, 0, 0)), (53, (.aload_n 0, 54, 0, 0, 0)), (54, (.getfield 56, 57, 7, 8, 293)), (57, (.getfield 321, 60, 3, 1, 279)), (60, (.ireturn, 61, 0, 0, 0))]
noncomputable def t_X10_writeForecast : List (Nat × mv_I) := [(0, (.aload_n 0, 1, 0, 0, 0)), (1, (.getfield 56, 4, 7, 8, 293)), (4, (.iconst 0, 5, 0, 0, 0)), (5, (.putfield 321, 8, 3, 1, 279)), (8, (.iconst 0, 9, 0, 0, 0)), (9, (.istore_n 1, 10, 0, 0, 0)), (10, (.iload_n 1, 11, 0, 0, 0)), (11, (.aload_n 0, 12, 0, 0, 0)), (12, (.getfield 10, 15, 7, 0, 285)), (15, (.getfield 169, 18, 1, 3, 167)), (18, (.if_icmp .ge 38, 21, 56, 0, 0)), (21, (.iload_n 1, 22, 0, 0, 0)), (22, (.ifCond .le 12, 25, 34, 0, 0)), (25, (.aload_n 0, 26, 0, 0, 0)), (26, (.getfield 56, 29, 7, 8, 293)), (29, (.bipush 44, 31, 0, 0, 0)), (31, (.invokevirtual 322, 34, k_X6_put, 2, 749)), (34, (.aload_n 0, 35, 0, 0, 0)), (35, (.getfield 56, 38, 7, 8, 293)), (38, (.aload_n 0, 39, 0, 0, 0)), (39, (.getfield 10, 42, 7, 0, 285)), (42, (.getfield 177, 45, 1, 2, 165)), (45, (.iload_n 1, 46, 0, 0, 0)), (46, (.iaload, 47, 0, 0, 0)), (47, (.invokevirtual 329, 50, k_X6_putNumber, 2, 757)), (50, (.iinc 1 1, 53, 0, 0, 0)), (53, (.goto (-43), 56, 10, 0, 0)), (56, (.aload_n 0, 57, 0, 0, 0)), (57, (.getfield 56, 60, 7, 8, 293)), (60, (.getfield 321, 63, 3, 1, 279)), (63, (.ireturn, 64, 0, 0, 0))]
noncomputable def t_X10_outputAt : List (Nat × mv_I) := [(0, (.iload_n 1, 1, 0, 0, 0)), (1, (.ifCond .lt 14, 4, 15, 0, 0)), (4, (.iload_n 1, 5, 0, 0, 0)), (5, (.aload_n 0, 6, 0, 0, 0)), (6, (.getfield 56, 9, 7, 8, 293)), (9, (.getfield 321, 12, 3, 1, 279)), (12, (.if_icmp .lt 14, 15, 26, 0, 0)), (15, (.new 172, 18, 99, 2, 338)), (18, (.dup, 19, 0, 0, 0)), (19, (.ldc_w 332, 22, 0, 0, 1001)), (22, (.invokespecial 176, 25, 999, 2, 383)), (25, (.athrow, 26, 0, 0, 0)), (26, (.aload_n 0, 27, 0, 0, 0)), (27, (.getfield 56, 30, 7, 8, 293)), (30, (.getfield 334, 33, 3, 0, 277)), (33, (.iload_n 1, 34, 0, 0, 0)), (34, (.caload, 35, 0, 0, 0)), (35, (.ireturn, 36, 2, 0, 0))]
noncomputable def t_X10_writeBasin : List (Nat × mv_I) := [(0, (.aload_n 0, 1, 0, 0, 0)), (1, (.getfield 56, 4, 7, 8, 293)), (4, (.aload_n 1, 5, 0, 0, 0)), (5, (.getfield 129, 8, 0, 3, 124)), (8, (.invokevirtual 329, 11, k_X6_putNumber, 2, 757)), (11, (.aload_n 0, 12, 0, 0, 0)), (12, (.getfield 56, 15, 7, 8, 293)), (15, (.bipush 47, 17, 0, 0, 0)), (17, (.invokevirtual 322, 20, k_X6_put, 2, 749)), (20, (.aload_n 0, 21, 0, 0, 0)), (21, (.getfield 56, 24, 7, 8, 293)), (24, (.aload_n 1, 25, 0, 0, 0)), (25, (.getfield 124, 28, 0, 0, 117)), (28, (.invokevirtual 329, 31, k_X6_putNumber, 2, 757)), (31, (.aload_n 0, 32, 0, 0, 0)), (32, (.getfield 56, 35, 7, 8, 293)), (35, (.aload_n 1, 36, 0, 0, 0)), (36, (.getfield 141, 39, 0, 5, 130)), (39, (.ifCond .eq 8, 42, 47, 0, 0)), (42, (.bipush 58, 44, 0, 0, 0)), (44, (.goto 5, 47, 49, 0, 0)), (47, (.bipush 124, 49, 0, 0, 0)), (49, (.invokevirtual 322, 52, k_X6_put, 2, 749)), (52, (.aload_n 0, 53, 0, 0, 0)), (53, (.getfield 56, 56, 7, 8, 293)), (56, (.aload_n 1, 57, 0, 0, 0)), (57, (.getfield 138, 60, 0, 4, 127)), (60, (.invokevirtual 329, 63, k_X6_putNumber, 2, 757)), (63, (.aload_n 1, 64, 0, 0, 0)), (64, (.getfield 141, 67, 0, 5, 130)), (67, (.ifCond .eq 23, 70, 90, 0, 0)), (70, (.aload_n 0, 71, 0, 0, 0)), (71, (.getfield 56, 74, 7, 8, 293)), (74, (.bipush 126, 76, 0, 0, 0)), (76, (.invokevirtual 322, 79, k_X6_put, 2, 749)), (79, (.aload_n 0, 80, 0, 0, 0)), (80, (.getfield 56, 83, 7, 8, 293)), (83, (.aload_n 1, 84, 0, 0, 0)), (84, (.getfield 151, 87, 0, 6, 133)), (87, (.invokevirtual 329, 90, k_X6_putNumber, 2, 757)), (90, (.return_, 91, 0, 0, 0))]
noncomputable def t_X10_existingBasin : List (Nat × mv_I) := [(0, (.aload_n 0, 1, 0, 0, 0)), (1, (.getfield 10, 4, 7, 0, 285)), (4, (.iload_n 1, 5, 0, 0, 0)), (5, (.invokevirtual 347, 8, k_X2_hasBasin, 2, 334)), (8, (.ifCond .ne 14, 11, 22, 0, 0)), (11, (.new 172, 14, 99, 2, 338)), (14, (.dup, 15, 0, 0, 0)), (15, (.ldc_w 351, 18, 0, 0, 382)), (18, (.invokespecial 176, 21, 999, 2, 383)), (21, (.athrow, 22, 0, 0, 0)), (22, (.aload_n 0, 23, 0, 0, 0)), (23, (.getfield 10, 26, 7, 0, 285)), (26, (.getfield 197, 29, 1, 0, 161)), (29, (.iload_n 1, 30, 0, 0, 0)), (30, (.aaload, 31, 0, 0, 0)), (31, (.areturn, 32, 0, 0, 0))]
noncomputable def t_X10_faultOfRange : List (Nat × mv_I) := [(0, (.iload_n 0, 1, 0, 0, 0)), (1, (.iload_n 1, 2, 0, 0, 0)), (2, (.if_icmp .lt 8, 5, 10, 0, 0)), (5, (.iload_n 0, 6, 0, 0, 0)), (6, (.iload_n 2, 7, 0, 0, 0)), (7, (.if_icmp .le 9, 10, 16, 0, 0)), (10, (.getstatic 353, 13, 1012, 0, 539)), (13, (.goto 6, 16, 19, 0, 0)), (16, (.getstatic 315, 19, 1010, 0, 541)), (19, (.areturn, 20, 0, 0, 0))]
noncomputable def t_X10_throwFor : List (Nat × mv_I) := [(0, (.aload_n 0, 1, 0, 0, 0)), (1, (.getstatic 356, 4, 1011, 0, 548)), (4, (.if_acmp .ne 14, 7, 18, 0, 0)), (7, (.new 172, 10, 99, 2, 338)), (10, (.dup, 11, 0, 0, 0)), (11, (.ldc_w 351, 14, 0, 0, 382)), (14, (.invokespecial 176, 17, 999, 2, 383)), (17, (.athrow, 18, 0, 0, 0)), (18, (.aload_n 0, 19, 0, 0, 0)), (19, (.getstatic 353, 22, 1012, 0, 539)), (22, (.if_acmp .ne 14, 25, 36, 0, 0)), (25, (.new 289, 28, 99, 0, 549)), (28, (.dup, 29, 0, 0, 0)), (29, (.ldc_w 359, 32, 0, 0, 558)), (32, (.invokespecial 293, 35, 999, 2, 559)), (35, (.athrow, 36, 0, 0, 0)), (36, (.aload_n 0, 37, 0, 0, 0)), (37, (.getstatic 361, 40, 1013, 0, 565)), (40, (.if_acmp .ne 14, 43, 54, 0, 0)), (43, (.new 274, 46, 99, 1, 567)), (46, (.dup, 47, 0, 0, 0)), (47, (.ldc_w 364, 50, 0, 0, 576)), (50, (.invokespecial 278, 53, 999, 2, 577)), (53, (.athrow, 54, 0, 0, 0)), (54, (.return_, 55, 0, 0, 0))]
noncomputable def t_L_cell : List (Nat × mv_I) := [(0, (.iload_n 1, 1, 0, 0, 0)), (1, (.aload_n 0, 2, 0, 0, 0)), (2, (.arraylength, 3, 0, 0, 0)), (3, (.if_icmp .ge 9, 6, 12, 0, 0)), (6, (.aload_n 0, 7, 0, 0, 0)), (7, (.iload_n 1, 8, 0, 0, 0)), (8, (.iaload, 9, 0, 0, 0)), (9, (.goto 11, 12, 20, 0, 0)), (12, (.sipush 7919, 15, 0, 0, 0)), (15, (.iload_n 1, 16, 0, 0, 0)), (16, (.imul, 17, 0, 0, 0)), (17, (.bipush 12, 19, 0, 0, 0)), (19, (.iadd, 20, 0, 0, 0)), (20, (.ireturn, 21, 0, 0, 0))]
noncomputable def t_L_some : List (Nat × mv_I) := [(0, (.aload_n 0, 1, 0, 0, 0)), (1, (.iload_n 1, 2, 0, 0, 0)), (2, (.invokestatic 7, 5, k_L_cell, 2, 773)), (5, (.iconst 3, 6, 0, 0, 0)), (6, (.iushr, 7, 0, 0, 0)), (7, (.iload_n 2, 8, 0, 0, 0)), (8, (.irem, 9, 0, 0, 0)), (9, (.ireturn, 10, 0, 0, 0))]
noncomputable def t_L_addBasin : List (Nat × mv_I) := [(0, (.aload_n 0, 1, 0, 0, 0)), (1, (.iload_n 1, 2, 0, 0, 0)), (2, (.iload_n 2, 3, 0, 0, 0)), (3, (.iload_n 3, 4, 0, 0, 0)), (4, (.invokevirtual 13, 7, k_X10_addBasin, 4, 828)), (7, (.ireturn, 8, 0, 0, 0)), (8, (.astore 4, 10, 0, 0, 0)), (10, (.sipush (-20000), 13, 0, 0, 0)), (13, (.ireturn, 14, 0, 0, 0)), (14, (.astore 4, 16, 0, 0, 0)), (16, (.sipush (-10000), 19, 0, 0, 0)), (19, (.ireturn, 20, 0, 0, 0))]
noncomputable def t_L_setGate : List (Nat × mv_I) := [(0, (.aload_n 0, 1, 0, 0, 0)), (1, (.iload_n 1, 2, 0, 0, 0)), (2, (.iload_n 2, 3, 0, 0, 0)), (3, (.invokevirtual 23, 6, k_X10_setGate, 3, 937)), (6, (.ireturn, 7, 0, 0, 0)), (7, (.astore_n 3, 8, 0, 0, 0)), (8, (.sipush (-25000), 11, 0, 0, 0)), (11, (.ireturn, 12, 0, 0, 0)), (12, (.astore_n 3, 13, 0, 0, 0)), (13, (.sipush (-20000), 16, 0, 0, 0)), (16, (.ireturn, 17, 0, 0, 0)), (17, (.astore_n 3, 18, 0, 0, 0)), (18, (.sipush (-10000), 21, 0, 0, 0)), (21, (.ireturn, 22, 0, 0, 0))]
noncomputable def t_L_setAutomatic : List (Nat × mv_I) := [(0, (.aload_n 0, 1, 0, 0, 0)), (1, (.iload_n 1, 2, 0, 0, 0)), (2, (.iload_n 2, 3, 0, 0, 0)), (3, (.invokevirtual 29, 6, k_X10_setAutomatic, 3, 946)), (6, (.ireturn, 7, 0, 0, 0)), (7, (.astore_n 3, 8, 0, 0, 0)), (8, (.sipush (-25000), 11, 0, 0, 0)), (11, (.ireturn, 12, 0, 0, 0)), (12, (.astore_n 3, 13, 0, 0, 0)), (13, (.sipush (-20000), 16, 0, 0, 0)), (16, (.ireturn, 17, 0, 0, 0))]
noncomputable def t_L_setManual : List (Nat × mv_I) := [(0, (.aload_n 0, 1, 0, 0, 0)), (1, (.iload_n 1, 2, 0, 0, 0)), (2, (.invokevirtual 32, 5, k_X10_setManual, 2, 955)), (5, (.ireturn, 6, 0, 0, 0)), (6, (.astore_n 2, 7, 0, 0, 0)), (7, (.sipush (-25000), 10, 0, 0, 0)), (10, (.ireturn, 11, 0, 0, 0)), (11, (.astore_n 2, 12, 0, 0, 0)), (12, (.sipush (-10000), 15, 0, 0, 0)), (15, (.ireturn, 16, 0, 0, 0))]
noncomputable def t_L_addRain : List (Nat × mv_I) := [(0, (.aload_n 0, 1, 0, 0, 0)), (1, (.iload_n 1, 2, 0, 0, 0)), (2, (.invokevirtual 36, 5, k_X10_addRain, 2, 925)), (5, (.ireturn, 6, 0, 0, 0)), (6, (.astore_n 2, 7, 0, 0, 0)), (7, (.sipush (-20000), 10, 0, 0, 0)), (10, (.ireturn, 11, 0, 0, 0)), (11, (.astore_n 2, 12, 0, 0, 0)), (12, (.sipush (-10000), 15, 0, 0, 0)), (15, (.ireturn, 16, 0, 0, 0))]
noncomputable def t_L_pour : List (Nat × mv_I) := [(0, (.aload_n 0, 1, 0, 0, 0)), (1, (.iload_n 1, 2, 0, 0, 0)), (2, (.iload_n 2, 3, 0, 0, 0)), (3, (.invokevirtual 39, 6, k_X10_pour, 3, 969)), (6, (.ireturn, 7, 0, 0, 0)), (7, (.astore_n 3, 8, 0, 0, 0)), (8, (.sipush (-25000), 11, 0, 0, 0)), (11, (.ireturn, 12, 0, 0, 0)), (12, (.astore_n 3, 13, 0, 0, 0)), (13, (.sipush (-20000), 16, 0, 0, 0)), (16, (.ireturn, 17, 0, 0, 0)), (17, (.astore_n 3, 18, 0, 0, 0)), (18, (.sipush (-10000), 21, 0, 0, 0)), (21, (.ireturn, 22, 0, 0, 0))]
noncomputable def t_L_advance : List (Nat × mv_I) := [(0, (.aload_n 0, 1, 0, 0, 0)), (1, (.iload_n 1, 2, 0, 0, 0)), (2, (.invokevirtual 42, 5, k_X10_advance, 2, 978)), (5, (.ireturn, 6, 0, 0, 0)), (6, (.astore_n 2, 7, 0, 0, 0)), (7, (.sipush (-20000), 10, 0, 0, 0)), (10, (.ireturn, 11, 0, 0, 0))]
noncomputable def t_L_threshold : List (Nat × mv_I) := [(0, (.aload_n 0, 1, 0, 0, 0)), (1, (.iload_n 1, 2, 0, 0, 0)), (2, (.invokevirtual 45, 5, k_X10_threshold, 2, 801)), (5, (.ireturn, 6, 0, 0, 0)), (6, (.astore_n 2, 7, 0, 0, 0)), (7, (.sipush (-25000), 10, 0, 0, 0)), (10, (.ireturn, 11, 0, 0, 0)), (11, (.astore_n 2, 12, 0, 0, 0)), (12, (.sipush (-30000), 15, 0, 0, 0)), (15, (.ireturn, 16, 0, 0, 0))]
noncomputable def t_L_basinAtRank : List (Nat × mv_I) := [(0, (.aload_n 0, 1, 0, 0, 0)), (1, (.iload_n 1, 2, 0, 0, 0)), (2, (.invokevirtual 50, 5, k_X10_basinAtRank, 2, 433)), (5, (.ireturn, 6, 0, 0, 0)), (6, (.astore_n 2, 7, 0, 0, 0)), (7, (.sipush (-30000), 10, 0, 0, 0)), (10, (.ireturn, 11, 0, 0, 0))]
noncomputable def t_L_rainAt : List (Nat × mv_I) := [(0, (.aload_n 0, 1, 0, 0, 0)), (1, (.iload_n 1, 2, 0, 0, 0)), (2, (.invokevirtual 53, 5, k_X10_rainAt, 2, 469)), (5, (.ireturn, 6, 0, 0, 0)), (6, (.astore_n 2, 7, 0, 0, 0)), (7, (.sipush (-25000), 10, 0, 0, 0)), (10, (.ireturn, 11, 0, 0, 0))]
noncomputable def t_L_stepsUntilFlood : List (Nat × mv_I) := [(0, (.aload_n 0, 1, 0, 0, 0)), (1, (.invokevirtual 56, 4, k_X10_stepsUntilFlood, 1, 815)), (4, (.ireturn, 5, 0, 0, 0)), (5, (.astore_n 1, 6, 0, 0, 0)), (6, (.sipush (-30000), 9, 0, 0, 0)), (9, (.ireturn, 10, 0, 0, 0))]
noncomputable def t_L_build : List (Nat × mv_I) := [(0, (.iconst 0, 1, 0, 0, 0)), (1, (.istore_n 3, 2, 0, 0, 0)), (2, (.iload_n 3, 3, 0, 0, 0)), (3, (.iconst 3, 4, 0, 0, 0)), (4, (.if_icmp .ge 42, 7, 46, 0, 0)), (7, (.aload_n 0, 8, 0, 0, 0)), (8, (.bipush 10, 10, 0, 0, 0)), (10, (.aload_n 1, 11, 0, 0, 0)), (11, (.iload_n 3, 12, 0, 0, 0)), (12, (.bipush 40, 14, 0, 0, 0)), (14, (.invokestatic 60, 17, k_L_some, 3, 770)), (17, (.iadd, 18, 0, 0, 0)), (18, (.aload_n 1, 19, 0, 0, 0)), (19, (.iconst 4, 20, 0, 0, 0)), (20, (.iload_n 3, 21, 0, 0, 0)), (21, (.iadd, 22, 0, 0, 0)), (22, (.iconst 4, 23, 0, 0, 0)), (23, (.invokestatic 60, 26, k_L_some, 3, 770)), (26, (.aload_n 1, 27, 0, 0, 0)), (27, (.bipush 8, 29, 0, 0, 0)), (29, (.iload_n 3, 30, 0, 0, 0)), (30, (.iadd, 31, 0, 0, 0)), (31, (.bipush 100, 33, 0, 0, 0)), (33, (.invokestatic 60, 36, k_L_some, 3, 770)), (36, (.invokestatic 64, 39, k_L_addBasin, 4, 823)), (39, (.istore_n 2, 40, 0, 0, 0)), (40, (.iinc 3 1, 43, 0, 0, 0)), (43, (.goto (-41), 46, 2, 0, 0)), (46, (.iconst 0, 47, 0, 0, 0)), (47, (.istore_n 3, 48, 0, 0, 0)), (48, (.iload_n 3, 49, 0, 0, 0)), (49, (.iconst 4, 50, 0, 0, 0)), (50, (.if_icmp .ge 24, 53, 74, 0, 0)), (53, (.aload_n 0, 54, 0, 0, 0)), (54, (.aload_n 1, 55, 0, 0, 0)), (55, (.bipush 12, 57, 0, 0, 0)), (57, (.iload_n 3, 58, 0, 0, 0)), (58, (.iadd, 59, 0, 0, 0)), (59, (.bipush 21, 61, 0, 0, 0)), (61, (.invokestatic 60, 64, k_L_some, 3, 770)), (64, (.invokestatic 67, 67, k_L_addRain, 2, 922)), (67, (.istore_n 2, 68, 0, 0, 0)), (68, (.iinc 3 1, 71, 0, 0, 0)), (71, (.goto (-23), 74, 48, 0, 0)), (74, (.iconst 0, 75, 0, 0, 0)), (75, (.istore_n 3, 76, 0, 0, 0)), (76, (.iload_n 3, 77, 0, 0, 0)), (77, (.bipush 20, 79, 0, 0, 0)), (79, (.if_icmp .ge 20, 82, 99, 0, 0)), (82, (.aload_n 0, 83, 0, 0, 0)), (83, (.aload_n 1, 84, 0, 0, 0)), (84, (.bipush 16, 86, 0, 0, 0)), (86, (.iconst 3, 87, 0, 0, 0)), (87, (.iload_n 3, 88, 0, 0, 0)), (88, (.imul, 89, 0, 0, 0)), (89, (.iadd, 90, 0, 0, 0)), (90, (.invokestatic 70, 93, k_L_acts, 3, 931)), (93, (.iinc 3 1, 96, 0, 0, 0)), (96, (.goto (-20), 99, 76, 0, 0)), (99, (.return_, 100, 0, 0, 0))]
noncomputable def t_L_acts : List (Nat × mv_I) := [(0, (.aload_n 1, 1, 0, 0, 0)), (1, (.iload_n 2, 2, 0, 0, 0)), (2, (.iconst 1, 3, 0, 0, 0)), (3, (.iadd, 4, 0, 0, 0)), (4, (.bipush 60, 6, 0, 0, 0)), (6, (.invokestatic 60, 9, k_L_some, 3, 770)), (9, (.istore_n 3, 10, 0, 0, 0)), (10, (.aload_n 1, 11, 0, 0, 0)), (11, (.iload_n 2, 12, 0, 0, 0)), (12, (.iconst 2, 13, 0, 0, 0)), (13, (.iadd, 14, 0, 0, 0)), (14, (.aload_n 0, 15, 0, 0, 0)), (15, (.invokevirtual 74, 18, k_X10_basinCount, 1, 322)), (18, (.invokestatic 60, 21, k_L_some, 3, 770)), (21, (.istore 4, 23, 0, 0, 0)), (23, (.aload_n 1, 24, 0, 0, 0)), (24, (.iload_n 2, 25, 0, 0, 0)), (25, (.bipush 14, 27, 0, 0, 0)), (27, (.invokestatic 60, 30, k_L_some, 3, 770)), (30, (.tableswitch 184 0 11 #[62, 97, 97, 97, 112, 124, 135, 135, 135, 148, 167, 167], 92, 30, 0, 0)), (92, (.aload_n 0, 93, 0, 0, 0)), (93, (.invokevirtual 74, 96, k_X10_basinCount, 1, 322)), (96, (.iconst 5, 97, 0, 0, 0)), (97, (.if_icmp .ge 24, 100, 121, 0, 0)), (100, (.iload_n 3, 101, 0, 0, 0)), (101, (.iconst 2, 102, 0, 0, 0)), (102, (.irem, 103, 0, 0, 0)), (103, (.ifCond .ne 18, 106, 121, 0, 0)), (106, (.aload_n 0, 107, 0, 0, 0)), (107, (.bipush 10, 109, 0, 0, 0)), (109, (.iload_n 3, 110, 0, 0, 0)), (110, (.iadd, 111, 0, 0, 0)), (111, (.iload_n 3, 112, 0, 0, 0)), (112, (.iconst 4, 113, 0, 0, 0)), (113, (.irem, 114, 0, 0, 0)), (114, (.iload_n 3, 115, 0, 0, 0)), (115, (.invokestatic 64, 118, k_L_addBasin, 4, 823)), (118, (.goto 4, 121, 122, 0, 0)), (121, (.iconst 0, 122, 0, 0, 0)), (122, (.istore 5, 124, 0, 0, 0)), (124, (.goto 101, 127, 225, 0, 0)), (127, (.aload_n 0, 128, 0, 0, 0)), (128, (.iload 4, 130, 0, 0, 0)), (130, (.iload_n 3, 131, 0, 0, 0)), (131, (.bipush 6, 133, 0, 0, 0)), (133, (.irem, 134, 0, 0, 0)), (134, (.invokestatic 77, 137, k_L_setGate, 3, 934)), (137, (.istore 5, 139, 0, 0, 0)), (139, (.goto 86, 142, 225, 0, 0)), (142, (.aload_n 0, 143, 0, 0, 0)), (143, (.iload 4, 145, 0, 0, 0)), (145, (.iload_n 3, 146, 0, 0, 0)), (146, (.invokestatic 80, 149, k_L_setAutomatic, 3, 943)), (149, (.istore 5, 151, 0, 0, 0)), (151, (.goto 74, 154, 225, 0, 0)), (154, (.aload_n 0, 155, 0, 0, 0)), (155, (.iload 4, 157, 0, 0, 0)), (157, (.invokestatic 82, 160, k_L_setManual, 2, 952)), (160, (.istore 5, 162, 0, 0, 0)), (162, (.goto 63, 165, 225, 0, 0)), (165, (.aload_n 0, 166, 0, 0, 0)), (166, (.iload_n 3, 167, 0, 0, 0)), (167, (.bipush 21, 169, 0, 0, 0)), (169, (.irem, 170, 0, 0, 0)), (170, (.invokestatic 67, 173, k_L_addRain, 2, 922)), (173, (.istore 5, 175, 0, 0, 0)), (175, (.goto 50, 178, 225, 0, 0)), (178, (.iload_n 3, 179, 0, 0, 0)), (179, (.iconst 5, 180, 0, 0, 0)), (180, (.irem, 181, 0, 0, 0)), (181, (.ifCond .ne 10, 184, 191, 0, 0)), (184, (.aload_n 0, 185, 0, 0, 0)), (185, (.invokevirtual 84, 188, k_X10_clearForecast, 1, 961)), (188, (.goto 4, 191, 192, 0, 0)), (191, (.iconst 0, 192, 0, 0, 0)), (192, (.istore 5, 194, 0, 0, 0)), (194, (.goto 31, 197, 225, 0, 0)), (197, (.aload_n 0, 198, 0, 0, 0)), (198, (.iload 4, 200, 0, 0, 0)), (200, (.iconst 1, 201, 0, 0, 0)), (201, (.iload_n 3, 202, 0, 0, 0)), (202, (.bipush 40, 204, 0, 0, 0)), (204, (.irem, 205, 0, 0, 0)), (205, (.iadd, 206, 0, 0, 0)), (206, (.invokestatic 87, 209, k_L_pour, 3, 966)), (209, (.istore 5, 211, 0, 0, 0)), (211, (.goto 14, 214, 225, 0, 0)), (214, (.aload_n 0, 215, 0, 0, 0)), (215, (.iconst 1, 216, 0, 0, 0)), (216, (.iload_n 3, 217, 0, 0, 0)), (217, (.iconst 3, 218, 0, 0, 0)), (218, (.irem, 219, 0, 0, 0)), (219, (.iadd, 220, 0, 0, 0)), (220, (.invokestatic 89, 223, k_L_advance, 2, 975)), (223, (.istore 5, 225, 0, 0, 0)), (225, (.return_, 226, 0, 0, 0))]
noncomputable def mv_tb0 : List (List (Nat × mv_I)) := [t_X1_init, t_X1_begin, t_X1_copyFrom, t_X1_moveAutomaticGate, t_X1_letOut, t_X1_spillOver, t_X2_init, t_X2_copyFrom, t_X2_copyWithOpening, t_X2_hasBasin, t_X2_faultOf, t_X2_faultOfNewBasin, t_X2_faultAtBasin, t_X2_faultOfGate, t_X2_faultOfHand, t_X2_faultOfRain, t_X2_faultOfPour, t_X2_faultOfPrediction, t_X2_faultOfPlan, t_X2_carryOut, t_X2_useNextBasin, t_X2_turnGate, t_X2_makeAutomatic, t_X2_makeManual, t_X2_countAutomatic, t_X2_expectRain, t_X2_dropForecast, t_X2_pourInto, t_X2_passSteps, t_X2_passStep, t_X2_takeRain, t_X2_rainDown, t_X2_flowDown, t_X2_rankOf, t_X2_isRankedBefore, t_X2_levelsFit, t_X2_sumOfLevels, t_X2_balanceOfAccounts, t_X2_sumOfFloodedSteps, t_X5_init]
noncomputable def mv_tb1 : List (List (Nat × mv_I)) := [t_X5_remember, t_X6_init, t_X6_put, t_X6_putNumber, t_X6_putDigit, t_X7_init, t_X7_leastOfAll, t_X7_leastByCutting, t_X7_lowestFirstOpening, t_X7_leastFrom, t_X7_leastBelow, t_X8_init, t_X9_init, t_X9_include, t_X9_sumOfBags, t_X9_bestByTable, t_X9_improveTable, t_X9_bestBySets, t_X9_bagsOfSet, t_X9_valueOfSet, t_X10_init, t_X10_addBasin, t_X10_setGate, t_X10_setAutomatic, t_X10_setManual, t_X10_addRain, t_X10_clearForecast, t_X10_pour, t_X10_advance, t_X10_change, t_X10_basinCount, t_X10_capacity, t_X10_level, t_X10_fieldValue, t_X10_opening, t_X10_isAutomatic, t_X10_threshold, t_X10_spilled, t_X10_floodedSteps, t_X10_basinAtRank]
noncomputable def mv_tb2 : List (List (Nat × mv_I)) := [t_X10_time, t_X10_forecastLength, t_X10_rainAt, t_X10_stored, t_X10_storedByAccounts, t_X10_riverTotal, t_X10_meanFill, t_X10_floodShare, t_X10_levelAfter, t_X10_spillOf, t_X10_stepsUntilFlood, t_X10_lookAhead, t_X10_expectedSpill, t_X10_leastSpill, t_X10_leastSpillByPruning, t_X10_bestOpening, t_X10_endangered, t_X10_bestProtection, t_X10_bestProtectionBySets, t_X10_bagsForAll, t_X10_isConsistent, t_X10_gatherEndangered, t_X10_leastSpillsAgree, t_X10_protectionsAgree, t_X10_writeChain, t_X10_writeForecast, t_X10_outputAt, t_X10_writeBasin, t_X10_existingBasin, t_X10_faultOfRange, t_X10_throwFor, t_L_cell, t_L_some, t_L_addBasin, t_L_setGate, t_L_setAutomatic, t_L_setManual, t_L_addRain, t_L_pour, t_L_advance]
noncomputable def mv_tb3 : List (List (Nat × mv_I)) := [t_L_threshold, t_L_basinAtRank, t_L_rainAt, t_L_stepsUntilFlood, t_L_build, t_L_acts]
noncomputable def mv_tbs : List (List (Nat × mv_I)) := mv_tb0 ++ (mv_tb1 ++ (mv_tb2 ++ (mv_tb3)))
noncomputable def mv_tb (M : Nat) : List (Nat × mv_I) := mv_tbs.getD M []
/-- code, name, locals, return, words: code, instance or static, selects, initialized; 1: static, 2: with a table -/
abbrev mv_J : Type := ByteArray × MethodName × Nat × Option FieldType × Nat × Nat × Nat × Nat × Nat
noncomputable def mv_ms0 : List mv_J := [(prog_3_method_1_code, (⟨"SluiceChain$Basin", "<init>", "()V"⟩ : MethodName), 1, none, 113, 112, 0, 63, 0), (prog_3_method_2_code, (⟨"SluiceChain$Basin", "begin", "(III)V"⟩ : MethodName), 4, none, 888, 887, 51, 63, 0), (prog_3_method_3_code, (⟨"SluiceChain$Basin", "copyFrom", "(LSluiceChain$Basin;)V"⟩ : MethodName), 2, none, 594, 593, 12, 63, 0), (prog_3_method_4_code, (⟨"SluiceChain$Basin", "moveAutomaticGate", "()V"⟩ : MethodName), 2, none, 614, 613, 17, 63, 0), (prog_3_method_5_code, (⟨"SluiceChain$Basin", "letOut", "()I"⟩ : MethodName), 3, (some .int), 618, 617, 18, 63, 0), (prog_3_method_6_code, (⟨"SluiceChain$Basin", "spillOver", "()I"⟩ : MethodName), 2, (some .int), 622, 621, 19, 63, 0), (prog_4_method_1_code, (⟨"SluiceChain$Chain", "<init>", "()V"⟩ : MethodName), 2, none, 106, 105, 0, 62, 0), (prog_4_method_2_code, (⟨"SluiceChain$Chain", "copyFrom", "(LSluiceChain$Chain;)V"⟩ : MethodName), 3, none, 590, 589, 11, 62, 0), (prog_4_method_3_code, (⟨"SluiceChain$Chain", "copyWithOpening", "(LSluiceChain$Chain;II)V"⟩ : MethodName), 4, none, 652, 651, 23, 62, 0), (prog_4_method_4_code, (⟨"SluiceChain$Chain", "hasBasin", "(I)Z"⟩ : MethodName), 2, (some .boolean), 337, 336, 1, 62, 0), (prog_4_method_5_code, (⟨"SluiceChain$Chain", "faultOf", "(LSluiceChain$Command;III)LSluiceChain$Fault;"⟩ : MethodName), 5, (some (.object "SluiceChain$Fault")), 841, 840, 42, 62, 0), (prog_4_method_6_code, (⟨"SluiceChain$Chain", "faultOfNewBasin", "(III)LSluiceChain$Fault;"⟩ : MethodName), 4, (some (.object "SluiceChain$Fault")), 853, 852, 43, 62, 0), (prog_4_method_7_code, (⟨"SluiceChain$Chain", "faultAtBasin", "(IIII)LSluiceChain$Fault;"⟩ : MethodName), 5, (some (.object "SluiceChain$Fault")), 534, 533, 9, 62, 0), (prog_4_method_8_code, (⟨"SluiceChain$Chain", "faultOfGate", "(II)LSluiceChain$Fault;"⟩ : MethodName), 4, (some (.object "SluiceChain$Fault")), 858, 857, 44, 62, 0), (prog_4_method_9_code, (⟨"SluiceChain$Chain", "faultOfHand", "(I)LSluiceChain$Fault;"⟩ : MethodName), 2, (some (.object "SluiceChain$Fault")), 862, 861, 45, 62, 0), (prog_4_method_10_code, (⟨"SluiceChain$Chain", "faultOfRain", "(I)LSluiceChain$Fault;"⟩ : MethodName), 2, (some (.object "SluiceChain$Fault")), 866, 865, 46, 62, 0), (prog_4_method_11_code, (⟨"SluiceChain$Chain", "faultOfPour", "(II)LSluiceChain$Fault;"⟩ : MethodName), 5, (some (.object "SluiceChain$Fault")), 870, 869, 47, 62, 0), (prog_4_method_12_code, (⟨"SluiceChain$Chain", "faultOfPrediction", "(II)LSluiceChain$Fault;"⟩ : MethodName), 3, (some (.object "SluiceChain$Fault")), 530, 529, 8, 62, 0), (prog_4_method_13_code, (⟨"SluiceChain$Chain", "faultOfPlan", "(II)LSluiceChain$Fault;"⟩ : MethodName), 4, (some (.object "SluiceChain$Fault")), 638, 637, 21, 62, 0), (prog_4_method_14_code, (⟨"SluiceChain$Chain", "carryOut", "(LSluiceChain$Command;III)I"⟩ : MethodName), 5, (some .int), 880, 879, 49, 62, 0), (prog_4_method_15_code, (⟨"SluiceChain$Chain", "useNextBasin", "(III)I"⟩ : MethodName), 5, (some .int), 884, 883, 50, 62, 0), (prog_4_method_16_code, (⟨"SluiceChain$Chain", "turnGate", "(II)I"⟩ : MethodName), 4, (some .int), 892, 891, 52, 62, 0), (prog_4_method_17_code, (⟨"SluiceChain$Chain", "makeAutomatic", "(II)I"⟩ : MethodName), 3, (some .int), 896, 895, 53, 62, 0), (prog_4_method_18_code, (⟨"SluiceChain$Chain", "makeManual", "(I)I"⟩ : MethodName), 2, (some .int), 904, 903, 55, 62, 0), (prog_4_method_19_code, (⟨"SluiceChain$Chain", "countAutomatic", "()I"⟩ : MethodName), 3, (some .int), 900, 899, 54, 62, 0), (prog_4_method_20_code, (⟨"SluiceChain$Chain", "expectRain", "(I)I"⟩ : MethodName), 2, (some .int), 908, 907, 56, 62, 0), (prog_4_method_21_code, (⟨"SluiceChain$Chain", "dropForecast", "()I"⟩ : MethodName), 3, (some .int), 921, 920, 59, 62, 0), (prog_4_method_22_code, (⟨"SluiceChain$Chain", "pourInto", "(II)I"⟩ : MethodName), 3, (some .int), 912, 911, 57, 62, 0), (prog_4_method_23_code, (⟨"SluiceChain$Chain", "passSteps", "(I)I"⟩ : MethodName), 4, (some .int), 916, 915, 58, 62, 0), (prog_4_method_24_code, (⟨"SluiceChain$Chain", "passStep", "()I"⟩ : MethodName), 3, (some .int), 598, 597, 13, 62, 0), (prog_4_method_25_code, (⟨"SluiceChain$Chain", "takeRain", "()I"⟩ : MethodName), 3, (some .int), 602, 601, 14, 62, 0), (prog_4_method_26_code, (⟨"SluiceChain$Chain", "rainDown", "(I)V"⟩ : MethodName), 4, none, 606, 605, 15, 62, 0), (prog_4_method_27_code, (⟨"SluiceChain$Chain", "flowDown", "()I"⟩ : MethodName), 4, (some .int), 610, 609, 16, 62, 0), (prog_4_method_28_code, (⟨"SluiceChain$Chain", "rankOf", "(I)I"⟩ : MethodName), 4, (some .int), 440, 439, 3, 62, 0), (prog_4_method_29_code, (⟨"SluiceChain$Chain", "isRankedBefore", "(II)Z"⟩ : MethodName), 5, (some .boolean), 444, 443, 4, 62, 0), (prog_4_method_30_code, (⟨"SluiceChain$Chain", "levelsFit", "()Z"⟩ : MethodName), 2, (some .boolean), 736, 735, 34, 62, 0), (prog_4_method_31_code, (⟨"SluiceChain$Chain", "sumOfLevels", "()I"⟩ : MethodName), 3, (some .int), 481, 480, 5, 62, 0), (prog_4_method_32_code, (⟨"SluiceChain$Chain", "balanceOfAccounts", "()I"⟩ : MethodName), 4, (some .int), 489, 488, 6, 62, 0), (prog_4_method_33_code, (⟨"SluiceChain$Chain", "sumOfFloodedSteps", "()I"⟩ : MethodName), 3, (some .int), 522, 521, 7, 62, 0), (prog_7_method_1_code, (⟨"SluiceChain$History", "<init>", "()V"⟩ : MethodName), 2, none, 195, 194, 0, 64, 0)]
noncomputable def mv_ms1 : List mv_J := [(prog_7_method_2_code, (⟨"SluiceChain$History", "remember", "(LSluiceChain$Chain;)V"⟩ : MethodName), 2, none, 874, 873, 48, 64, 0), (prog_8_method_1_code, (⟨"SluiceChain$Line", "<init>", "()V"⟩ : MethodName), 1, none, 274, 273, 0, 70, 0), (prog_8_method_2_code, (⟨"SluiceChain$Line", "put", "(C)V"⟩ : MethodName), 2, none, 752, 751, 37, 70, 0), (prog_8_method_3_code, (⟨"SluiceChain$Line", "putNumber", "(I)V"⟩ : MethodName), 2, none, 760, 759, 39, 70, 0), (prog_8_method_4_code, (⟨"SluiceChain$Line", "putDigit", "(I)V"⟩ : MethodName), 2, none, 764, 763, 40, 70, 0), (prog_9_method_1_code, (⟨"SluiceChain$PlanSearch", "<init>", "()V"⟩ : MethodName), 2, none, 214, 213, 0, 65, 0), (prog_9_method_2_code, (⟨"SluiceChain$PlanSearch", "leastOfAll", "(LSluiceChain$Chain;II)I"⟩ : MethodName), 4, (some .int), 644, 643, 22, 65, 0), (prog_9_method_3_code, (⟨"SluiceChain$PlanSearch", "leastByCutting", "(LSluiceChain$Chain;II)I"⟩ : MethodName), 4, (some .int), 665, 664, 24, 65, 0), (prog_9_method_4_code, (⟨"SluiceChain$PlanSearch", "lowestFirstOpening", "(LSluiceChain$Chain;II)I"⟩ : MethodName), 9, (some .int), 676, 675, 25, 65, 0), (prog_9_method_5_code, (⟨"SluiceChain$PlanSearch", "leastFrom", "([LSluiceChain$Chain;LSluiceChain$Chain;II)I"⟩ : MethodName), 8, (some .int), 647, 646, 0, 65, 1), (prog_9_method_6_code, (⟨"SluiceChain$PlanSearch", "leastBelow", "([LSluiceChain$Chain;LSluiceChain$Chain;IIII)I"⟩ : MethodName), 10, (some .int), 668, 667, 0, 65, 1), (prog_10_method_1_code, (⟨"SluiceChain$Program", "<init>", "()V"⟩ : MethodName), 1, none, 246, 245, 0, 67, 0), (prog_11_method_1_code, (⟨"SluiceChain$Protection", "<init>", "()V"⟩ : MethodName), 1, none, 226, 225, 0, 66, 0), (prog_11_method_2_code, (⟨"SluiceChain$Protection", "include", "(II)V"⟩ : MethodName), 3, none, 689, 688, 27, 66, 0), (prog_11_method_3_code, (⟨"SluiceChain$Protection", "sumOfBags", "()I"⟩ : MethodName), 3, (some .int), 728, 727, 33, 66, 0), (prog_11_method_4_code, (⟨"SluiceChain$Protection", "bestByTable", "(I)I"⟩ : MethodName), 3, (some .int), 697, 696, 28, 66, 0), (prog_11_method_5_code, (⟨"SluiceChain$Protection", "improveTable", "(II)V"⟩ : MethodName), 4, none, 701, 700, 29, 66, 0), (prog_11_method_6_code, (⟨"SluiceChain$Protection", "bestBySets", "(I)I"⟩ : MethodName), 4, (some .int), 712, 711, 30, 66, 0), (prog_11_method_7_code, (⟨"SluiceChain$Protection", "bagsOfSet", "(I)I"⟩ : MethodName), 4, (some .int), 716, 715, 31, 66, 0), (prog_11_method_8_code, (⟨"SluiceChain$Protection", "valueOfSet", "(I)I"⟩ : MethodName), 4, (some .int), 720, 719, 32, 66, 0), (prog_1_method_1_code, (⟨"SluiceChain", "<init>", "()V"⟩ : MethodName), 1, none, 98, 97, 0, 61, 0), (prog_1_method_2_code, (⟨"SluiceChain", "addBasin", "(III)I"⟩ : MethodName), 4, (some .int), 831, 829, 830, 61, 0), (prog_1_method_3_code, (⟨"SluiceChain", "setGate", "(II)I"⟩ : MethodName), 3, (some .int), 940, 938, 939, 61, 0), (prog_1_method_4_code, (⟨"SluiceChain", "setAutomatic", "(II)I"⟩ : MethodName), 3, (some .int), 949, 947, 948, 61, 0), (prog_1_method_5_code, (⟨"SluiceChain", "setManual", "(I)I"⟩ : MethodName), 2, (some .int), 958, 956, 957, 61, 0), (prog_1_method_6_code, (⟨"SluiceChain", "addRain", "(I)I"⟩ : MethodName), 2, (some .int), 928, 926, 927, 61, 0), (prog_1_method_7_code, (⟨"SluiceChain", "clearForecast", "()I"⟩ : MethodName), 1, (some .int), 964, 962, 963, 61, 0), (prog_1_method_8_code, (⟨"SluiceChain", "pour", "(II)I"⟩ : MethodName), 3, (some .int), 972, 970, 971, 61, 0), (prog_1_method_9_code, (⟨"SluiceChain", "advance", "(I)I"⟩ : MethodName), 2, (some .int), 981, 979, 980, 61, 0), (prog_1_method_10_code, (⟨"SluiceChain", "change", "(LSluiceChain$Command;III)I"⟩ : MethodName), 5, (some .int), 837, 836, 41, 61, 0), (prog_1_method_11_code, (⟨"SluiceChain", "basinCount", "()I"⟩ : MethodName), 1, (some .int), 325, 323, 324, 61, 0), (prog_1_method_12_code, (⟨"SluiceChain", "capacity", "(I)I"⟩ : MethodName), 2, (some .int), 329, 327, 328, 61, 0), (prog_1_method_13_code, (⟨"SluiceChain", "level", "(I)I"⟩ : MethodName), 2, (some .int), 412, 410, 411, 61, 0), (prog_1_method_15_code, (⟨"SluiceChain", "fieldValue", "(I)I"⟩ : MethodName), 2, (some .int), 416, 414, 415, 61, 0), (prog_1_method_16_code, (⟨"SluiceChain", "opening", "(I)I"⟩ : MethodName), 2, (some .int), 420, 418, 419, 61, 0), (prog_1_method_17_code, (⟨"SluiceChain", "isAutomatic", "(I)Z"⟩ : MethodName), 2, (some .boolean), 424, 422, 423, 61, 0), (prog_1_method_18_code, (⟨"SluiceChain", "threshold", "(I)I"⟩ : MethodName), 3, (some .int), 804, 802, 803, 61, 0), (prog_1_method_19_code, (⟨"SluiceChain", "spilled", "(I)I"⟩ : MethodName), 2, (some .int), 428, 426, 427, 61, 0), (prog_1_method_20_code, (⟨"SluiceChain", "floodedSteps", "(I)I"⟩ : MethodName), 2, (some .int), 432, 430, 431, 61, 0), (prog_1_method_21_code, (⟨"SluiceChain", "basinAtRank", "(I)I"⟩ : MethodName), 3, (some .int), 436, 434, 435, 61, 0)]
noncomputable def mv_ms2 : List mv_J := [(prog_1_method_22_code, (⟨"SluiceChain", "time", "()I"⟩ : MethodName), 1, (some .int), 464, 462, 463, 61, 0), (prog_1_method_23_code, (⟨"SluiceChain", "forecastLength", "()I"⟩ : MethodName), 1, (some .int), 468, 466, 467, 61, 0), (prog_1_method_24_code, (⟨"SluiceChain", "rainAt", "(I)I"⟩ : MethodName), 2, (some .int), 472, 470, 471, 61, 0), (prog_1_method_25_code, (⟨"SluiceChain", "stored", "()I"⟩ : MethodName), 1, (some .int), 477, 475, 476, 61, 0), (prog_1_method_26_code, (⟨"SluiceChain", "storedByAccounts", "()I"⟩ : MethodName), 1, (some .int), 485, 483, 484, 61, 0), (prog_1_method_27_code, (⟨"SluiceChain", "riverTotal", "()J"⟩ : MethodName), 1, (some .long), 493, 491, 492, 61, 0), (prog_1_method_28_code, (⟨"SluiceChain", "meanFill", "()D"⟩ : MethodName), 5, (some .double), 497, 495, 496, 61, 0), (prog_1_method_29_code, (⟨"SluiceChain", "floodShare", "()F"⟩ : MethodName), 1, (some .float), 517, 515, 516, 61, 0), (prog_1_method_30_code, (⟨"SluiceChain", "levelAfter", "(II)I"⟩ : MethodName), 3, (some .int), 526, 524, 525, 61, 0), (prog_1_method_31_code, (⟨"SluiceChain", "spillOf", "(II)I"⟩ : MethodName), 3, (some .int), 626, 624, 625, 61, 0), (prog_1_method_32_code, (⟨"SluiceChain", "stepsUntilFlood", "()I"⟩ : MethodName), 2, (some .int), 818, 816, 817, 61, 0), (prog_1_method_33_code, (⟨"SluiceChain", "lookAhead", "(I)V"⟩ : MethodName), 3, none, 586, 585, 10, 61, 0), (prog_1_method_34_code, (⟨"SluiceChain", "expectedSpill", "(I)I"⟩ : MethodName), 2, (some .int), 630, 629, 20, 61, 0), (prog_1_method_35_code, (⟨"SluiceChain", "leastSpill", "(II)I"⟩ : MethodName), 3, (some .int), 634, 632, 633, 61, 0), (prog_1_method_36_code, (⟨"SluiceChain", "leastSpillByPruning", "(II)I"⟩ : MethodName), 3, (some .int), 661, 659, 660, 61, 0), (prog_1_method_37_code, (⟨"SluiceChain", "bestOpening", "(II)I"⟩ : MethodName), 3, (some .int), 672, 670, 671, 61, 0), (prog_1_method_38_code, (⟨"SluiceChain", "endangered", "(I)I"⟩ : MethodName), 2, (some .int), 680, 678, 679, 61, 0), (prog_1_method_39_code, (⟨"SluiceChain", "bestProtection", "(II)I"⟩ : MethodName), 3, (some .int), 693, 691, 692, 61, 0), (prog_1_method_40_code, (⟨"SluiceChain", "bestProtectionBySets", "(II)I"⟩ : MethodName), 3, (some .int), 708, 706, 707, 61, 0), (prog_1_method_41_code, (⟨"SluiceChain", "bagsForAll", "(I)I"⟩ : MethodName), 2, (some .int), 724, 722, 723, 61, 0), (prog_1_method_42_code, (⟨"SluiceChain", "isConsistent", "()Z"⟩ : MethodName), 1, (some .boolean), 732, 730, 731, 61, 0), (prog_1_method_43_code, (⟨"SluiceChain", "gatherEndangered", "(I)V"⟩ : MethodName), 4, none, 685, 684, 26, 61, 0), (prog_1_method_44_code, (⟨"SluiceChain", "leastSpillsAgree", "()Z"⟩ : MethodName), 2, (some .boolean), 740, 739, 35, 61, 0), (prog_1_method_45_code, (⟨"SluiceChain", "protectionsAgree", "()Z"⟩ : MethodName), 1, (some .boolean), 744, 743, 36, 61, 0), (prog_1_method_51_code, (⟨"SluiceChain", "writeChain", "()I"⟩ : MethodName), 2, (some .int), 748, 746, 747, 61, 0), (prog_1_method_52_code, (⟨"SluiceChain", "writeForecast", "()I"⟩ : MethodName), 2, (some .int), 769, 767, 768, 61, 0), (prog_1_method_53_code, (⟨"SluiceChain", "outputAt", "(I)C"⟩ : MethodName), 2, (some .char), 1000, 998, 999, 61, 0), (prog_1_method_54_code, (⟨"SluiceChain", "writeBasin", "(LSluiceChain$Basin;)V"⟩ : MethodName), 2, none, 756, 755, 38, 61, 0), (prog_1_method_58_code, (⟨"SluiceChain", "existingBasin", "(I)LSluiceChain$Basin;"⟩ : MethodName), 2, (some (.object "SluiceChain$Basin")), 333, 332, 0, 61, 0), (prog_1_method_59_code, (⟨"SluiceChain", "faultOfRange", "(III)LSluiceChain$Fault;"⟩ : MethodName), 3, (some (.object "SluiceChain$Fault")), 538, 537, 0, 61, 1), (prog_1_method_60_code, (⟨"SluiceChain", "throwFor", "(LSluiceChain$Fault;)V"⟩ : MethodName), 1, none, 547, 546, 0, 61, 1), (method_2_code, (⟨"SluiceChainLaw", "cell", "([II)I"⟩ : MethodName), 2, (some .int), 775, 774, 0, 60, 1), (method_3_code, (⟨"SluiceChainLaw", "some", "([III)I"⟩ : MethodName), 3, (some .int), 772, 771, 0, 60, 1), (method_4_code, (⟨"SluiceChainLaw", "addBasin", "(LSluiceChain;III)I"⟩ : MethodName), 5, (some .int), 825, 824, 0, 60, 3), (method_5_code, (⟨"SluiceChainLaw", "setGate", "(LSluiceChain;II)I"⟩ : MethodName), 4, (some .int), 936, 935, 0, 60, 3), (method_6_code, (⟨"SluiceChainLaw", "setAutomatic", "(LSluiceChain;II)I"⟩ : MethodName), 4, (some .int), 945, 944, 0, 60, 3), (method_7_code, (⟨"SluiceChainLaw", "setManual", "(LSluiceChain;I)I"⟩ : MethodName), 3, (some .int), 954, 953, 0, 60, 3), (method_8_code, (⟨"SluiceChainLaw", "addRain", "(LSluiceChain;I)I"⟩ : MethodName), 3, (some .int), 924, 923, 0, 60, 3), (method_9_code, (⟨"SluiceChainLaw", "pour", "(LSluiceChain;II)I"⟩ : MethodName), 4, (some .int), 968, 967, 0, 60, 3), (method_10_code, (⟨"SluiceChainLaw", "advance", "(LSluiceChain;I)I"⟩ : MethodName), 3, (some .int), 977, 976, 0, 60, 3)]
noncomputable def mv_ms3 : List mv_J := [(method_11_code, (⟨"SluiceChainLaw", "threshold", "(LSluiceChain;I)I"⟩ : MethodName), 3, (some .int), 778, 777, 0, 60, 3), (method_12_code, (⟨"SluiceChainLaw", "basinAtRank", "(LSluiceChain;I)I"⟩ : MethodName), 3, (some .int), 808, 807, 0, 60, 3), (method_13_code, (⟨"SluiceChainLaw", "rainAt", "(LSluiceChain;I)I"⟩ : MethodName), 3, (some .int), 811, 810, 0, 60, 3), (method_14_code, (⟨"SluiceChainLaw", "stepsUntilFlood", "(LSluiceChain;)I"⟩ : MethodName), 2, (some .int), 814, 813, 0, 60, 3), (method_15_code, (⟨"SluiceChainLaw", "build", "(LSluiceChain;[I)V"⟩ : MethodName), 4, none, 822, 821, 0, 60, 1), (method_16_code, (⟨"SluiceChainLaw", "acts", "(LSluiceChain;[II)V"⟩ : MethodName), 6, none, 933, 932, 0, 60, 1)]
noncomputable def mv_ms : List mv_J := mv_ms0 ++ (mv_ms1 ++ (mv_ms2 ++ (mv_ms3)))
/-- tables of handlers: from, to, target, the class's place in the pool, its number, the place of its word -/
def mv_hs : List (Nat × List (Nat × Nat × Nat × Nat × Nat × Nat)) := [(113, [(0, 7, 8, 19, 0, 826), (0, 7, 14, 21, 1, 827)]), (114, [(0, 6, 7, 27, 2, 779), (0, 6, 12, 19, 0, 826), (0, 6, 17, 21, 1, 827)]), (115, [(0, 6, 7, 27, 2, 779), (0, 6, 12, 19, 0, 826)]), (116, [(0, 5, 6, 27, 2, 779), (0, 5, 11, 21, 1, 827)]), (117, [(0, 5, 6, 19, 0, 826), (0, 5, 11, 21, 1, 827)]), (118, [(0, 6, 7, 27, 2, 779), (0, 6, 12, 19, 0, 826), (0, 6, 17, 21, 1, 827)]), (119, [(0, 5, 6, 19, 0, 826)]), (120, [(0, 5, 6, 27, 2, 779), (0, 5, 11, 48, 5, 800)]), (121, [(0, 5, 6, 48, 5, 800)]), (122, [(0, 5, 6, 27, 2, 779)]), (123, [(0, 4, 5, 48, 5, 800)])]
end
section
/-! the rows of 03.code are those of the bytecode, and each link has its word -/
abbrev mv_cls : List vw_C := [(RX1, TX1, 9), (RX2, TX2, 8), (RX5, TX5, 3), (RX6, TX6, 2), (RX7, TX7, 1), (RX8, TX8, 6), (RX9, TX9, 4), (RX10, TX10, 12), (RJ4, TJ4, 4), (RJ0, TJ0, 4)]
def mv_ft (a b : Nat) : String × String × String :=
  match mv_cls[a]? with
  | some (C, T, N) => if b < N then (C, (T b).2.1, (T b).2.2.1) else ("", "", "")
  | none => ("", "", "")
noncomputable def mv_fw (own : String) (i a b w : Nat) : Bool := match lw_tbl[w]? with
  | some (.fieldLink o j r n d) => decide (o = own) && decide (j = i) && decide ((r, n, d) = mv_ft a b)
  | some (.fieldLinkNest o j r n d _) => decide (o = own) && decide (j = i) && decide ((r, n, d) = mv_ft a b)
  | _ => false
def mv_sn (a : Nat) : String × String × String := match a with
  | 1000 => ("SluiceChain$Command", "BASIN", "LSluiceChain$Command;") | 1001 => ("SluiceChain$Command", "GATE", "LSluiceChain$Command;")
  | 1002 => ("SluiceChain$Command", "AUTO", "LSluiceChain$Command;") | 1003 => ("SluiceChain$Command", "HAND", "LSluiceChain$Command;")
  | 1004 => ("SluiceChain$Command", "RAIN", "LSluiceChain$Command;") | 1005 => ("SluiceChain$Command", "CLEAR", "LSluiceChain$Command;")
  | 1006 => ("SluiceChain$Command", "POUR", "LSluiceChain$Command;") | 1007 => ("SluiceChain$Command", "STEP", "LSluiceChain$Command;")
  | 1010 => ("SluiceChain$Fault", "NONE", "LSluiceChain$Fault;") | 1011 => ("SluiceChain$Fault", "NO_BASIN", "LSluiceChain$Fault;")
  | 1012 => ("SluiceChain$Fault", "OUT_OF_RANGE", "LSluiceChain$Fault;") | 1013 => ("SluiceChain$Fault", "WRONG_STATE", "LSluiceChain$Fault;")
  | 1021 => ("SluiceChain$1", "$SwitchMap$SluiceChain$Command", "[I")
  | _ => ("", "", "")
noncomputable def mv_sw (own : String) (i a w : Nat) : Bool := match lw_tbl[w]? with
  | some (.fieldLink o j r n d) => decide (o = own) && decide (j = i) && decide ((r, n, d) = mv_sn a)
  | _ => false
noncomputable def mv_mi (M : Nat) : mv_J := mv_ms.getD M (code, ⟨"", "", ""⟩, 0, none, 0, 0, 0, 0, 0)
def mv_nat (a : Nat) : MethodName := match a with
  | 900 => Lib.Math.min.name | 901 => Lib.Math.max.name | 902 => ⟨"SluiceChain$Command", "ordinal", "()I"⟩
  | _ => objectInit
noncomputable def mv_mw (own : String) (i a w : Nat) : Bool := match lw_tbl[w]? with
  | some (.methodLink o j y) => decide (o = own) && decide (j = i) && decide (y = if a < 900 then (mv_mi a).2.1 else mv_nat a)
  | some (.methodLinkNest o j y _) => decide (o = own) && decide (j = i) && decide (a < 900) && decide (y = (mv_mi a).2.1)
  | _ => false
noncomputable def mv_cw (own : String) (i w : Nat) (C : String) : Bool := decide (lw_tbl[w]? = some (.classLink own i C))
def mv_ky (a : Nat) : ArrayType := if a = 20 then .int else if a = 21 then .char else if a = 22 then .long else .double
noncomputable def mv_ok (bs : ByteArray) (own : String) (q : Nat × mv_I) : Bool := match q with
  | (pc, (i, nx, a, b, w)) => decide (decode bs pc = .ok (i, nx - pc)) && decide (pc ≤ nx) && match i with
    | .goto off => decide ((pc : Int) + off = (a : Int))
    | .if_icmp _ off => decide ((pc : Int) + off = (a : Int))
    | .ifCond _ off => decide ((pc : Int) + off = (a : Int))
    | .if_acmp _ off => decide ((pc : Int) + off = (a : Int))
    | .ifnonnull off => decide ((pc : Int) + off = (a : Int))
    | .tableswitch _ _ _ _ => decide (a = pc)
    | .getfield k => mv_fw own k a b w
    | .putfield k => mv_fw own k a b w
    | .getstatic k => mv_sw own k a w
    | .invokevirtual k => mv_mw own k a w
    | .invokestatic k => mv_mw own k a w
    | .invokespecial k => decide (a = 999) || mv_mw own k a w
    | .new k => decide (a = 99) || (match mv_cls[a]? with | some (C, _, _) => mv_cw own k w C | none => false)
    | .newarray t => decide (t = mv_ky a)
    | .anewarray k => mv_cw own k w (if a = 24 then "SluiceChain$Basin" else "SluiceChain$Chain")
    | .ldc k => decide (a = 0) || decide (lw_tbl[w]? = some (.constant own k (Int32.ofNat b)))
    | _ => true
noncomputable def mv_okM (M : Nat) : Bool := (mv_tb M).all (mv_ok (mv_mi M).1 (mv_mi M).2.1.cls)
theorem ok_X1_init : t_X1_init.all (mv_ok (prog_3_method_1_code) "SluiceChain$Basin") = true := by decide +kernel
theorem ok_X1_begin : t_X1_begin.all (mv_ok (prog_3_method_2_code) "SluiceChain$Basin") = true := by decide +kernel
theorem ok_X1_copyFrom : t_X1_copyFrom.all (mv_ok (prog_3_method_3_code) "SluiceChain$Basin") = true := by decide +kernel
theorem ok_X1_moveAutomaticGate : t_X1_moveAutomaticGate.all (mv_ok (prog_3_method_4_code) "SluiceChain$Basin") = true := by decide +kernel
theorem ok_X1_letOut : t_X1_letOut.all (mv_ok (prog_3_method_5_code) "SluiceChain$Basin") = true := by decide +kernel
theorem ok_X1_spillOver : t_X1_spillOver.all (mv_ok (prog_3_method_6_code) "SluiceChain$Basin") = true := by decide +kernel
theorem ok_X2_init : t_X2_init.all (mv_ok (prog_4_method_1_code) "SluiceChain$Chain") = true := by decide +kernel
theorem ok_X2_copyFrom : t_X2_copyFrom.all (mv_ok (prog_4_method_2_code) "SluiceChain$Chain") = true := by decide +kernel
theorem ok_X2_copyWithOpening : t_X2_copyWithOpening.all (mv_ok (prog_4_method_3_code) "SluiceChain$Chain") = true := by decide +kernel
theorem ok_X2_hasBasin : t_X2_hasBasin.all (mv_ok (prog_4_method_4_code) "SluiceChain$Chain") = true := by decide +kernel
theorem ok_X2_faultOf : t_X2_faultOf.all (mv_ok (prog_4_method_5_code) "SluiceChain$Chain") = true := by decide +kernel
theorem ok_X2_faultOfNewBasin : t_X2_faultOfNewBasin.all (mv_ok (prog_4_method_6_code) "SluiceChain$Chain") = true := by decide +kernel
theorem ok_X2_faultAtBasin : t_X2_faultAtBasin.all (mv_ok (prog_4_method_7_code) "SluiceChain$Chain") = true := by decide +kernel
theorem ok_X2_faultOfGate : t_X2_faultOfGate.all (mv_ok (prog_4_method_8_code) "SluiceChain$Chain") = true := by decide +kernel
theorem ok_X2_faultOfHand : t_X2_faultOfHand.all (mv_ok (prog_4_method_9_code) "SluiceChain$Chain") = true := by decide +kernel
theorem ok_X2_faultOfRain : t_X2_faultOfRain.all (mv_ok (prog_4_method_10_code) "SluiceChain$Chain") = true := by decide +kernel
theorem ok_X2_faultOfPour : t_X2_faultOfPour.all (mv_ok (prog_4_method_11_code) "SluiceChain$Chain") = true := by decide +kernel
theorem ok_X2_faultOfPrediction : t_X2_faultOfPrediction.all (mv_ok (prog_4_method_12_code) "SluiceChain$Chain") = true := by decide +kernel
theorem ok_X2_faultOfPlan : t_X2_faultOfPlan.all (mv_ok (prog_4_method_13_code) "SluiceChain$Chain") = true := by decide +kernel
theorem ok_X2_carryOut : t_X2_carryOut.all (mv_ok (prog_4_method_14_code) "SluiceChain$Chain") = true := by decide +kernel
theorem ok_X2_useNextBasin : t_X2_useNextBasin.all (mv_ok (prog_4_method_15_code) "SluiceChain$Chain") = true := by decide +kernel
theorem ok_X2_turnGate : t_X2_turnGate.all (mv_ok (prog_4_method_16_code) "SluiceChain$Chain") = true := by decide +kernel
theorem ok_X2_makeAutomatic : t_X2_makeAutomatic.all (mv_ok (prog_4_method_17_code) "SluiceChain$Chain") = true := by decide +kernel
theorem ok_X2_makeManual : t_X2_makeManual.all (mv_ok (prog_4_method_18_code) "SluiceChain$Chain") = true := by decide +kernel
theorem ok_X2_countAutomatic : t_X2_countAutomatic.all (mv_ok (prog_4_method_19_code) "SluiceChain$Chain") = true := by decide +kernel
theorem ok_X2_expectRain : t_X2_expectRain.all (mv_ok (prog_4_method_20_code) "SluiceChain$Chain") = true := by decide +kernel
theorem ok_X2_dropForecast : t_X2_dropForecast.all (mv_ok (prog_4_method_21_code) "SluiceChain$Chain") = true := by decide +kernel
theorem ok_X2_pourInto : t_X2_pourInto.all (mv_ok (prog_4_method_22_code) "SluiceChain$Chain") = true := by decide +kernel
theorem ok_X2_passSteps : t_X2_passSteps.all (mv_ok (prog_4_method_23_code) "SluiceChain$Chain") = true := by decide +kernel
theorem ok_X2_passStep : t_X2_passStep.all (mv_ok (prog_4_method_24_code) "SluiceChain$Chain") = true := by decide +kernel
theorem ok_X2_takeRain : t_X2_takeRain.all (mv_ok (prog_4_method_25_code) "SluiceChain$Chain") = true := by decide +kernel
theorem ok_X2_rainDown : t_X2_rainDown.all (mv_ok (prog_4_method_26_code) "SluiceChain$Chain") = true := by decide +kernel
theorem ok_X2_flowDown : t_X2_flowDown.all (mv_ok (prog_4_method_27_code) "SluiceChain$Chain") = true := by decide +kernel
theorem ok_X2_rankOf : t_X2_rankOf.all (mv_ok (prog_4_method_28_code) "SluiceChain$Chain") = true := by decide +kernel
theorem ok_X2_isRankedBefore : t_X2_isRankedBefore.all (mv_ok (prog_4_method_29_code) "SluiceChain$Chain") = true := by decide +kernel
theorem ok_X2_levelsFit : t_X2_levelsFit.all (mv_ok (prog_4_method_30_code) "SluiceChain$Chain") = true := by decide +kernel
theorem ok_X2_sumOfLevels : t_X2_sumOfLevels.all (mv_ok (prog_4_method_31_code) "SluiceChain$Chain") = true := by decide +kernel
theorem ok_X2_balanceOfAccounts : t_X2_balanceOfAccounts.all (mv_ok (prog_4_method_32_code) "SluiceChain$Chain") = true := by decide +kernel
theorem ok_X2_sumOfFloodedSteps : t_X2_sumOfFloodedSteps.all (mv_ok (prog_4_method_33_code) "SluiceChain$Chain") = true := by decide +kernel
theorem ok_X5_init : t_X5_init.all (mv_ok (prog_7_method_1_code) "SluiceChain$History") = true := by decide +kernel
theorem ok_X5_remember : t_X5_remember.all (mv_ok (prog_7_method_2_code) "SluiceChain$History") = true := by decide +kernel
theorem ok_X6_init : t_X6_init.all (mv_ok (prog_8_method_1_code) "SluiceChain$Line") = true := by decide +kernel
theorem ok_X6_put : t_X6_put.all (mv_ok (prog_8_method_2_code) "SluiceChain$Line") = true := by decide +kernel
theorem ok_X6_putNumber : t_X6_putNumber.all (mv_ok (prog_8_method_3_code) "SluiceChain$Line") = true := by decide +kernel
theorem ok_X6_putDigit : t_X6_putDigit.all (mv_ok (prog_8_method_4_code) "SluiceChain$Line") = true := by decide +kernel
theorem ok_X7_init : t_X7_init.all (mv_ok (prog_9_method_1_code) "SluiceChain$PlanSearch") = true := by decide +kernel
theorem ok_X7_leastOfAll : t_X7_leastOfAll.all (mv_ok (prog_9_method_2_code) "SluiceChain$PlanSearch") = true := by decide +kernel
theorem ok_X7_leastByCutting : t_X7_leastByCutting.all (mv_ok (prog_9_method_3_code) "SluiceChain$PlanSearch") = true := by decide +kernel
theorem ok_X7_lowestFirstOpening : t_X7_lowestFirstOpening.all (mv_ok (prog_9_method_4_code) "SluiceChain$PlanSearch") = true := by decide +kernel
theorem ok_X7_leastFrom : t_X7_leastFrom.all (mv_ok (prog_9_method_5_code) "SluiceChain$PlanSearch") = true := by decide +kernel
theorem ok_X7_leastBelow : t_X7_leastBelow.all (mv_ok (prog_9_method_6_code) "SluiceChain$PlanSearch") = true := by decide +kernel
theorem ok_X8_init : t_X8_init.all (mv_ok (prog_10_method_1_code) "SluiceChain$Program") = true := by decide +kernel
theorem ok_X9_init : t_X9_init.all (mv_ok (prog_11_method_1_code) "SluiceChain$Protection") = true := by decide +kernel
theorem ok_X9_include : t_X9_include.all (mv_ok (prog_11_method_2_code) "SluiceChain$Protection") = true := by decide +kernel
theorem ok_X9_sumOfBags : t_X9_sumOfBags.all (mv_ok (prog_11_method_3_code) "SluiceChain$Protection") = true := by decide +kernel
theorem ok_X9_bestByTable : t_X9_bestByTable.all (mv_ok (prog_11_method_4_code) "SluiceChain$Protection") = true := by decide +kernel
theorem ok_X9_improveTable : t_X9_improveTable.all (mv_ok (prog_11_method_5_code) "SluiceChain$Protection") = true := by decide +kernel
theorem ok_X9_bestBySets : t_X9_bestBySets.all (mv_ok (prog_11_method_6_code) "SluiceChain$Protection") = true := by decide +kernel
theorem ok_X9_bagsOfSet : t_X9_bagsOfSet.all (mv_ok (prog_11_method_7_code) "SluiceChain$Protection") = true := by decide +kernel
theorem ok_X9_valueOfSet : t_X9_valueOfSet.all (mv_ok (prog_11_method_8_code) "SluiceChain$Protection") = true := by decide +kernel
theorem ok_X10_init : t_X10_init.all (mv_ok (prog_1_method_1_code) "SluiceChain") = true := by decide +kernel
theorem ok_X10_addBasin : t_X10_addBasin.all (mv_ok (prog_1_method_2_code) "SluiceChain") = true := by decide +kernel
theorem ok_X10_setGate : t_X10_setGate.all (mv_ok (prog_1_method_3_code) "SluiceChain") = true := by decide +kernel
theorem ok_X10_setAutomatic : t_X10_setAutomatic.all (mv_ok (prog_1_method_4_code) "SluiceChain") = true := by decide +kernel
theorem ok_X10_setManual : t_X10_setManual.all (mv_ok (prog_1_method_5_code) "SluiceChain") = true := by decide +kernel
theorem ok_X10_addRain : t_X10_addRain.all (mv_ok (prog_1_method_6_code) "SluiceChain") = true := by decide +kernel
theorem ok_X10_clearForecast : t_X10_clearForecast.all (mv_ok (prog_1_method_7_code) "SluiceChain") = true := by decide +kernel
theorem ok_X10_pour : t_X10_pour.all (mv_ok (prog_1_method_8_code) "SluiceChain") = true := by decide +kernel
theorem ok_X10_advance : t_X10_advance.all (mv_ok (prog_1_method_9_code) "SluiceChain") = true := by decide +kernel
theorem ok_X10_change : t_X10_change.all (mv_ok (prog_1_method_10_code) "SluiceChain") = true := by decide +kernel
theorem ok_X10_basinCount : t_X10_basinCount.all (mv_ok (prog_1_method_11_code) "SluiceChain") = true := by decide +kernel
theorem ok_X10_capacity : t_X10_capacity.all (mv_ok (prog_1_method_12_code) "SluiceChain") = true := by decide +kernel
theorem ok_X10_level : t_X10_level.all (mv_ok (prog_1_method_13_code) "SluiceChain") = true := by decide +kernel
theorem ok_X10_fieldValue : t_X10_fieldValue.all (mv_ok (prog_1_method_15_code) "SluiceChain") = true := by decide +kernel
theorem ok_X10_opening : t_X10_opening.all (mv_ok (prog_1_method_16_code) "SluiceChain") = true := by decide +kernel
theorem ok_X10_isAutomatic : t_X10_isAutomatic.all (mv_ok (prog_1_method_17_code) "SluiceChain") = true := by decide +kernel
theorem ok_X10_threshold : t_X10_threshold.all (mv_ok (prog_1_method_18_code) "SluiceChain") = true := by decide +kernel
theorem ok_X10_spilled : t_X10_spilled.all (mv_ok (prog_1_method_19_code) "SluiceChain") = true := by decide +kernel
theorem ok_X10_floodedSteps : t_X10_floodedSteps.all (mv_ok (prog_1_method_20_code) "SluiceChain") = true := by decide +kernel
theorem ok_X10_basinAtRank : t_X10_basinAtRank.all (mv_ok (prog_1_method_21_code) "SluiceChain") = true := by decide +kernel
theorem ok_X10_time : t_X10_time.all (mv_ok (prog_1_method_22_code) "SluiceChain") = true := by decide +kernel
theorem ok_X10_forecastLength : t_X10_forecastLength.all (mv_ok (prog_1_method_23_code) "SluiceChain") = true := by decide +kernel
theorem ok_X10_rainAt : t_X10_rainAt.all (mv_ok (prog_1_method_24_code) "SluiceChain") = true := by decide +kernel
theorem ok_X10_stored : t_X10_stored.all (mv_ok (prog_1_method_25_code) "SluiceChain") = true := by decide +kernel
theorem ok_X10_storedByAccounts : t_X10_storedByAccounts.all (mv_ok (prog_1_method_26_code) "SluiceChain") = true := by decide +kernel
theorem ok_X10_riverTotal : t_X10_riverTotal.all (mv_ok (prog_1_method_27_code) "SluiceChain") = true := by decide +kernel
theorem ok_X10_meanFill : t_X10_meanFill.all (mv_ok (prog_1_method_28_code) "SluiceChain") = true := by decide +kernel
theorem ok_X10_floodShare : t_X10_floodShare.all (mv_ok (prog_1_method_29_code) "SluiceChain") = true := by decide +kernel
theorem ok_X10_levelAfter : t_X10_levelAfter.all (mv_ok (prog_1_method_30_code) "SluiceChain") = true := by decide +kernel
theorem ok_X10_spillOf : t_X10_spillOf.all (mv_ok (prog_1_method_31_code) "SluiceChain") = true := by decide +kernel
theorem ok_X10_stepsUntilFlood : t_X10_stepsUntilFlood.all (mv_ok (prog_1_method_32_code) "SluiceChain") = true := by decide +kernel
theorem ok_X10_lookAhead : t_X10_lookAhead.all (mv_ok (prog_1_method_33_code) "SluiceChain") = true := by decide +kernel
theorem ok_X10_expectedSpill : t_X10_expectedSpill.all (mv_ok (prog_1_method_34_code) "SluiceChain") = true := by decide +kernel
theorem ok_X10_leastSpill : t_X10_leastSpill.all (mv_ok (prog_1_method_35_code) "SluiceChain") = true := by decide +kernel
theorem ok_X10_leastSpillByPruning : t_X10_leastSpillByPruning.all (mv_ok (prog_1_method_36_code) "SluiceChain") = true := by decide +kernel
theorem ok_X10_bestOpening : t_X10_bestOpening.all (mv_ok (prog_1_method_37_code) "SluiceChain") = true := by decide +kernel
theorem ok_X10_endangered : t_X10_endangered.all (mv_ok (prog_1_method_38_code) "SluiceChain") = true := by decide +kernel
theorem ok_X10_bestProtection : t_X10_bestProtection.all (mv_ok (prog_1_method_39_code) "SluiceChain") = true := by decide +kernel
theorem ok_X10_bestProtectionBySets : t_X10_bestProtectionBySets.all (mv_ok (prog_1_method_40_code) "SluiceChain") = true := by decide +kernel
theorem ok_X10_bagsForAll : t_X10_bagsForAll.all (mv_ok (prog_1_method_41_code) "SluiceChain") = true := by decide +kernel
theorem ok_X10_isConsistent : t_X10_isConsistent.all (mv_ok (prog_1_method_42_code) "SluiceChain") = true := by decide +kernel
theorem ok_X10_gatherEndangered : t_X10_gatherEndangered.all (mv_ok (prog_1_method_43_code) "SluiceChain") = true := by decide +kernel
theorem ok_X10_leastSpillsAgree : t_X10_leastSpillsAgree.all (mv_ok (prog_1_method_44_code) "SluiceChain") = true := by decide +kernel
theorem ok_X10_protectionsAgree : t_X10_protectionsAgree.all (mv_ok (prog_1_method_45_code) "SluiceChain") = true := by decide +kernel
theorem ok_X10_writeChain : t_X10_writeChain.all (mv_ok (prog_1_method_51_code) "SluiceChain") = true := by decide +kernel
theorem ok_X10_writeForecast : t_X10_writeForecast.all (mv_ok (prog_1_method_52_code) "SluiceChain") = true := by decide +kernel
theorem ok_X10_outputAt : t_X10_outputAt.all (mv_ok (prog_1_method_53_code) "SluiceChain") = true := by decide +kernel
theorem ok_X10_writeBasin : t_X10_writeBasin.all (mv_ok (prog_1_method_54_code) "SluiceChain") = true := by decide +kernel
theorem ok_X10_existingBasin : t_X10_existingBasin.all (mv_ok (prog_1_method_58_code) "SluiceChain") = true := by decide +kernel
theorem ok_X10_faultOfRange : t_X10_faultOfRange.all (mv_ok (prog_1_method_59_code) "SluiceChain") = true := by decide +kernel
theorem ok_X10_throwFor : t_X10_throwFor.all (mv_ok (prog_1_method_60_code) "SluiceChain") = true := by decide +kernel
theorem ok_L_cell : t_L_cell.all (mv_ok (method_2_code) "SluiceChainLaw") = true := by decide +kernel
theorem ok_L_some : t_L_some.all (mv_ok (method_3_code) "SluiceChainLaw") = true := by decide +kernel
theorem ok_L_addBasin : t_L_addBasin.all (mv_ok (method_4_code) "SluiceChainLaw") = true := by decide +kernel
theorem ok_L_setGate : t_L_setGate.all (mv_ok (method_5_code) "SluiceChainLaw") = true := by decide +kernel
theorem ok_L_setAutomatic : t_L_setAutomatic.all (mv_ok (method_6_code) "SluiceChainLaw") = true := by decide +kernel
theorem ok_L_setManual : t_L_setManual.all (mv_ok (method_7_code) "SluiceChainLaw") = true := by decide +kernel
theorem ok_L_addRain : t_L_addRain.all (mv_ok (method_8_code) "SluiceChainLaw") = true := by decide +kernel
theorem ok_L_pour : t_L_pour.all (mv_ok (method_9_code) "SluiceChainLaw") = true := by decide +kernel
theorem ok_L_advance : t_L_advance.all (mv_ok (method_10_code) "SluiceChainLaw") = true := by decide +kernel
theorem ok_L_threshold : t_L_threshold.all (mv_ok (method_11_code) "SluiceChainLaw") = true := by decide +kernel
theorem ok_L_basinAtRank : t_L_basinAtRank.all (mv_ok (method_12_code) "SluiceChainLaw") = true := by decide +kernel
theorem ok_L_rainAt : t_L_rainAt.all (mv_ok (method_13_code) "SluiceChainLaw") = true := by decide +kernel
theorem ok_L_stepsUntilFlood : t_L_stepsUntilFlood.all (mv_ok (method_14_code) "SluiceChainLaw") = true := by decide +kernel
theorem ok_L_build : t_L_build.all (mv_ok (method_15_code) "SluiceChainLaw") = true := by decide +kernel
theorem ok_L_acts : t_L_acts.all (mv_ok (method_16_code) "SluiceChainLaw") = true := by decide +kernel
end
section
/-! each row of each method: decoded so, of that length, its links by their words; the classes of the methods -/
def mv_w : Instr → Nat
  | .bipush _ => 2 | .sipush _ => 3 | .ldc _ => 2 | .ldc_w _ => 3 | .iload _ => 2 | .fload _ => 2 | .dload _ => 2 | .aload _ => 2 | .istore _ => 2 | .fstore _ => 2 | .dstore _ => 2 | .astore _ => 2
  | .iinc _ _ => 3 | .goto _ => 3 | .if_icmp _ _ => 3 | .ifCond _ _ => 3 | .if_acmp _ _ => 3 | .ifnonnull _ => 3 | .getfield _ => 3 | .putfield _ => 3 | .getstatic _ => 3
  | .invokevirtual _ => 3 | .invokestatic _ => 3 | .invokespecial _ => 3 | .new _ => 3 | .newarray _ => 2 | .anewarray _ => 3 | .tableswitch _ _ _ _ => 0 | _ => 1
def mv_lok (q : Nat × mv_I) : Bool := decide (mv_w q.2.1 = 0) || decide (q.2.2.1 = q.1 + mv_w q.2.1)
noncomputable def mv_all : List (List (Nat × mv_I)) → List mv_J → Prop
  | t :: ts, j :: js => (t.all (mv_ok j.1 j.2.1.cls) = true ∧ t.all mv_lok = true) ∧ mv_all ts js
  | [], [] => True
  | _, _ => False
theorem mv_all_app : ∀ {a : List (List (Nat × mv_I))} {b : List mv_J} {c : List (List (Nat × mv_I))} {d : List mv_J}, mv_all a b → mv_all c d → mv_all (a ++ c) (b ++ d)
  | [], [], _, _, _, h => h
  | [], _ :: _, _, _, h, _ => h.elim
  | _ :: _, [], _, _, h, _ => h.elim
  | _ :: _, _ :: _, _, _, h, h' => ⟨h.1, mv_all_app h.2 h'⟩
theorem ol_X1_init : t_X1_init.all mv_lok = true := by decide +kernel
theorem ol_X1_begin : t_X1_begin.all mv_lok = true := by decide +kernel
theorem ol_X1_copyFrom : t_X1_copyFrom.all mv_lok = true := by decide +kernel
theorem ol_X1_moveAutomaticGate : t_X1_moveAutomaticGate.all mv_lok = true := by decide +kernel
theorem ol_X1_letOut : t_X1_letOut.all mv_lok = true := by decide +kernel
theorem ol_X1_spillOver : t_X1_spillOver.all mv_lok = true := by decide +kernel
theorem ol_X2_init : t_X2_init.all mv_lok = true := by decide +kernel
theorem ol_X2_copyFrom : t_X2_copyFrom.all mv_lok = true := by decide +kernel
theorem ol_X2_copyWithOpening : t_X2_copyWithOpening.all mv_lok = true := by decide +kernel
theorem ol_X2_hasBasin : t_X2_hasBasin.all mv_lok = true := by decide +kernel
theorem ol_X2_faultOf : t_X2_faultOf.all mv_lok = true := by decide +kernel
theorem ol_X2_faultOfNewBasin : t_X2_faultOfNewBasin.all mv_lok = true := by decide +kernel
theorem ol_X2_faultAtBasin : t_X2_faultAtBasin.all mv_lok = true := by decide +kernel
theorem ol_X2_faultOfGate : t_X2_faultOfGate.all mv_lok = true := by decide +kernel
theorem ol_X2_faultOfHand : t_X2_faultOfHand.all mv_lok = true := by decide +kernel
theorem ol_X2_faultOfRain : t_X2_faultOfRain.all mv_lok = true := by decide +kernel
theorem ol_X2_faultOfPour : t_X2_faultOfPour.all mv_lok = true := by decide +kernel
theorem ol_X2_faultOfPrediction : t_X2_faultOfPrediction.all mv_lok = true := by decide +kernel
theorem ol_X2_faultOfPlan : t_X2_faultOfPlan.all mv_lok = true := by decide +kernel
theorem ol_X2_carryOut : t_X2_carryOut.all mv_lok = true := by decide +kernel
theorem ol_X2_useNextBasin : t_X2_useNextBasin.all mv_lok = true := by decide +kernel
theorem ol_X2_turnGate : t_X2_turnGate.all mv_lok = true := by decide +kernel
theorem ol_X2_makeAutomatic : t_X2_makeAutomatic.all mv_lok = true := by decide +kernel
theorem ol_X2_makeManual : t_X2_makeManual.all mv_lok = true := by decide +kernel
theorem ol_X2_countAutomatic : t_X2_countAutomatic.all mv_lok = true := by decide +kernel
theorem ol_X2_expectRain : t_X2_expectRain.all mv_lok = true := by decide +kernel
theorem ol_X2_dropForecast : t_X2_dropForecast.all mv_lok = true := by decide +kernel
theorem ol_X2_pourInto : t_X2_pourInto.all mv_lok = true := by decide +kernel
theorem ol_X2_passSteps : t_X2_passSteps.all mv_lok = true := by decide +kernel
theorem ol_X2_passStep : t_X2_passStep.all mv_lok = true := by decide +kernel
theorem ol_X2_takeRain : t_X2_takeRain.all mv_lok = true := by decide +kernel
theorem ol_X2_rainDown : t_X2_rainDown.all mv_lok = true := by decide +kernel
theorem ol_X2_flowDown : t_X2_flowDown.all mv_lok = true := by decide +kernel
theorem ol_X2_rankOf : t_X2_rankOf.all mv_lok = true := by decide +kernel
theorem ol_X2_isRankedBefore : t_X2_isRankedBefore.all mv_lok = true := by decide +kernel
theorem ol_X2_levelsFit : t_X2_levelsFit.all mv_lok = true := by decide +kernel
theorem ol_X2_sumOfLevels : t_X2_sumOfLevels.all mv_lok = true := by decide +kernel
theorem ol_X2_balanceOfAccounts : t_X2_balanceOfAccounts.all mv_lok = true := by decide +kernel
theorem ol_X2_sumOfFloodedSteps : t_X2_sumOfFloodedSteps.all mv_lok = true := by decide +kernel
theorem ol_X5_init : t_X5_init.all mv_lok = true := by decide +kernel
theorem ol_X5_remember : t_X5_remember.all mv_lok = true := by decide +kernel
theorem ol_X6_init : t_X6_init.all mv_lok = true := by decide +kernel
theorem ol_X6_put : t_X6_put.all mv_lok = true := by decide +kernel
theorem ol_X6_putNumber : t_X6_putNumber.all mv_lok = true := by decide +kernel
theorem ol_X6_putDigit : t_X6_putDigit.all mv_lok = true := by decide +kernel
theorem ol_X7_init : t_X7_init.all mv_lok = true := by decide +kernel
theorem ol_X7_leastOfAll : t_X7_leastOfAll.all mv_lok = true := by decide +kernel
theorem ol_X7_leastByCutting : t_X7_leastByCutting.all mv_lok = true := by decide +kernel
theorem ol_X7_lowestFirstOpening : t_X7_lowestFirstOpening.all mv_lok = true := by decide +kernel
theorem ol_X7_leastFrom : t_X7_leastFrom.all mv_lok = true := by decide +kernel
theorem ol_X7_leastBelow : t_X7_leastBelow.all mv_lok = true := by decide +kernel
theorem ol_X8_init : t_X8_init.all mv_lok = true := by decide +kernel
theorem ol_X9_init : t_X9_init.all mv_lok = true := by decide +kernel
theorem ol_X9_include : t_X9_include.all mv_lok = true := by decide +kernel
theorem ol_X9_sumOfBags : t_X9_sumOfBags.all mv_lok = true := by decide +kernel
theorem ol_X9_bestByTable : t_X9_bestByTable.all mv_lok = true := by decide +kernel
theorem ol_X9_improveTable : t_X9_improveTable.all mv_lok = true := by decide +kernel
theorem ol_X9_bestBySets : t_X9_bestBySets.all mv_lok = true := by decide +kernel
theorem ol_X9_bagsOfSet : t_X9_bagsOfSet.all mv_lok = true := by decide +kernel
theorem ol_X9_valueOfSet : t_X9_valueOfSet.all mv_lok = true := by decide +kernel
theorem ol_X10_init : t_X10_init.all mv_lok = true := by decide +kernel
theorem ol_X10_addBasin : t_X10_addBasin.all mv_lok = true := by decide +kernel
theorem ol_X10_setGate : t_X10_setGate.all mv_lok = true := by decide +kernel
theorem ol_X10_setAutomatic : t_X10_setAutomatic.all mv_lok = true := by decide +kernel
theorem ol_X10_setManual : t_X10_setManual.all mv_lok = true := by decide +kernel
theorem ol_X10_addRain : t_X10_addRain.all mv_lok = true := by decide +kernel
theorem ol_X10_clearForecast : t_X10_clearForecast.all mv_lok = true := by decide +kernel
theorem ol_X10_pour : t_X10_pour.all mv_lok = true := by decide +kernel
theorem ol_X10_advance : t_X10_advance.all mv_lok = true := by decide +kernel
theorem ol_X10_change : t_X10_change.all mv_lok = true := by decide +kernel
theorem ol_X10_basinCount : t_X10_basinCount.all mv_lok = true := by decide +kernel
theorem ol_X10_capacity : t_X10_capacity.all mv_lok = true := by decide +kernel
theorem ol_X10_level : t_X10_level.all mv_lok = true := by decide +kernel
theorem ol_X10_fieldValue : t_X10_fieldValue.all mv_lok = true := by decide +kernel
theorem ol_X10_opening : t_X10_opening.all mv_lok = true := by decide +kernel
theorem ol_X10_isAutomatic : t_X10_isAutomatic.all mv_lok = true := by decide +kernel
theorem ol_X10_threshold : t_X10_threshold.all mv_lok = true := by decide +kernel
theorem ol_X10_spilled : t_X10_spilled.all mv_lok = true := by decide +kernel
theorem ol_X10_floodedSteps : t_X10_floodedSteps.all mv_lok = true := by decide +kernel
theorem ol_X10_basinAtRank : t_X10_basinAtRank.all mv_lok = true := by decide +kernel
theorem ol_X10_time : t_X10_time.all mv_lok = true := by decide +kernel
theorem ol_X10_forecastLength : t_X10_forecastLength.all mv_lok = true := by decide +kernel
theorem ol_X10_rainAt : t_X10_rainAt.all mv_lok = true := by decide +kernel
theorem ol_X10_stored : t_X10_stored.all mv_lok = true := by decide +kernel
theorem ol_X10_storedByAccounts : t_X10_storedByAccounts.all mv_lok = true := by decide +kernel
theorem ol_X10_riverTotal : t_X10_riverTotal.all mv_lok = true := by decide +kernel
theorem ol_X10_meanFill : t_X10_meanFill.all mv_lok = true := by decide +kernel
theorem ol_X10_floodShare : t_X10_floodShare.all mv_lok = true := by decide +kernel
theorem ol_X10_levelAfter : t_X10_levelAfter.all mv_lok = true := by decide +kernel
theorem ol_X10_spillOf : t_X10_spillOf.all mv_lok = true := by decide +kernel
theorem ol_X10_stepsUntilFlood : t_X10_stepsUntilFlood.all mv_lok = true := by decide +kernel
theorem ol_X10_lookAhead : t_X10_lookAhead.all mv_lok = true := by decide +kernel
theorem ol_X10_expectedSpill : t_X10_expectedSpill.all mv_lok = true := by decide +kernel
theorem ol_X10_leastSpill : t_X10_leastSpill.all mv_lok = true := by decide +kernel
theorem ol_X10_leastSpillByPruning : t_X10_leastSpillByPruning.all mv_lok = true := by decide +kernel
theorem ol_X10_bestOpening : t_X10_bestOpening.all mv_lok = true := by decide +kernel
theorem ol_X10_endangered : t_X10_endangered.all mv_lok = true := by decide +kernel
theorem ol_X10_bestProtection : t_X10_bestProtection.all mv_lok = true := by decide +kernel
theorem ol_X10_bestProtectionBySets : t_X10_bestProtectionBySets.all mv_lok = true := by decide +kernel
theorem ol_X10_bagsForAll : t_X10_bagsForAll.all mv_lok = true := by decide +kernel
theorem ol_X10_isConsistent : t_X10_isConsistent.all mv_lok = true := by decide +kernel
theorem ol_X10_gatherEndangered : t_X10_gatherEndangered.all mv_lok = true := by decide +kernel
theorem ol_X10_leastSpillsAgree : t_X10_leastSpillsAgree.all mv_lok = true := by decide +kernel
theorem ol_X10_protectionsAgree : t_X10_protectionsAgree.all mv_lok = true := by decide +kernel
theorem ol_X10_writeChain : t_X10_writeChain.all mv_lok = true := by decide +kernel
theorem ol_X10_writeForecast : t_X10_writeForecast.all mv_lok = true := by decide +kernel
theorem ol_X10_outputAt : t_X10_outputAt.all mv_lok = true := by decide +kernel
theorem ol_X10_writeBasin : t_X10_writeBasin.all mv_lok = true := by decide +kernel
theorem ol_X10_existingBasin : t_X10_existingBasin.all mv_lok = true := by decide +kernel
theorem ol_X10_faultOfRange : t_X10_faultOfRange.all mv_lok = true := by decide +kernel
theorem ol_X10_throwFor : t_X10_throwFor.all mv_lok = true := by decide +kernel
theorem ol_L_cell : t_L_cell.all mv_lok = true := by decide +kernel
theorem ol_L_some : t_L_some.all mv_lok = true := by decide +kernel
theorem ol_L_addBasin : t_L_addBasin.all mv_lok = true := by decide +kernel
theorem ol_L_setGate : t_L_setGate.all mv_lok = true := by decide +kernel
theorem ol_L_setAutomatic : t_L_setAutomatic.all mv_lok = true := by decide +kernel
theorem ol_L_setManual : t_L_setManual.all mv_lok = true := by decide +kernel
theorem ol_L_addRain : t_L_addRain.all mv_lok = true := by decide +kernel
theorem ol_L_pour : t_L_pour.all mv_lok = true := by decide +kernel
theorem ol_L_advance : t_L_advance.all mv_lok = true := by decide +kernel
theorem ol_L_threshold : t_L_threshold.all mv_lok = true := by decide +kernel
theorem ol_L_basinAtRank : t_L_basinAtRank.all mv_lok = true := by decide +kernel
theorem ol_L_rainAt : t_L_rainAt.all mv_lok = true := by decide +kernel
theorem ol_L_stepsUntilFlood : t_L_stepsUntilFlood.all mv_lok = true := by decide +kernel
theorem ol_L_build : t_L_build.all mv_lok = true := by decide +kernel
theorem ol_L_acts : t_L_acts.all mv_lok = true := by decide +kernel
theorem mv_all0 : mv_all mv_tb0 mv_ms0 := ⟨⟨ok_X1_init, ol_X1_init⟩, ⟨⟨ok_X1_begin, ol_X1_begin⟩, ⟨⟨ok_X1_copyFrom, ol_X1_copyFrom⟩, ⟨⟨ok_X1_moveAutomaticGate, ol_X1_moveAutomaticGate⟩, ⟨⟨ok_X1_letOut, ol_X1_letOut⟩, ⟨⟨ok_X1_spillOver, ol_X1_spillOver⟩, ⟨⟨ok_X2_init, ol_X2_init⟩, ⟨⟨ok_X2_copyFrom, ol_X2_copyFrom⟩, ⟨⟨ok_X2_copyWithOpening, ol_X2_copyWithOpening⟩, ⟨⟨ok_X2_hasBasin, ol_X2_hasBasin⟩, ⟨⟨ok_X2_faultOf, ol_X2_faultOf⟩, ⟨⟨ok_X2_faultOfNewBasin, ol_X2_faultOfNewBasin⟩, ⟨⟨ok_X2_faultAtBasin, ol_X2_faultAtBasin⟩, ⟨⟨ok_X2_faultOfGate, ol_X2_faultOfGate⟩, ⟨⟨ok_X2_faultOfHand, ol_X2_faultOfHand⟩, ⟨⟨ok_X2_faultOfRain, ol_X2_faultOfRain⟩, ⟨⟨ok_X2_faultOfPour, ol_X2_faultOfPour⟩, ⟨⟨ok_X2_faultOfPrediction, ol_X2_faultOfPrediction⟩, ⟨⟨ok_X2_faultOfPlan, ol_X2_faultOfPlan⟩, ⟨⟨ok_X2_carryOut, ol_X2_carryOut⟩, ⟨⟨ok_X2_useNextBasin, ol_X2_useNextBasin⟩, ⟨⟨ok_X2_turnGate, ol_X2_turnGate⟩, ⟨⟨ok_X2_makeAutomatic, ol_X2_makeAutomatic⟩, ⟨⟨ok_X2_makeManual, ol_X2_makeManual⟩, ⟨⟨ok_X2_countAutomatic, ol_X2_countAutomatic⟩, ⟨⟨ok_X2_expectRain, ol_X2_expectRain⟩, ⟨⟨ok_X2_dropForecast, ol_X2_dropForecast⟩, ⟨⟨ok_X2_pourInto, ol_X2_pourInto⟩, ⟨⟨ok_X2_passSteps, ol_X2_passSteps⟩, ⟨⟨ok_X2_passStep, ol_X2_passStep⟩, ⟨⟨ok_X2_takeRain, ol_X2_takeRain⟩, ⟨⟨ok_X2_rainDown, ol_X2_rainDown⟩, ⟨⟨ok_X2_flowDown, ol_X2_flowDown⟩, ⟨⟨ok_X2_rankOf, ol_X2_rankOf⟩, ⟨⟨ok_X2_isRankedBefore, ol_X2_isRankedBefore⟩, ⟨⟨ok_X2_levelsFit, ol_X2_levelsFit⟩, ⟨⟨ok_X2_sumOfLevels, ol_X2_sumOfLevels⟩, ⟨⟨ok_X2_balanceOfAccounts, ol_X2_balanceOfAccounts⟩, ⟨⟨ok_X2_sumOfFloodedSteps, ol_X2_sumOfFloodedSteps⟩, ⟨⟨ok_X5_init, ol_X5_init⟩, trivial⟩⟩⟩⟩⟩⟩⟩⟩⟩⟩⟩⟩⟩⟩⟩⟩⟩⟩⟩⟩⟩⟩⟩⟩⟩⟩⟩⟩⟩⟩⟩⟩⟩⟩⟩⟩⟩⟩⟩⟩
theorem mv_all1 : mv_all mv_tb1 mv_ms1 := ⟨⟨ok_X5_remember, ol_X5_remember⟩, ⟨⟨ok_X6_init, ol_X6_init⟩, ⟨⟨ok_X6_put, ol_X6_put⟩, ⟨⟨ok_X6_putNumber, ol_X6_putNumber⟩, ⟨⟨ok_X6_putDigit, ol_X6_putDigit⟩, ⟨⟨ok_X7_init, ol_X7_init⟩, ⟨⟨ok_X7_leastOfAll, ol_X7_leastOfAll⟩, ⟨⟨ok_X7_leastByCutting, ol_X7_leastByCutting⟩, ⟨⟨ok_X7_lowestFirstOpening, ol_X7_lowestFirstOpening⟩, ⟨⟨ok_X7_leastFrom, ol_X7_leastFrom⟩, ⟨⟨ok_X7_leastBelow, ol_X7_leastBelow⟩, ⟨⟨ok_X8_init, ol_X8_init⟩, ⟨⟨ok_X9_init, ol_X9_init⟩, ⟨⟨ok_X9_include, ol_X9_include⟩, ⟨⟨ok_X9_sumOfBags, ol_X9_sumOfBags⟩, ⟨⟨ok_X9_bestByTable, ol_X9_bestByTable⟩, ⟨⟨ok_X9_improveTable, ol_X9_improveTable⟩, ⟨⟨ok_X9_bestBySets, ol_X9_bestBySets⟩, ⟨⟨ok_X9_bagsOfSet, ol_X9_bagsOfSet⟩, ⟨⟨ok_X9_valueOfSet, ol_X9_valueOfSet⟩, ⟨⟨ok_X10_init, ol_X10_init⟩, ⟨⟨ok_X10_addBasin, ol_X10_addBasin⟩, ⟨⟨ok_X10_setGate, ol_X10_setGate⟩, ⟨⟨ok_X10_setAutomatic, ol_X10_setAutomatic⟩, ⟨⟨ok_X10_setManual, ol_X10_setManual⟩, ⟨⟨ok_X10_addRain, ol_X10_addRain⟩, ⟨⟨ok_X10_clearForecast, ol_X10_clearForecast⟩, ⟨⟨ok_X10_pour, ol_X10_pour⟩, ⟨⟨ok_X10_advance, ol_X10_advance⟩, ⟨⟨ok_X10_change, ol_X10_change⟩, ⟨⟨ok_X10_basinCount, ol_X10_basinCount⟩, ⟨⟨ok_X10_capacity, ol_X10_capacity⟩, ⟨⟨ok_X10_level, ol_X10_level⟩, ⟨⟨ok_X10_fieldValue, ol_X10_fieldValue⟩, ⟨⟨ok_X10_opening, ol_X10_opening⟩, ⟨⟨ok_X10_isAutomatic, ol_X10_isAutomatic⟩, ⟨⟨ok_X10_threshold, ol_X10_threshold⟩, ⟨⟨ok_X10_spilled, ol_X10_spilled⟩, ⟨⟨ok_X10_floodedSteps, ol_X10_floodedSteps⟩, ⟨⟨ok_X10_basinAtRank, ol_X10_basinAtRank⟩, trivial⟩⟩⟩⟩⟩⟩⟩⟩⟩⟩⟩⟩⟩⟩⟩⟩⟩⟩⟩⟩⟩⟩⟩⟩⟩⟩⟩⟩⟩⟩⟩⟩⟩⟩⟩⟩⟩⟩⟩⟩
theorem mv_all2 : mv_all mv_tb2 mv_ms2 := ⟨⟨ok_X10_time, ol_X10_time⟩, ⟨⟨ok_X10_forecastLength, ol_X10_forecastLength⟩, ⟨⟨ok_X10_rainAt, ol_X10_rainAt⟩, ⟨⟨ok_X10_stored, ol_X10_stored⟩, ⟨⟨ok_X10_storedByAccounts, ol_X10_storedByAccounts⟩, ⟨⟨ok_X10_riverTotal, ol_X10_riverTotal⟩, ⟨⟨ok_X10_meanFill, ol_X10_meanFill⟩, ⟨⟨ok_X10_floodShare, ol_X10_floodShare⟩, ⟨⟨ok_X10_levelAfter, ol_X10_levelAfter⟩, ⟨⟨ok_X10_spillOf, ol_X10_spillOf⟩, ⟨⟨ok_X10_stepsUntilFlood, ol_X10_stepsUntilFlood⟩, ⟨⟨ok_X10_lookAhead, ol_X10_lookAhead⟩, ⟨⟨ok_X10_expectedSpill, ol_X10_expectedSpill⟩, ⟨⟨ok_X10_leastSpill, ol_X10_leastSpill⟩, ⟨⟨ok_X10_leastSpillByPruning, ol_X10_leastSpillByPruning⟩, ⟨⟨ok_X10_bestOpening, ol_X10_bestOpening⟩, ⟨⟨ok_X10_endangered, ol_X10_endangered⟩, ⟨⟨ok_X10_bestProtection, ol_X10_bestProtection⟩, ⟨⟨ok_X10_bestProtectionBySets, ol_X10_bestProtectionBySets⟩, ⟨⟨ok_X10_bagsForAll, ol_X10_bagsForAll⟩, ⟨⟨ok_X10_isConsistent, ol_X10_isConsistent⟩, ⟨⟨ok_X10_gatherEndangered, ol_X10_gatherEndangered⟩, ⟨⟨ok_X10_leastSpillsAgree, ol_X10_leastSpillsAgree⟩, ⟨⟨ok_X10_protectionsAgree, ol_X10_protectionsAgree⟩, ⟨⟨ok_X10_writeChain, ol_X10_writeChain⟩, ⟨⟨ok_X10_writeForecast, ol_X10_writeForecast⟩, ⟨⟨ok_X10_outputAt, ol_X10_outputAt⟩, ⟨⟨ok_X10_writeBasin, ol_X10_writeBasin⟩, ⟨⟨ok_X10_existingBasin, ol_X10_existingBasin⟩, ⟨⟨ok_X10_faultOfRange, ol_X10_faultOfRange⟩, ⟨⟨ok_X10_throwFor, ol_X10_throwFor⟩, ⟨⟨ok_L_cell, ol_L_cell⟩, ⟨⟨ok_L_some, ol_L_some⟩, ⟨⟨ok_L_addBasin, ol_L_addBasin⟩, ⟨⟨ok_L_setGate, ol_L_setGate⟩, ⟨⟨ok_L_setAutomatic, ol_L_setAutomatic⟩, ⟨⟨ok_L_setManual, ol_L_setManual⟩, ⟨⟨ok_L_addRain, ol_L_addRain⟩, ⟨⟨ok_L_pour, ol_L_pour⟩, ⟨⟨ok_L_advance, ol_L_advance⟩, trivial⟩⟩⟩⟩⟩⟩⟩⟩⟩⟩⟩⟩⟩⟩⟩⟩⟩⟩⟩⟩⟩⟩⟩⟩⟩⟩⟩⟩⟩⟩⟩⟩⟩⟩⟩⟩⟩⟩⟩⟩
theorem mv_all3 : mv_all mv_tb3 mv_ms3 := ⟨⟨ok_L_threshold, ol_L_threshold⟩, ⟨⟨ok_L_basinAtRank, ol_L_basinAtRank⟩, ⟨⟨ok_L_rainAt, ol_L_rainAt⟩, ⟨⟨ok_L_stepsUntilFlood, ol_L_stepsUntilFlood⟩, ⟨⟨ok_L_build, ol_L_build⟩, ⟨⟨ok_L_acts, ol_L_acts⟩, trivial⟩⟩⟩⟩⟩⟩
theorem mv_alls : mv_all mv_tbs mv_ms := mv_all_app mv_all0 (mv_all_app mv_all1 (mv_all_app mv_all2 (mv_all3)))
theorem mv_all_at : ∀ {a : List (List (Nat × mv_I))} {b : List mv_J} {M : Nat} {t : List (Nat × mv_I)}, mv_all a b → a[M]? = some t → ∃ j, b[M]? = some j ∧ t.all (mv_ok j.1 j.2.1.cls) = true ∧ t.all mv_lok = true
  | [], [], _, _, _, h => by simp at h
  | [], _ :: _, _, _, h, _ => h.elim
  | _ :: _, [], _, _, h, _ => h.elim
  | _ :: _, j :: _, 0, _, h, h2 => by
    simp only [List.getElem?_cons_zero, Option.some.injEq] at h2
    subst h2
    exact ⟨j, rfl, h.1.1, h.1.2⟩
  | _ :: _, _ :: _, M + 1, _, h, h2 => by
    simp only [List.getElem?_cons_succ] at h2 ⊢
    exact mv_all_at h.2 h2
def mv_find (pc : Nat) : List (Nat × mv_I) → Option mv_I
  | [] => none
  | (j, r) :: l => if j = pc then some r else mv_find pc l
/-- the row at pc of method M -/
noncomputable def mv_in (M pc : Nat) : Option mv_I := mv_find pc (mv_tb M)
theorem mv_find_mem : ∀ {l : List (Nat × mv_I)} {pc : Nat} {r : mv_I}, mv_find pc l = some r → (pc, r) ∈ l
  | [], _, _, h => by simp [mv_find] at h
  | (j, r') :: l, pc, r, h => by
    unfold mv_find at h
    split at h
    · next e => cases h; subst e; exact List.mem_cons_self
    · exact List.mem_cons_of_mem _ (mv_find_mem h)
/-- a row that the small machine reads: what its bytecode is -/
theorem mv_row {M pc : Nat} {r : mv_I} (h : mv_in M pc = some r) : mv_ok (mv_mi M).1 (mv_mi M).2.1.cls (pc, r) = true ∧ mv_lok (pc, r) = true := by
  unfold mv_in mv_tb at h
  have hm := mv_find_mem h
  cases ht : mv_tbs[M]? with
  | none => rw [List.getD_eq_getElem?_getD, ht] at hm; simp at hm
  | some t =>
    obtain ⟨j, hj, h1, h2⟩ := mv_all_at mv_alls ht
    rw [List.getD_eq_getElem?_getD, ht] at hm
    have e : mv_mi M = j := by unfold mv_mi; rw [List.getD_eq_getElem?_getD, hj]; rfl
    rw [e]
    exact ⟨List.all_eq_true.mp h1 _ hm, List.all_eq_true.mp h2 _ hm⟩
/-- the words of a method: its code, that it is static or not, its selection, its class -/
noncomputable def mv_mok (j : mv_J) : Bool := match j with
  | (bs, y, ml, rt, c, i, sl, n, fl) => (if fl < 2 then decide (lw_tbl[c]? = some (.code y bs ml rt)) else (match lw_tbl[c]? with | some (.codeWith y' bs' ml' rt' _) => decide (y' = y) && decide (bs' = bs) && decide (ml' = ml) && decide (rt' = rt) | _ => false))
    && (if fl % 2 = 1 then decide (lw_tbl[i]? = some (.static y)) else decide (lw_tbl[i]? = some (.instanceMethod y)))
    && (decide (sl = 0) || decide (lw_tbl[sl]? = some (.selects y.cls y y))) && decide (lw_tbl[n]? = some (.initialized y.cls)) && plainName y.cls && decide (y.cls ≠ "java/lang/invoke/MethodHandle") && decide (y.cls ≠ "java/lang/invoke/VarHandle")
theorem mv_mok0_0 : ((mv_ms0.drop 0).take 10).all mv_mok = true := by decide +kernel
theorem mv_mok0_10 : ((mv_ms0.drop 10).take 10).all mv_mok = true := by decide +kernel
theorem mv_mok0_20 : ((mv_ms0.drop 20).take 10).all mv_mok = true := by decide +kernel
theorem mv_mok0_30 : ((mv_ms0.drop 30).take 10).all mv_mok = true := by decide +kernel
theorem mv_mok1_0 : ((mv_ms1.drop 0).take 10).all mv_mok = true := by decide +kernel
theorem mv_mok1_10 : ((mv_ms1.drop 10).take 10).all mv_mok = true := by decide +kernel
theorem mv_mok1_20 : ((mv_ms1.drop 20).take 10).all mv_mok = true := by decide +kernel
theorem mv_mok1_30 : ((mv_ms1.drop 30).take 10).all mv_mok = true := by decide +kernel
theorem mv_mok2_0 : ((mv_ms2.drop 0).take 10).all mv_mok = true := by decide +kernel
theorem mv_mok2_10 : ((mv_ms2.drop 10).take 10).all mv_mok = true := by decide +kernel
theorem mv_mok2_20 : ((mv_ms2.drop 20).take 10).all mv_mok = true := by decide +kernel
theorem mv_mok2_30 : ((mv_ms2.drop 30).take 10).all mv_mok = true := by decide +kernel
theorem mv_mok3_0 : ((mv_ms3.drop 0).take 10).all mv_mok = true := by decide +kernel
theorem mv_mok3_10 : ((mv_ms3.drop 10).take 10).all mv_mok = true := by decide +kernel
theorem mv_mok3_20 : ((mv_ms3.drop 20).take 10).all mv_mok = true := by decide +kernel
theorem mv_mok3_30 : ((mv_ms3.drop 30).take 10).all mv_mok = true := by decide +kernel
end
section
/-! THE SMALL MACHINE: what the rows of 03.code do over objects by number. A reference is an object's number (0..148: made by the run in this order; 1000 and on: constants; 2000: the script). -/
abbrev mv_V : Type := List (Nat × Value)
abbrev mv_H : Type := Nat → Nat → Value
/-- how often something was thrown, how many objects there are, what they hold -/
abbrev mv_S : Type := Nat × Nat × mv_H
abbrev mv_R : Type := (Option Value ⊕ Nat) × mv_S
abbrev mv_A : Type := (Nat × mv_V × List Value × mv_S) ⊕ (mv_R ⊕ (Nat × List Value × List Value))
def mv_ck (x : Nat) : Nat × Nat := if x % 8 = 0 then (1, 8) else if x % 8 = 1 then (24, 5) else if x % 8 = 2 then (20, 12) else (0, 9)
/-- the kind of each object, by its number, and its length -/
def mv_kd (o : Nat) : Nat × Nat :=
  if o < 33 then (if o = 0 then (7, 12) else mv_ck (o - 1)) else if o < 99 then (if o = 33 then (2, 3) else if o = 34 then (25, 8) else mv_ck (o - 35))
  else if o < 133 then (if o = 99 then (4, 1) else if o = 100 then (25, 4) else mv_ck (o - 101))
  else if o = 133 then (6, 4) else if o = 134 then (20, 5) else if o = 135 then (20, 5) else if o = 136 then (20, 100)
  else if o = 137 then (5, 6) else if o = 138 then (21, 60) else if o = 139 then (20, 3) else if o = 140 then (3, 2) else if o = 141 then (21, 54)
  else if o = 142 then (8, 16) else if o = 143 then (20, 1071) else if o = 144 then (21, 60) else if o = 145 then (20, 244) else if o = 146 then (21, 120)
  else if o = 147 then (22, 1) else (23, 1)
def mv_up (h : mv_H) (o k : Nat) (v : Value) : mv_H := fun p j => if p = o ∧ j = k then v else h p j
def mv_upo (h : mv_H) (o : Nat) (f : Nat → Value) : mv_H := fun p j => if p = o then f j else h p j
def mv_is (n o c : Nat) : Bool := decide (o < n) && decide ((mv_kd o).1 = c)
def mv_ix (i : Int32) (n : Nat) : Bool := decide (¬ (i < 0 ∨ n ≤ i.toNatClampNeg))
def mv_f1 (i : Nat) (ls : mv_V) : mv_V := ls.filter (fun q => !(q.1 == i) && !(q.1 + 1 == i && q.2.category == 2))
def mv_f2 (i : Nat) (ls : mv_V) : mv_V := ls.filter (fun q => !(q.1 == i) && (!(q.1 == i + 1) && !(q.1 + 1 == i && q.2.category == 2)))
def mv_lk (i : Nat) : mv_V → Option Value
  | [] => none
  | (j, v) :: l => if j = i then some v else mv_lk i l
def mv_nx (pc : Nat) (ls : mv_V) (st : List Value) (σ : mv_S) : Option mv_A := some (.inl (pc, ls, st, σ))
/-- the type of each slot -/
def mv_ty (a k : Nat) : FieldType := match a with
  | 0 => tyX1 k | 1 => tyX2 k | 2 => tyX5 k | 3 => tyX6 k | 4 => tyX7 k | 5 => tyX8 k | 6 => tyX9 k | 7 => tyX10 k | 8 => tyJ4 k | _ => tyJ0 k
def mv_fin (a k : Nat) : Bool := match a with
  | 0 => (TX1 k).2.2.2 | 1 => (TX2 k).2.2.2 | 2 => (TX5 k).2.2.2 | 3 => (TX6 k).2.2.2 | 4 => (TX7 k).2.2.2 | 5 => (TX8 k).2.2.2 | 6 => (TX9 k).2.2.2 | 7 => (TX10 k).2.2.2 | 8 => (TJ4 k).2.2.2 | _ => (TJ0 k).2.2.2
/-- a value fits its slot -/
def mv_fit (ty : FieldType) (v : Value) : Bool := match ty, v with
  | .int, .int _ => true
  | .boolean, .int x => decide (x = 0) || decide (x = 1)
  | .long, .long _ => true
  | .object _, .ref _ => true
  | .array _, .ref _ => true
  | _, _ => false
def mv_ch (x : Int32) : Int32 := (x.toUInt32 % 65536).toInt32
/-- the compiler's row for a switch over the commands -/
def mv_sm (i : Nat) : Nat := if i < 5 then i + 1 else if i = 5 then 0 else i
def mv_cmp (c : ClassFile.Cond) (x y : Int32) : Bool := match c with
  | .eq => decide (x = y) | .ne => decide (¬ x = y) | .lt => decide (x < y) | .ge => decide (y ≤ x) | .gt => decide (y < x) | .le => decide (x ≤ y)
/-- the kind of the objects of each method's class (99: the law's own) -/
noncomputable def mv_cns : List Nat := [0, 0, 0, 0, 0, 0, 1, 1, 1, 1, 1, 1, 1, 1, 1, 1, 1, 1, 1, 1, 1, 1, 1, 1, 1, 1, 1, 1, 1, 1, 1, 1, 1, 1, 1, 1, 1, 1, 1, 2, 2, 3, 3, 3, 3, 4, 4, 4, 4, 4, 4, 5, 6, 6, 6, 6, 6, 6, 6, 6, 7, 7, 7, 7, 7, 7, 7, 7, 7, 7, 7, 7, 7, 7, 7, 7, 7, 7, 7, 7, 7, 7, 7, 7, 7, 7, 7, 7, 7, 7, 7, 7, 7, 7, 7, 7, 7, 7, 7, 7, 7, 7, 7, 7, 7, 7, 7, 7, 7, 7, 7, 99, 99, 99, 99, 99, 99, 99, 99, 99, 99, 99, 99, 99, 99, 99]
noncomputable def mv_cn (M : Nat) : Nat := mv_cns.getD M 99
noncomputable def mv_rcv (as : List Value) (n a : Nat) : Bool := match as with
  | .ref o :: _ => mv_is n o (mv_cn a)
  | _ => false
def mv_ac (c : ClassFile.ACond) (x y : Nat) : Bool := match c with | .eq => decide (x = y) | .ne => decide (¬ x = y)
section MV
variable (L : Nat) (xs : Nat → Int32)
/-- a load: of ints, longs, floats, doubles, references (null too) -/
def mv_ld (t : Nat) (v : Option Value) (nx : Nat) (ls : mv_V) (st : List Value) (σ : mv_S) : Option mv_A := match t, v with
  | 0, some (.int x) => mv_nx nx ls (.int x :: st) σ
  | 1, some (.long x) => mv_nx nx ls (.long x :: st) σ
  | 2, some (.float x) => mv_nx nx ls (.float x :: st) σ
  | 3, some (.double x) => mv_nx nx ls (.double x :: st) σ
  | 4, some (.ref x) => mv_nx nx ls (.ref x :: st) σ
  | 4, some .null => mv_nx nx ls (.null :: st) σ
  | _, _ => none
def mv_so (t i nx : Nat) (ls : mv_V) (st : List Value) (σ : mv_S) : Option mv_A := match t, st with
  | 0, .int x :: st => mv_nx nx ((i, .int x) :: mv_f1 i ls) st σ
  | 1, .long x :: st => mv_nx nx ((i, .long x) :: mv_f2 i ls) st σ
  | 2, .float x :: st => mv_nx nx ((i, .float x) :: mv_f1 i ls) st σ
  | 3, .double x :: st => mv_nx nx ((i, .double x) :: mv_f2 i ls) st σ
  | 4, .ref x :: st => mv_nx nx ((i, .ref x) :: mv_f1 i ls) st σ
  | 4, .null :: st => mv_nx nx ((i, .null) :: mv_f1 i ls) st σ
  | _, _ => none
def mv_get (a b nx : Nat) (ls : mv_V) (st : List Value) (σ : mv_S) : Option mv_A := match st with
  | .ref o :: st => if mv_is σ.2.1 o a = true then mv_nx nx ls (σ.2.2 o b :: st) σ else none
  | _ => none
def mv_put (a b nx : Nat) (ls : mv_V) (st : List Value) (σ : mv_S) : Option mv_A := match st with
  | v :: .ref o :: st => if mv_is σ.2.1 o a = true ∧ mv_fit (mv_ty a b) v = true then mv_nx nx ls st (σ.1, σ.2.1, mv_up σ.2.2 o b v) else none
  | _ => none
/-- a load out of an array of kind t -/
def mv_al (t nx : Nat) (ls : mv_V) (st : List Value) (σ : mv_S) : Option mv_A := match st with
  | .int i :: .ref o :: st =>
    if o < 142 then
      (if mv_is σ.2.1 o t = true ∧ mv_ix i (mv_kd o).2 = true then match t, σ.2.2 o i.toNatClampNeg with
        | 20, .int x => mv_nx nx ls (.int x :: st) σ
        | 21, .int x => mv_nx nx ls (.int x :: st) σ
        | 24, .ref x => mv_nx nx ls (.ref x :: st) σ
        | 25, .ref x => mv_nx nx ls (.ref x :: st) σ
        | _, _ => none else none)
    else if o = 1021 then (if t = 20 ∧ mv_ix i 8 = true then mv_nx nx ls (.int (nI (mv_sm i.toNatClampNeg)) :: st) σ else none)
    else if o = 2000 then (if t = 20 ∧ mv_ix i L = true then mv_nx nx ls (.int (xs i.toNatClampNeg) :: st) σ else none)
    else none
  | _ => none
/-- an aaload: the kind by the object -/
def mv_aa (nx : Nat) (ls : mv_V) (st : List Value) (σ : mv_S) : Option mv_A := match st with
  | .int _ :: .ref o :: _ => if o < 142 ∧ ¬ (mv_kd o).1 = 24 ∧ ¬ (mv_kd o).1 = 25 then none else mv_al L xs (if o < 142 then (mv_kd o).1 else 24) nx ls st σ
  | _ => none
def mv_as (t nx : Nat) (ls : mv_V) (st : List Value) (σ : mv_S) : Option mv_A := match st with
  | v :: .int i :: .ref o :: st =>
    if σ.2.1 = 142 ∧ mv_is σ.2.1 o t = true ∧ mv_ix i (mv_kd o).2 = true then match t, v with
      | 20, .int x => mv_nx nx ls st (σ.1, σ.2.1, mv_up σ.2.2 o i.toNatClampNeg (.int x))
      | 21, .int x => mv_nx nx ls st (σ.1, σ.2.1, mv_up σ.2.2 o i.toNatClampNeg (.int (mv_ch x)))
      | _, _ => none else none
  | _ => none
/-- an aastore: of a Basin into a row of Basins, of a Chain into a row of Chains -/
def mv_aas (nx : Nat) (ls : mv_V) (st : List Value) (σ : mv_S) : Option mv_A := match st with
  | .ref v :: .int i :: .ref o :: st =>
    if o < σ.2.1 ∧ v < σ.2.1 ∧ mv_ix i (mv_kd o).2 = true ∧ (((mv_kd o).1 = 24 ∧ (mv_kd v).1 = 0) ∨ ((mv_kd o).1 = 25 ∧ (mv_kd v).1 = 1)) then mv_nx nx ls st (σ.1, σ.2.1, mv_up σ.2.2 o i.toNatClampNeg (.ref v)) else none
  | _ => none
def mv_len (nx : Nat) (ls : mv_V) (st : List Value) (σ : mv_S) : Option mv_A := match st with
  | .ref o :: st => if o < 142 then (if o < σ.2.1 ∧ 20 ≤ (mv_kd o).1 then mv_nx nx ls (.int (nI (mv_kd o).2) :: st) σ else none)
    else if o = 2000 then mv_nx nx ls (.int (nI L) :: st) σ else none
  | _ => none
def mv_new (a nx : Nat) (ls : mv_V) (st : List Value) (σ : mv_S) : Option mv_A :=
  if a = 99 then none else if σ.2.1 < 142 ∧ a < 8 ∧ (mv_kd σ.2.1).1 = a then mv_nx nx ls (.ref σ.2.1 :: st) (σ.1, σ.2.1 + 1, mv_upo σ.2.2 σ.2.1 (fun k => defaultValue (mv_ty a k))) else none
def mv_dv (a : Nat) : Value := if a = 22 then .long 0 else if a = 23 then .double 0 else if a = 24 then .null else if a = 25 then .null else .int 0
def mv_nwa (a nx : Nat) (ls : mv_V) (st : List Value) (σ : mv_S) : Option mv_A := match st with
  | .int x :: st => if σ.2.1 < 142 ∧ ¬ x < 0 ∧ (a = 20 ∨ a = 21 ∨ a = 24 ∨ a = 25) ∧ mv_kd σ.2.1 = (a, x.toNatClampNeg) then mv_nx nx ls (.ref σ.2.1 :: st) (σ.1, σ.2.1 + 1, mv_upo σ.2.2 σ.2.1 (fun _ => mv_dv a)) else none
  | _ => none
def mv_sw2 (p nx : Nat) (d lo hi : Int) (offs : Array Int) (ls : mv_V) (st : List Value) (σ : mv_S) : Option mv_A := match st with
  | .int x :: st => if x.toInt < lo ∨ hi < x.toInt then (if 0 ≤ (p : Int) + d then mv_nx ((p : Int) + d).toNat ls st σ else none)
    else match offs[(x.toInt - lo).toNat]? with
      | some off => if 0 ≤ (p : Int) + off then mv_nx ((p : Int) + off).toNat ls st σ else none
      | none => none
  | _ => none
/-- a call: of a method of 03.code, or of one of the JDK's -/
noncomputable def mv_call (kk : Nat) (a b nx : Nat) (ls : mv_V) (st : List Value) (σ : mv_S) : Option mv_A :=
  if a < 900 then (if b ≤ st.length ∧ ((st.drop b).map (fun v => v.category)).sum ≤ 8 ∧ ((st.take b).all (fun v => decide (v.category = 1))) = true ∧ (kk = 0 ∨ mv_rcv ((st.take b).reverse) σ.2.1 a = true)
    then some (.inr (.inr (a, (st.take b).reverse, st.drop b))) else none)
  else match kk, a, st with
  | 0, 900, .int y :: .int x :: st => if (st.map (fun v => v.category)).sum ≤ 8 then mv_nx nx ls (.int (if y < x then y else x) :: st) σ else none
  | 0, 901, .int y :: .int x :: st => if (st.map (fun v => v.category)).sum ≤ 8 then mv_nx nx ls (.int (if x < y then y else x) :: st) σ else none
  | 1, 902, .ref o :: st => if 1000 ≤ o ∧ o < 1008 ∧ (st.map (fun v => v.category)).sum ≤ 8 then mv_nx nx ls (.int (nI (o - 1000)) :: st) σ else none
  | 2, 905, .ref _ :: st => if (st.map (fun v => v.category)).sum ≤ 8 then mv_nx nx ls st σ else none
  | _, _, _ => none
def mv_r1 (a : Nat) (st : List Value) (σ : mv_S) : Option mv_A := match st with
  | [.int v] => if a = 0 ∨ (a = 1 ∧ (v = 0 ∨ v = 1)) ∨ (a = 2 ∧ mv_ch v = v) then some (.inr (.inl (.inl (some (.int v)), σ))) else none
  | _ => none
def mv_rt (v : Option Value) (σ : mv_S) : Option mv_A := some (.inr (.inl (.inl v, σ)))
def mv_n64 (x : UInt64) : Bool := decide (x &&& 0x7fffffffffffffff ≤ 0x7ff0000000000000)
def mv_n32 (x : UInt32) : Bool := decide (x &&& 0x7fffffff ≤ 0x7f800000)
/-- one row -/
noncomputable def mv_stp (r : mv_I) (ls : mv_V) (st : List Value) (σ : mv_S) : Option mv_A := match r with
  | (i, nx, a, b, _) => match i, st with
    | .iconst n, st => mv_nx nx ls (.int (Int32.ofInt n) :: st) σ
    | .bipush n, st => mv_nx nx ls (.int (Int8.ofInt n).toInt32 :: st) σ
    | .sipush n, st => mv_nx nx ls (.int (Int16.ofInt n).toInt32 :: st) σ
    | .ldc _, st => if a = 1 then mv_nx nx ls (.int (Int32.ofNat b) :: st) σ else none
    | .lconst n, st => mv_nx nx ls (.long (Int64.ofNat (n : Nat)) :: st) σ
    | .dconst n, st => if n = 0 then mv_nx nx ls (.double 0 :: st) σ else none
    | .fconst n, st => if n = 0 then mv_nx nx ls (.float 0 :: st) σ else none
    | .aconst_null, st => mv_nx nx ls (.null :: st) σ
    | .iload_n k, st => mv_ld 0 (mv_lk k ls) nx ls st σ
    | .iload k, st => mv_ld 0 (mv_lk k ls) nx ls st σ
    | .lload_n k, st => mv_ld 1 (mv_lk k ls) nx ls st σ
    | .fload k, st => mv_ld 2 (mv_lk k ls) nx ls st σ
    | .dload_n k, st => mv_ld 3 (mv_lk k ls) nx ls st σ
    | .dload k, st => mv_ld 3 (mv_lk k ls) nx ls st σ
    | .aload_n k, st => mv_ld 4 (mv_lk k ls) nx ls st σ
    | .aload k, st => mv_ld 4 (mv_lk k ls) nx ls st σ
    | .istore_n k, st => mv_so 0 k nx ls st σ
    | .istore k, st => mv_so 0 k nx ls st σ
    | .lstore_n k, st => mv_so 1 k nx ls st σ
    | .fstore k, st => mv_so 2 k nx ls st σ
    | .dstore_n k, st => mv_so 3 k nx ls st σ
    | .dstore k, st => mv_so 3 k nx ls st σ
    | .astore_n k, st => mv_so 4 k nx ls st σ
    | .astore k, st => mv_so 4 k nx ls st σ
    | .iinc k n, st => match mv_lk k ls with
      | some (.int x) => mv_nx nx ((k, .int (x + Int32.ofInt n)) :: mv_f1 k ls) st σ
      | _ => none
    | .iadd, .int y :: .int x :: st => mv_nx nx ls (.int (x + y) :: st) σ
    | .isub, .int y :: .int x :: st => mv_nx nx ls (.int (x - y) :: st) σ
    | .imul, .int y :: .int x :: st => mv_nx nx ls (.int (x * y) :: st) σ
    | .idiv, .int y :: .int x :: st => if y = 0 then none else mv_nx nx ls (.int (x / y) :: st) σ
    | .irem, .int y :: .int x :: st => if y = 0 then none else mv_nx nx ls (.int (x - x / y * y) :: st) σ
    | .ineg, .int x :: st => mv_nx nx ls (.int (-x) :: st) σ
    | .iand, .int y :: .int x :: st => mv_nx nx ls (.int (x &&& y) :: st) σ
    | .ishl, .int y :: .int x :: st => mv_nx nx ls (.int (x <<< (y &&& 31)) :: st) σ
    | .ishr, .int y :: .int x :: st => mv_nx nx ls (.int (x >>> (y &&& 31)) :: st) σ
    | .iushr, .int y :: .int x :: st => mv_nx nx ls (.int (x.toUInt32 >>> (y.toUInt32 &&& (31 : Int32).toUInt32)).toInt32 :: st) σ
    | .ladd, .long y :: .long x :: st => mv_nx nx ls (.long (x + y) :: st) σ
    | .lsub, .long y :: .long x :: st => mv_nx nx ls (.long (x - y) :: st) σ
    | .lcmp, .long y :: .long x :: st => mv_nx nx ls (.int (lg_cmp x y) :: st) σ
    | .i2l, .int x :: st => mv_nx nx ls (.long x.toInt64 :: st) σ
    | .l2i, .long x :: st => mv_nx nx ls (.int x.toInt32 :: st) σ
    | .i2c, .int x :: st => mv_nx nx ls (.int (mv_ch x) :: st) σ
    | .i2d, .int x :: st => mv_nx nx ls (.double (FP.i2d x) :: st) σ
    | .i2f, .int x :: st => mv_nx nx ls (.float (FP.i2f x) :: st) σ
    | .f2d, .float x :: st => if mv_n64 (FP.f2d x) = true then mv_nx nx ls (.double (FP.f2d x) :: st) σ else none
    | .dadd, .double y :: .double x :: st => if mv_n64 (FP.dadd x y) = true then mv_nx nx ls (.double (FP.dadd x y) :: st) σ else none
    | .ddiv, .double y :: .double x :: st => if mv_n64 (FP.ddiv x y) = true then mv_nx nx ls (.double (FP.ddiv x y) :: st) σ else none
    | .fdiv, .float y :: .float x :: st => if mv_n32 (FP.fdiv x y) = true then mv_nx nx ls (.float (FP.fdiv x y) :: st) σ else none
    | .dcmp o, .double y :: .double x :: st => mv_nx nx ls (.int (Op.cmpValue (FP.dcmp x y) o) :: st) σ
    | .fcmp o, .float y :: .float x :: st => mv_nx nx ls (.int (Op.cmpValue (FP.fcmp x y) o) :: st) σ
    | .dup, v :: st => if v.category = 1 then mv_nx nx ls (v :: v :: st) σ else none
    | .dup2, v :: u :: st => if v.category = 1 ∧ u.category = 1 then mv_nx nx ls (v :: u :: v :: u :: st) σ else none
    | .pop, v :: st => if v.category = 1 then mv_nx nx ls st σ else none
    | .goto _, st => mv_nx a ls st σ
    | .if_icmp c _, .int y :: .int x :: st => mv_nx (if mv_cmp c x y = true then a else nx) ls st σ
    | .ifCond c _, .int x :: st => mv_nx (if mv_cmp c x 0 = true then a else nx) ls st σ
    | .if_acmp c _, .ref y :: .ref x :: st => if 1000 ≤ x ∧ x < 1014 ∧ 1000 ≤ y ∧ y < 1014 then mv_nx (if mv_ac c x y = true then a else nx) ls st σ else none
    | .ifnonnull _, .ref _ :: st => mv_nx a ls st σ
    | .ifnonnull _, .null :: st => mv_nx nx ls st σ
    | .getfield _, st => mv_get a b nx ls st σ
    | .putfield _, st => mv_put a b nx ls st σ
    | .getstatic _, st => mv_nx nx ls (.ref a :: st) σ
    | .iaload, st => mv_al L xs 20 nx ls st σ
    | .caload, st => mv_al L xs 21 nx ls st σ
    | .aaload, st => mv_aa L xs nx ls st σ
    | .iastore, st => mv_as 20 nx ls st σ
    | .castore, st => mv_as 21 nx ls st σ
    | .aastore, st => mv_aas nx ls st σ
    | .arraylength, st => mv_len L nx ls st σ
    | .new _, st => if a = 99 then (if σ.2.1 = 142 ∧ (st.map (fun v => v.category)).sum ≤ 8 then some (.inr (.inl (.inr b, (σ.1 + 1, σ.2)))) else none) else mv_new a nx ls st σ
    | .newarray _, st => mv_nwa a nx ls st σ
    | .anewarray _, st => mv_nwa a nx ls st σ
    | .tableswitch d lo hi offs, st => mv_sw2 a nx d lo hi offs ls st σ
    | .invokevirtual _, st => mv_call 1 a b nx ls st σ
    | .invokestatic _, st => mv_call 0 a b nx ls st σ
    | .invokespecial _, st => mv_call 2 a b nx ls st σ
    | .ireturn, st => mv_r1 a st σ
    | .lreturn, [.long v] => mv_rt (some (.long v)) σ
    | .freturn, [.float v] => mv_rt (some (.float v)) σ
    | .dreturn, [.double v] => mv_rt (some (.double v)) σ
    | .areturn, [.ref v] => mv_rt (some (.ref v)) σ
    | .areturn, [.null] => mv_rt (some .null) σ
    | .return_, [] => mv_rt none σ
    | _, _ => none
/-- where a throw of E at pc goes on in M: behind the store of the thrown thing, and the local that held it -/
def mv_hd1 (pc E : Nat) : List (Nat × Nat × Nat × Nat × Nat × Nat) → Option Nat
  | [] => none
  | (f, t, g, _, e, _) :: l => if f ≤ pc ∧ pc < t ∧ e = E then some g else mv_hd1 pc E l
def mv_hl (M : Nat) : List (Nat × List (Nat × Nat × Nat × Nat × Nat × Nat)) → List (Nat × Nat × Nat × Nat × Nat × Nat)
  | [] => []
  | (k, h) :: l => if k = M then h else mv_hl M l
noncomputable def mv_hd (M pc E : Nat) : Option (Nat × Nat) := match mv_hd1 pc E (mv_hl M mv_hs) with
  | none => none
  | some g => match mv_in M g with
    | some (.astore i, nx, _) => some (nx, i)
    | some (.astore_n i, nx, _) => some (nx, i)
    | _ => none
noncomputable def mv_nh (M : Nat) : Bool := (mv_hl M mv_hs).isEmpty
/-- what follows a call -/
def mv_af (o : Option mv_R) (kv : Option Value → mv_S → Option mv_R) (kx : Nat → mv_S → Option mv_R) : Option mv_R := match o with
  | none => none
  | some (.inl v, σ) => kv v σ
  | some (.inr E, σ) => kx E σ
noncomputable def mv_ex (C : Nat → List Value → mv_S → Option mv_R) : Nat → Nat → Nat → mv_V → List Value → mv_S → Option mv_R
  | 0, _, _, _, _, _ => none
  | f + 1, M, pc, ls, st, σ => match mv_in M pc with
    | none => none
    | some r => match mv_stp L xs r ls st σ with
      | none => none
      | some (.inl (pc', ls', st', σ')) => mv_ex C f M pc' ls' st' σ'
      | some (.inr (.inl q)) => some q
      | some (.inr (.inr (M', as, rest))) => mv_af (C M' as σ) (fun v σ' => mv_ex C f M r.2.1 ls (v.toList ++ rest) σ')
          (fun E σ' => if mv_nh M = true then some (.inr E, σ') else match mv_hd M pc E with
            | some (g, i) => mv_ex C f M g (mv_f1 i ls) [] σ'
            | none => none)
/-- the locals of a frame at its entry: a long or a double takes two places -/
def mv_il : Nat → List Value → mv_V
  | _, [] => []
  | i, v :: l => (i, v) :: mv_il (i + v.category) l
noncomputable def mv_cl : Nat → Nat → List Value → mv_S → Option mv_R
  | 0 => fun _ _ _ => none
  | d + 1 => fun M as σ => @dite _ (∃ r, ∃ f, mv_ex L xs (mv_cl d) f M 0 (mv_il 0 as) [] σ = some r) (Classical.propDecidable _) (fun h => some (Classical.choose h)) (fun _ => none)
end MV
end
section
/-! THE SMALL MACHINE OVER THE JVM: addresses, the world of the objects, what stands still -/
noncomputable def mv_TS : List Cond := lw_tbl.filter goodWord
theorem mv_TS_of {w : Cond} {k : Nat} (h : lw_tbl[k]? = some w) (hg : goodWord w = true) : w ∈ mv_TS := List.mem_filter.mpr ⟨List.mem_of_getElem? h, hg⟩
def mv_ad (z : Nat) (kad : Nat → Nat) (o : Nat) : Nat := if o < 1000 then z + o else kad o
def mv_cv (ad : Nat → Nat) (v : Value) : Value := match v with
  | .ref o => .ref (ad o)
  | v => v
theorem mv_cv_cat (ad : Nat → Nat) (v : Value) : (mv_cv ad v).category = v.category := by cases v <;> rfl
def mv_lm (ad : Nat → Nat) (ls : mv_V) : mv_V := ls.map (fun q => (q.1, mv_cv ad q.2))
theorem mv_lk_mem : ∀ {ls : mv_V} {i : Nat} {v : Value}, mv_lk i ls = some v → (i, v) ∈ ls
  | [], _, _, h => by simp [mv_lk] at h
  | (j, w) :: l, i, v, h => by
    unfold mv_lk at h
    split at h
    · next e => cases h; subst e; exact List.mem_cons_self
    · exact List.mem_cons_of_mem _ (mv_lk_mem h)
theorem mv_lat {ad : Nat → Nat} {lsA : Array Slot} {n : Nat} {ls : mv_V} (h : lv_has lsA n (mv_lm ad ls)) {i : Nat} {v : Value} (hk : mv_lk i ls = some v) : lsA[i]? = some (.val (mv_cv ad v)) :=
  h.2.2 (i, mv_cv ad v) (List.mem_map.mpr ⟨(i, v), mv_lk_mem hk, rfl⟩)
theorem mv_f1_map (ad : Nat → Nat) (i : Nat) (ls : mv_V) : (mv_lm ad ls).filter (fun q => !(q.1 == i) && !(q.1 + 1 == i && q.2.category == 2)) = mv_lm ad (mv_f1 i ls) := by
  simp only [mv_lm, mv_f1, List.filter_map, Function.comp_def, mv_cv_cat]
theorem mv_f2_map (ad : Nat → Nat) (i : Nat) (ls : mv_V) : (mv_lm ad ls).filter (fun q => !(q.1 == i) && (!(q.1 == i + 1) && !(q.1 + 1 == i && q.2.category == 2))) = mv_lm ad (mv_f2 i ls) := by
  simp only [mv_lm, mv_f2, List.filter_map, Function.comp_def, mv_cv_cat]
theorem mv_st1 (ad : Nat → Nat) (i : Nat) (v : Value) (ls : mv_V) : (i, mv_cv ad v) :: (mv_lm ad ls).filter (fun q => !(q.1 == i) && !(q.1 + 1 == i && q.2.category == 2)) = mv_lm ad ((i, v) :: mv_f1 i ls) := by rw [mv_f1_map]; rfl
theorem mv_st2 (ad : Nat → Nat) (i : Nat) (v : Value) (ls : mv_V) : (i, mv_cv ad v) :: (mv_lm ad ls).filter (fun q => !(q.1 == i) && (!(q.1 == i + 1) && !(q.1 + 1 == i && q.2.category == 2))) = mv_lm ad ((i, v) :: mv_f2 i ls) := by rw [mv_f2_map]; rfl
-- the world
def mv_iv (v : Value) : Int32 := match v with | .int x => x | _ => 0
def mv_lv (v : Value) : Int64 := match v with | .long x => x | _ => 0
def mv_bv (v : Value) : UInt64 := match v with | .double x => x | _ => 0
def mv_ov (ad : Nat → Nat) (v : Value) : Option Nat := match v with | .ref o => some (ad o) | _ => none
def mv_ce (ad : Nat → Nat) (cA : Nat → ClassId) (o : Nat) (f : Nat → Value) : va_E :=
  if (mv_kd o).1 < 8 then .inr ((mv_kd o).1, (List.range (mv_kd o).2).map (fun j => mv_cv ad (f j)))
  else .inl (cA (mv_kd o).1, ((mv_kd o).2, if (mv_kd o).1 < 24 then .inl (fun j => mv_iv (f j)) else .inr (.inr (.inr (.inr (fun j => mv_ov ad (f j)))))))
def mv_wl (ad : Nat → Nat) (cA : Nat → ClassId) (wx : va_W) (n : Nat) (h : mv_H) : va_W := (List.range n).map (fun o => (ad o, mv_ce ad cA o (h o))) ++ wx
theorem mv_upo_eq (h : mv_H) (o : Nat) (f : Nat → Value) : mv_upo h o f o = f := by funext j; simp [mv_upo]
theorem mv_upo_ne (h : mv_H) {o p : Nat} (f : Nat → Value) (e : ¬ p = o) : mv_upo h o f p = h p := by funext j; simp [mv_upo, e]
theorem mv_wl_get {ad : Nat → Nat} {cA : Nat → ClassId} {wx : va_W} {n o : Nat} {h : mv_H} (ho : o < n) : (mv_wl ad cA wx n h)[o]? = some (ad o, mv_ce ad cA o (h o)) := by
  unfold mv_wl
  rw [List.getElem?_append_left (by simpa using ho)]
  simp [List.getElem?_map, List.getElem?_range ho]
theorem mv_wl_hi {ad : Nat → Nat} {cA : Nat → ClassId} {wx : va_W} {n j : Nat} {h : mv_H} (hj : ¬ j < n) : (mv_wl ad cA wx n h)[j]? = wx[j - n]? := by
  unfold mv_wl
  rw [List.getElem?_append_right (by simp; omega)]
  simp
theorem mv_wl_len {ad : Nat → Nat} {cA : Nat → ClassId} {wx : va_W} {n : Nat} {h : mv_H} : (mv_wl ad cA wx n h).length = n + wx.length := by simp [mv_wl]
theorem mv_wl_set {ad : Nat → Nat} {cA : Nat → ClassId} {wx : va_W} {n o : Nat} {h : mv_H} (ho : o < n) (f : Nat → Value) : (mv_wl ad cA wx n h).set o (ad o, mv_ce ad cA o f) = mv_wl ad cA wx n (mv_upo h o f) := by
  apply List.ext_getElem?
  intro j
  rw [List.getElem?_set]
  by_cases hj : j < n
  · rw [mv_wl_get hj, mv_wl_get hj, mv_wl_len]
    by_cases e : o = j
    · subst e
      rw [if_pos rfl, if_pos (by omega), mv_upo_eq]
    · have e' : ¬ j = o := fun h => e h.symm
      rw [if_neg e, mv_upo_ne _ _ e']
  · rw [mv_wl_hi hj, mv_wl_hi hj, if_neg (by omega)]
theorem mv_up_o (h : mv_H) (o k : Nat) (v : Value) : mv_up h o k v = mv_upo h o (fun j => if j = k then v else h o j) := by
  funext p j
  by_cases e : p = o
  · subst e; simp [mv_up, mv_upo]
  · simp [mv_up, mv_upo, e]
theorem mv_wl_push {ad : Nat → Nat} {cA : Nat → ClassId} {n : Nat} {h : mv_H} (f : Nat → Value) : mv_wl ad cA [] (n + 1) (mv_upo h n f) = mv_wl ad cA [] n h ++ [(ad n, mv_ce ad cA n f)] := by
  unfold mv_wl
  rw [List.range_succ, List.map_append, List.append_nil, List.append_nil]
  congr 1
  · apply List.map_congr_left
    intro o ho
    have : ¬ o = n := by have := List.mem_range.mp ho; omega
    rw [mv_upo_ne _ _ this]
  · simp [mv_upo_eq]
/-- how many objects there are, and where those beside them lie -/
def mv_Md (z : Nat) (wx : va_W) (n : Nat) : Prop := n ≤ 142 ∧ va_D (fun q => z + 142 ≤ q) wx ∧ (n < 142 → wx = [])
theorem mv_wl_D {z : Nat} {kad : Nat → Nat} {cA : Nat → ClassId} {wx : va_W} {n : Nat} {h : mv_H} (hn : mv_Md z wx n) : va_D (fun q => z ≤ q) (mv_wl (mv_ad z kad) cA wx n h) := by
  have key : ∀ (i : Nat) (p : Nat × va_E), (mv_wl (mv_ad z kad) cA wx n h)[i]? = some p → (i < n ∧ p.1 = z + i) ∨ (¬ i < n ∧ wx[i - n]? = some p ∧ z + 142 ≤ p.1) := by
    intro i p hp
    have hn1 := hn.1
    by_cases hi : i < n
    · rw [mv_wl_get hi] at hp
      cases hp
      refine Or.inl ⟨hi, ?_⟩
      show mv_ad z kad i = z + i
      unfold mv_ad
      rw [if_pos (by omega)]
    · rw [mv_wl_hi hi] at hp
      exact Or.inr ⟨hi, hp, hn.2.1.2 _ _ hp⟩
  refine ⟨fun i j p q hp hq e => ?_, fun k q hq => ?_⟩
  · have hn1 := hn.1
    rcases key i p hp with ⟨h1, h2⟩ | ⟨h1, h2, h3⟩
    · rcases key j q hq with ⟨g1, g2⟩ | ⟨g1, g2, g3⟩
      · omega
      · omega
    · rcases key j q hq with ⟨g1, g2⟩ | ⟨g1, g2, g3⟩
      · omega
      · have := hn.2.1.1 _ _ p q h2 g2 e
        omega
  · show z ≤ q.1
    rcases key k q hq with ⟨h1, h2⟩ | ⟨h1, h2, h3⟩ <;> omega
def mv_tys (cA : Nat → ClassId) : List (ClassId × FieldType) := [(cA 20, .int), (cA 21, .char), (cA 22, .byte), (cA 23, .char), (cA 24, .object "SluiceChain$Basin"), (cA 25, .object "SluiceChain$Chain")]
/-- the law's own texts: "", " ", "/", "|", ":", "~", "," -/
def mv_tx (i : Nat) : List Nat := match i with
  | 0 => [] | 1 => [32] | 2 => [47] | 3 => [124] | 4 => [58] | 5 => [126] | _ => [44]
def mv_txl : List Nat := [0, 1, 1, 1, 1, 1, 1]
def mv_txb : List (List Int32) := [[], [32], [47], [124], [58], [126], [44]]
/-- what the heap holds -/
def mv_Mo (z : Nat) (kad : Nat → Nat) (dC : Nat → ClassId) (dI : Nat → Nat → Nat) (cA : Nat → ClassId) (wx : va_W) (σ : mv_S) (H : Heap) : Prop :=
  va_P (dC, dI) mv_cls (mv_wl (mv_ad z kad) cA wx σ.2.1 σ.2.2) H ∧ (σ.2.1 < 142 → H.size = z + σ.2.1) ∧ mv_Md z wx σ.2.1
/-- what has been made so far: things, and their places -/
def mv_sl : Nat → Nat
  | 0 => 0
  | n + 1 => mv_sl n + (mv_kd n).2
def mv_cc (σ : mv_S) : Nat := σ.2.1 + σ.1
def mv_ss (σ : mv_S) : Nat := mv_sl σ.2.1 + 6 * σ.1
/-- what may be thrown here: all but UnsupportedOperationException -/
def mv_e6 (k : Nat) : Bool := decide (k < 6) && !decide (k = 4)
theorem mv_e6_lt {k : Nat} (h : mv_e6 k = true) : k < 6 := by
  simp only [mv_e6, Bool.and_eq_true, decide_eq_true_eq] at h
  exact h.1
/-- the classes of what is thrown, by their numbers -/
def mv_ec (k : Nat) : String := match k with
  | 0 => "java/lang/IllegalArgumentException" | 1 => "java/lang/IllegalStateException" | 2 => "java/lang/IndexOutOfBoundsException" | 3 => "java/lang/ArithmeticException" | 4 => "java/lang/UnsupportedOperationException" | _ => "java/util/NoSuchElementException"
/-- words that go over to a callee by themselves -/
def mv_nest (w : Cond) : Bool := match w with
  | .fieldLinkNest _ _ _ _ _ _ => true
  | .methodLinkNest _ _ _ _ => true
  | .castable _ _ => true
  | .declares _ => true
  | .arrayOver (.object _) => true
  | _ => false
/-- what stands still: classes, constants, the script -/
def mv_En (z : Nat) (kad : Nat → Nat) (dC : Nat → ClassId) (dI : Nat → Nat → Nat) (cA : Nat → ClassId) (L : Nat) (xs : Nat → Int32) (U : State) : Prop :=
  va_K (dC, dI) mv_cls (mv_tys cA) U ∧ z ≤ U.heap.size ∧
  (∀ a ∈ [1000, 1001, 1002, 1003, 1004, 1005, 1006, 1007, 1010, 1011, 1012, 1013, 1021], va_Z (mv_sn a).1 (mv_sn a).2.1 (mv_sn a).2.2 (.ref (kad a)) (fun q => z ≤ q) U U.heap) ∧
  (∀ i, i < 8 → va_O "SluiceChain$Command" (kad (1000 + i)) (fun q => z ≤ q) U U.heap ∧ va_OF "java/lang/Enum" "ordinal" "I" (.int (nI i)) (kad (1000 + i)) (fun q => z ≤ q) U U.heap) ∧
  (∀ i j, i < 14 → j < 14 → kad (1000 + i) = kad (1000 + j) → i = j) ∧
  va_T .int (kad 1021) 8 (fun i => .int (nI (mv_sm i))) (fun q => z ≤ q) U U.heap ∧
  (L < 2 ^ 31 ∧ kad 2000 < z ∧ va_X (kad 2000) L xs U U.heap) ∧
  vk_S 7 mv_txl mv_txb (fun i => kad (1050 + i)) (fun i => kad (1060 + i)) (fun q => z ≤ q) U U.heap ∧
  vx_Zq Bundle.tN "UNASSIGNED_STACK" Bundle.steD (fun q => z ≤ q) U U.heap ∧ vx_Zq Bundle.tN "SUPPRESSED_SENTINEL" Bundle.listD (fun q => z ≤ q) U U.heap ∧
  (∀ w ∈ lw_tbl, mv_nest w = true → va_Nw w U) ∧ (∀ i j, mv_e6 i = true → mv_e6 j = true → i ≠ j → va_Nc (mv_ec i) (mv_ec j) U) ∧ (∀ own k tx, Cond.stringRef own k tx ∈ lw_tbl → ∃ a, vk_R own k tx a U) ∧
  va_Z "java/lang/String" "COMPACT_STRINGS" "Z" (.int 1) (fun q => z ≤ q) U U.heap ∧ va_Zq "jdk/internal/util/Preconditions" "SIOOBE_FORMATTER" "Ljava/util/function/BiFunction;" (fun q => z ≤ q) U U.heap
theorem mv_EnN {z : Nat} {kad : Nat → Nat} {dC : Nat → ClassId} {dI : Nat → Nat → Nat} {cA : Nat → ClassId} {L : Nat} {xs : Nat → Int32} {U : State} (h : mv_En z kad dC dI cA L xs U) {w : Cond} {k : Nat} (hw : lw_tbl[k]? = some w) (hn : mv_nest w = true) : va_Nw w U := by
  obtain ⟨-, -, -, -, -, -, -, -, -, -, h, -, -⟩ := h
  exact h w (List.mem_of_getElem? hw) hn
end
section
/-! what a row says of its method's locals; final fields are written in constructors alone -/
def mv_si : Instr → Nat
  | .istore_n k => (k : Nat) + 1 | .istore k => k + 1 | .fstore k => k + 1 | .astore_n k => (k : Nat) + 1 | .astore k => k + 1 | .iinc k _ => k + 1
  | .lstore_n k => (k : Nat) + 2 | .dstore_n k => (k : Nat) + 2 | .dstore k => k + 2 | _ => 0
noncomputable def mv_sd (ml : Nat) (ini : Bool) (own : String) (q : Nat × mv_I) : Bool := decide (mv_si q.2.1 ≤ ml) && (match q.2 with
  | (.putfield _, _, a, b, w) => (!(mv_fin a b) || (ini && decide ((mv_ft a b).1 = own) && (match lw_tbl[w]? with | some (.fieldLink _ _ _ _ _) => true | _ => false))) && decide (a < 8) && (match mv_cls[a]? with | some (_, _, N) => decide (b < N) | none => false)
  | (.getfield _, _, a, b, _) => (decide (a < 8) && (match mv_cls[a]? with | some (_, _, N) => decide (b < N) | none => false))
  | (.getstatic _, _, a, _, _) => decide (a ∈ [1000, 1001, 1002, 1003, 1004, 1005, 1006, 1007, 1010, 1011, 1012, 1013, 1021])
  | (.anewarray _, _, a, _, _) => decide (a = 24) || decide (a = 25)
  | (.newarray _, _, a, _, _) => decide (20 ≤ a) && decide (a < 24)
  | _ => true)
def mv_alls2P : List (List (Nat × mv_I)) → List mv_J → Prop
  | t :: ts, j :: js => t.all (mv_sd j.2.2.1 (decide (j.2.1.name = "<init>")) j.2.1.cls) = true ∧ mv_alls2P ts js
  | [], [] => True
  | _, _ => False
theorem mv_all2_app : ∀ {a : List (List (Nat × mv_I))} {b : List mv_J} {c : List (List (Nat × mv_I))} {d : List mv_J}, mv_alls2P a b → mv_alls2P c d → mv_alls2P (a ++ c) (b ++ d)
  | [], [], _, _, _, h => h
  | [], _ :: _, _, _, h, _ => h.elim
  | _ :: _, [], _, _, h, _ => h.elim
  | _ :: _, _ :: _, _, _, h, h' => ⟨h.1, mv_all2_app h.2 h'⟩
theorem sd_X1_init : t_X1_init.all (mv_sd 1 true "SluiceChain$Basin") = true := by decide +kernel
theorem sd_X1_begin : t_X1_begin.all (mv_sd 4 false "SluiceChain$Basin") = true := by decide +kernel
theorem sd_X1_copyFrom : t_X1_copyFrom.all (mv_sd 2 false "SluiceChain$Basin") = true := by decide +kernel
theorem sd_X1_moveAutomaticGate : t_X1_moveAutomaticGate.all (mv_sd 2 false "SluiceChain$Basin") = true := by decide +kernel
theorem sd_X1_letOut : t_X1_letOut.all (mv_sd 3 false "SluiceChain$Basin") = true := by decide +kernel
theorem sd_X1_spillOver : t_X1_spillOver.all (mv_sd 2 false "SluiceChain$Basin") = true := by decide +kernel
theorem sd_X2_init : t_X2_init.all (mv_sd 2 true "SluiceChain$Chain") = true := by decide +kernel
theorem sd_X2_copyFrom : t_X2_copyFrom.all (mv_sd 3 false "SluiceChain$Chain") = true := by decide +kernel
theorem sd_X2_copyWithOpening : t_X2_copyWithOpening.all (mv_sd 4 false "SluiceChain$Chain") = true := by decide +kernel
theorem sd_X2_hasBasin : t_X2_hasBasin.all (mv_sd 2 false "SluiceChain$Chain") = true := by decide +kernel
theorem sd_X2_faultOf : t_X2_faultOf.all (mv_sd 5 false "SluiceChain$Chain") = true := by decide +kernel
theorem sd_X2_faultOfNewBasin : t_X2_faultOfNewBasin.all (mv_sd 4 false "SluiceChain$Chain") = true := by decide +kernel
theorem sd_X2_faultAtBasin : t_X2_faultAtBasin.all (mv_sd 5 false "SluiceChain$Chain") = true := by decide +kernel
theorem sd_X2_faultOfGate : t_X2_faultOfGate.all (mv_sd 4 false "SluiceChain$Chain") = true := by decide +kernel
theorem sd_X2_faultOfHand : t_X2_faultOfHand.all (mv_sd 2 false "SluiceChain$Chain") = true := by decide +kernel
theorem sd_X2_faultOfRain : t_X2_faultOfRain.all (mv_sd 2 false "SluiceChain$Chain") = true := by decide +kernel
theorem sd_X2_faultOfPour : t_X2_faultOfPour.all (mv_sd 5 false "SluiceChain$Chain") = true := by decide +kernel
theorem sd_X2_faultOfPrediction : t_X2_faultOfPrediction.all (mv_sd 3 false "SluiceChain$Chain") = true := by decide +kernel
theorem sd_X2_faultOfPlan : t_X2_faultOfPlan.all (mv_sd 4 false "SluiceChain$Chain") = true := by decide +kernel
theorem sd_X2_carryOut : t_X2_carryOut.all (mv_sd 5 false "SluiceChain$Chain") = true := by decide +kernel
theorem sd_X2_useNextBasin : t_X2_useNextBasin.all (mv_sd 5 false "SluiceChain$Chain") = true := by decide +kernel
theorem sd_X2_turnGate : t_X2_turnGate.all (mv_sd 4 false "SluiceChain$Chain") = true := by decide +kernel
theorem sd_X2_makeAutomatic : t_X2_makeAutomatic.all (mv_sd 3 false "SluiceChain$Chain") = true := by decide +kernel
theorem sd_X2_makeManual : t_X2_makeManual.all (mv_sd 2 false "SluiceChain$Chain") = true := by decide +kernel
theorem sd_X2_countAutomatic : t_X2_countAutomatic.all (mv_sd 3 false "SluiceChain$Chain") = true := by decide +kernel
theorem sd_X2_expectRain : t_X2_expectRain.all (mv_sd 2 false "SluiceChain$Chain") = true := by decide +kernel
theorem sd_X2_dropForecast : t_X2_dropForecast.all (mv_sd 3 false "SluiceChain$Chain") = true := by decide +kernel
theorem sd_X2_pourInto : t_X2_pourInto.all (mv_sd 3 false "SluiceChain$Chain") = true := by decide +kernel
theorem sd_X2_passSteps : t_X2_passSteps.all (mv_sd 4 false "SluiceChain$Chain") = true := by decide +kernel
theorem sd_X2_passStep : t_X2_passStep.all (mv_sd 3 false "SluiceChain$Chain") = true := by decide +kernel
theorem sd_X2_takeRain : t_X2_takeRain.all (mv_sd 3 false "SluiceChain$Chain") = true := by decide +kernel
theorem sd_X2_rainDown : t_X2_rainDown.all (mv_sd 4 false "SluiceChain$Chain") = true := by decide +kernel
theorem sd_X2_flowDown : t_X2_flowDown.all (mv_sd 4 false "SluiceChain$Chain") = true := by decide +kernel
theorem sd_X2_rankOf : t_X2_rankOf.all (mv_sd 4 false "SluiceChain$Chain") = true := by decide +kernel
theorem sd_X2_isRankedBefore : t_X2_isRankedBefore.all (mv_sd 5 false "SluiceChain$Chain") = true := by decide +kernel
theorem sd_X2_levelsFit : t_X2_levelsFit.all (mv_sd 2 false "SluiceChain$Chain") = true := by decide +kernel
theorem sd_X2_sumOfLevels : t_X2_sumOfLevels.all (mv_sd 3 false "SluiceChain$Chain") = true := by decide +kernel
theorem sd_X2_balanceOfAccounts : t_X2_balanceOfAccounts.all (mv_sd 4 false "SluiceChain$Chain") = true := by decide +kernel
theorem sd_X2_sumOfFloodedSteps : t_X2_sumOfFloodedSteps.all (mv_sd 3 false "SluiceChain$Chain") = true := by decide +kernel
theorem sd_X5_init : t_X5_init.all (mv_sd 2 true "SluiceChain$History") = true := by decide +kernel
theorem sd_X5_remember : t_X5_remember.all (mv_sd 2 false "SluiceChain$History") = true := by decide +kernel
theorem sd_X6_init : t_X6_init.all (mv_sd 1 true "SluiceChain$Line") = true := by decide +kernel
theorem sd_X6_put : t_X6_put.all (mv_sd 2 false "SluiceChain$Line") = true := by decide +kernel
theorem sd_X6_putNumber : t_X6_putNumber.all (mv_sd 2 false "SluiceChain$Line") = true := by decide +kernel
theorem sd_X6_putDigit : t_X6_putDigit.all (mv_sd 2 false "SluiceChain$Line") = true := by decide +kernel
theorem sd_X7_init : t_X7_init.all (mv_sd 2 true "SluiceChain$PlanSearch") = true := by decide +kernel
theorem sd_X7_leastOfAll : t_X7_leastOfAll.all (mv_sd 4 false "SluiceChain$PlanSearch") = true := by decide +kernel
theorem sd_X7_leastByCutting : t_X7_leastByCutting.all (mv_sd 4 false "SluiceChain$PlanSearch") = true := by decide +kernel
theorem sd_X7_lowestFirstOpening : t_X7_lowestFirstOpening.all (mv_sd 9 false "SluiceChain$PlanSearch") = true := by decide +kernel
theorem sd_X7_leastFrom : t_X7_leastFrom.all (mv_sd 8 false "SluiceChain$PlanSearch") = true := by decide +kernel
theorem sd_X7_leastBelow : t_X7_leastBelow.all (mv_sd 10 false "SluiceChain$PlanSearch") = true := by decide +kernel
theorem sd_X8_init : t_X8_init.all (mv_sd 1 true "SluiceChain$Program") = true := by decide +kernel
theorem sd_X9_init : t_X9_init.all (mv_sd 1 true "SluiceChain$Protection") = true := by decide +kernel
theorem sd_X9_include : t_X9_include.all (mv_sd 3 false "SluiceChain$Protection") = true := by decide +kernel
theorem sd_X9_sumOfBags : t_X9_sumOfBags.all (mv_sd 3 false "SluiceChain$Protection") = true := by decide +kernel
theorem sd_X9_bestByTable : t_X9_bestByTable.all (mv_sd 3 false "SluiceChain$Protection") = true := by decide +kernel
theorem sd_X9_improveTable : t_X9_improveTable.all (mv_sd 4 false "SluiceChain$Protection") = true := by decide +kernel
theorem sd_X9_bestBySets : t_X9_bestBySets.all (mv_sd 4 false "SluiceChain$Protection") = true := by decide +kernel
theorem sd_X9_bagsOfSet : t_X9_bagsOfSet.all (mv_sd 4 false "SluiceChain$Protection") = true := by decide +kernel
theorem sd_X9_valueOfSet : t_X9_valueOfSet.all (mv_sd 4 false "SluiceChain$Protection") = true := by decide +kernel
theorem sd_X10_init : t_X10_init.all (mv_sd 1 true "SluiceChain") = true := by decide +kernel
theorem sd_X10_addBasin : t_X10_addBasin.all (mv_sd 4 false "SluiceChain") = true := by decide +kernel
theorem sd_X10_setGate : t_X10_setGate.all (mv_sd 3 false "SluiceChain") = true := by decide +kernel
theorem sd_X10_setAutomatic : t_X10_setAutomatic.all (mv_sd 3 false "SluiceChain") = true := by decide +kernel
theorem sd_X10_setManual : t_X10_setManual.all (mv_sd 2 false "SluiceChain") = true := by decide +kernel
theorem sd_X10_addRain : t_X10_addRain.all (mv_sd 2 false "SluiceChain") = true := by decide +kernel
theorem sd_X10_clearForecast : t_X10_clearForecast.all (mv_sd 1 false "SluiceChain") = true := by decide +kernel
theorem sd_X10_pour : t_X10_pour.all (mv_sd 3 false "SluiceChain") = true := by decide +kernel
theorem sd_X10_advance : t_X10_advance.all (mv_sd 2 false "SluiceChain") = true := by decide +kernel
theorem sd_X10_change : t_X10_change.all (mv_sd 5 false "SluiceChain") = true := by decide +kernel
theorem sd_X10_basinCount : t_X10_basinCount.all (mv_sd 1 false "SluiceChain") = true := by decide +kernel
theorem sd_X10_capacity : t_X10_capacity.all (mv_sd 2 false "SluiceChain") = true := by decide +kernel
theorem sd_X10_level : t_X10_level.all (mv_sd 2 false "SluiceChain") = true := by decide +kernel
theorem sd_X10_fieldValue : t_X10_fieldValue.all (mv_sd 2 false "SluiceChain") = true := by decide +kernel
theorem sd_X10_opening : t_X10_opening.all (mv_sd 2 false "SluiceChain") = true := by decide +kernel
theorem sd_X10_isAutomatic : t_X10_isAutomatic.all (mv_sd 2 false "SluiceChain") = true := by decide +kernel
theorem sd_X10_threshold : t_X10_threshold.all (mv_sd 3 false "SluiceChain") = true := by decide +kernel
theorem sd_X10_spilled : t_X10_spilled.all (mv_sd 2 false "SluiceChain") = true := by decide +kernel
theorem sd_X10_floodedSteps : t_X10_floodedSteps.all (mv_sd 2 false "SluiceChain") = true := by decide +kernel
theorem sd_X10_basinAtRank : t_X10_basinAtRank.all (mv_sd 3 false "SluiceChain") = true := by decide +kernel
theorem sd_X10_time : t_X10_time.all (mv_sd 1 false "SluiceChain") = true := by decide +kernel
theorem sd_X10_forecastLength : t_X10_forecastLength.all (mv_sd 1 false "SluiceChain") = true := by decide +kernel
theorem sd_X10_rainAt : t_X10_rainAt.all (mv_sd 2 false "SluiceChain") = true := by decide +kernel
theorem sd_X10_stored : t_X10_stored.all (mv_sd 1 false "SluiceChain") = true := by decide +kernel
theorem sd_X10_storedByAccounts : t_X10_storedByAccounts.all (mv_sd 1 false "SluiceChain") = true := by decide +kernel
theorem sd_X10_riverTotal : t_X10_riverTotal.all (mv_sd 1 false "SluiceChain") = true := by decide +kernel
theorem sd_X10_meanFill : t_X10_meanFill.all (mv_sd 5 false "SluiceChain") = true := by decide +kernel
theorem sd_X10_floodShare : t_X10_floodShare.all (mv_sd 1 false "SluiceChain") = true := by decide +kernel
theorem sd_X10_levelAfter : t_X10_levelAfter.all (mv_sd 3 false "SluiceChain") = true := by decide +kernel
theorem sd_X10_spillOf : t_X10_spillOf.all (mv_sd 3 false "SluiceChain") = true := by decide +kernel
theorem sd_X10_stepsUntilFlood : t_X10_stepsUntilFlood.all (mv_sd 2 false "SluiceChain") = true := by decide +kernel
theorem sd_X10_lookAhead : t_X10_lookAhead.all (mv_sd 3 false "SluiceChain") = true := by decide +kernel
theorem sd_X10_expectedSpill : t_X10_expectedSpill.all (mv_sd 2 false "SluiceChain") = true := by decide +kernel
theorem sd_X10_leastSpill : t_X10_leastSpill.all (mv_sd 3 false "SluiceChain") = true := by decide +kernel
theorem sd_X10_leastSpillByPruning : t_X10_leastSpillByPruning.all (mv_sd 3 false "SluiceChain") = true := by decide +kernel
theorem sd_X10_bestOpening : t_X10_bestOpening.all (mv_sd 3 false "SluiceChain") = true := by decide +kernel
theorem sd_X10_endangered : t_X10_endangered.all (mv_sd 2 false "SluiceChain") = true := by decide +kernel
theorem sd_X10_bestProtection : t_X10_bestProtection.all (mv_sd 3 false "SluiceChain") = true := by decide +kernel
theorem sd_X10_bestProtectionBySets : t_X10_bestProtectionBySets.all (mv_sd 3 false "SluiceChain") = true := by decide +kernel
theorem sd_X10_bagsForAll : t_X10_bagsForAll.all (mv_sd 2 false "SluiceChain") = true := by decide +kernel
theorem sd_X10_isConsistent : t_X10_isConsistent.all (mv_sd 1 false "SluiceChain") = true := by decide +kernel
theorem sd_X10_gatherEndangered : t_X10_gatherEndangered.all (mv_sd 4 false "SluiceChain") = true := by decide +kernel
theorem sd_X10_leastSpillsAgree : t_X10_leastSpillsAgree.all (mv_sd 2 false "SluiceChain") = true := by decide +kernel
theorem sd_X10_protectionsAgree : t_X10_protectionsAgree.all (mv_sd 1 false "SluiceChain") = true := by decide +kernel
theorem sd_X10_writeChain : t_X10_writeChain.all (mv_sd 2 false "SluiceChain") = true := by decide +kernel
theorem sd_X10_writeForecast : t_X10_writeForecast.all (mv_sd 2 false "SluiceChain") = true := by decide +kernel
theorem sd_X10_outputAt : t_X10_outputAt.all (mv_sd 2 false "SluiceChain") = true := by decide +kernel
theorem sd_X10_writeBasin : t_X10_writeBasin.all (mv_sd 2 false "SluiceChain") = true := by decide +kernel
theorem sd_X10_existingBasin : t_X10_existingBasin.all (mv_sd 2 false "SluiceChain") = true := by decide +kernel
theorem sd_X10_faultOfRange : t_X10_faultOfRange.all (mv_sd 3 false "SluiceChain") = true := by decide +kernel
theorem sd_X10_throwFor : t_X10_throwFor.all (mv_sd 1 false "SluiceChain") = true := by decide +kernel
theorem sd_L_cell : t_L_cell.all (mv_sd 2 false "SluiceChainLaw") = true := by decide +kernel
theorem sd_L_some : t_L_some.all (mv_sd 3 false "SluiceChainLaw") = true := by decide +kernel
theorem sd_L_addBasin : t_L_addBasin.all (mv_sd 5 false "SluiceChainLaw") = true := by decide +kernel
theorem sd_L_setGate : t_L_setGate.all (mv_sd 4 false "SluiceChainLaw") = true := by decide +kernel
theorem sd_L_setAutomatic : t_L_setAutomatic.all (mv_sd 4 false "SluiceChainLaw") = true := by decide +kernel
theorem sd_L_setManual : t_L_setManual.all (mv_sd 3 false "SluiceChainLaw") = true := by decide +kernel
theorem sd_L_addRain : t_L_addRain.all (mv_sd 3 false "SluiceChainLaw") = true := by decide +kernel
theorem sd_L_pour : t_L_pour.all (mv_sd 4 false "SluiceChainLaw") = true := by decide +kernel
theorem sd_L_advance : t_L_advance.all (mv_sd 3 false "SluiceChainLaw") = true := by decide +kernel
theorem sd_L_threshold : t_L_threshold.all (mv_sd 3 false "SluiceChainLaw") = true := by decide +kernel
theorem sd_L_basinAtRank : t_L_basinAtRank.all (mv_sd 3 false "SluiceChainLaw") = true := by decide +kernel
theorem sd_L_rainAt : t_L_rainAt.all (mv_sd 3 false "SluiceChainLaw") = true := by decide +kernel
theorem sd_L_stepsUntilFlood : t_L_stepsUntilFlood.all (mv_sd 2 false "SluiceChainLaw") = true := by decide +kernel
theorem sd_L_build : t_L_build.all (mv_sd 4 false "SluiceChainLaw") = true := by decide +kernel
theorem sd_L_acts : t_L_acts.all (mv_sd 6 false "SluiceChainLaw") = true := by decide +kernel
theorem mv_all2_0 : mv_alls2P mv_tb0 mv_ms0 := ⟨sd_X1_init, ⟨sd_X1_begin, ⟨sd_X1_copyFrom, ⟨sd_X1_moveAutomaticGate, ⟨sd_X1_letOut, ⟨sd_X1_spillOver, ⟨sd_X2_init, ⟨sd_X2_copyFrom, ⟨sd_X2_copyWithOpening, ⟨sd_X2_hasBasin, ⟨sd_X2_faultOf, ⟨sd_X2_faultOfNewBasin, ⟨sd_X2_faultAtBasin, ⟨sd_X2_faultOfGate, ⟨sd_X2_faultOfHand, ⟨sd_X2_faultOfRain, ⟨sd_X2_faultOfPour, ⟨sd_X2_faultOfPrediction, ⟨sd_X2_faultOfPlan, ⟨sd_X2_carryOut, ⟨sd_X2_useNextBasin, ⟨sd_X2_turnGate, ⟨sd_X2_makeAutomatic, ⟨sd_X2_makeManual, ⟨sd_X2_countAutomatic, ⟨sd_X2_expectRain, ⟨sd_X2_dropForecast, ⟨sd_X2_pourInto, ⟨sd_X2_passSteps, ⟨sd_X2_passStep, ⟨sd_X2_takeRain, ⟨sd_X2_rainDown, ⟨sd_X2_flowDown, ⟨sd_X2_rankOf, ⟨sd_X2_isRankedBefore, ⟨sd_X2_levelsFit, ⟨sd_X2_sumOfLevels, ⟨sd_X2_balanceOfAccounts, ⟨sd_X2_sumOfFloodedSteps, ⟨sd_X5_init, trivial⟩⟩⟩⟩⟩⟩⟩⟩⟩⟩⟩⟩⟩⟩⟩⟩⟩⟩⟩⟩⟩⟩⟩⟩⟩⟩⟩⟩⟩⟩⟩⟩⟩⟩⟩⟩⟩⟩⟩⟩
theorem mv_all2_1 : mv_alls2P mv_tb1 mv_ms1 := ⟨sd_X5_remember, ⟨sd_X6_init, ⟨sd_X6_put, ⟨sd_X6_putNumber, ⟨sd_X6_putDigit, ⟨sd_X7_init, ⟨sd_X7_leastOfAll, ⟨sd_X7_leastByCutting, ⟨sd_X7_lowestFirstOpening, ⟨sd_X7_leastFrom, ⟨sd_X7_leastBelow, ⟨sd_X8_init, ⟨sd_X9_init, ⟨sd_X9_include, ⟨sd_X9_sumOfBags, ⟨sd_X9_bestByTable, ⟨sd_X9_improveTable, ⟨sd_X9_bestBySets, ⟨sd_X9_bagsOfSet, ⟨sd_X9_valueOfSet, ⟨sd_X10_init, ⟨sd_X10_addBasin, ⟨sd_X10_setGate, ⟨sd_X10_setAutomatic, ⟨sd_X10_setManual, ⟨sd_X10_addRain, ⟨sd_X10_clearForecast, ⟨sd_X10_pour, ⟨sd_X10_advance, ⟨sd_X10_change, ⟨sd_X10_basinCount, ⟨sd_X10_capacity, ⟨sd_X10_level, ⟨sd_X10_fieldValue, ⟨sd_X10_opening, ⟨sd_X10_isAutomatic, ⟨sd_X10_threshold, ⟨sd_X10_spilled, ⟨sd_X10_floodedSteps, ⟨sd_X10_basinAtRank, trivial⟩⟩⟩⟩⟩⟩⟩⟩⟩⟩⟩⟩⟩⟩⟩⟩⟩⟩⟩⟩⟩⟩⟩⟩⟩⟩⟩⟩⟩⟩⟩⟩⟩⟩⟩⟩⟩⟩⟩⟩
theorem mv_all2_2 : mv_alls2P mv_tb2 mv_ms2 := ⟨sd_X10_time, ⟨sd_X10_forecastLength, ⟨sd_X10_rainAt, ⟨sd_X10_stored, ⟨sd_X10_storedByAccounts, ⟨sd_X10_riverTotal, ⟨sd_X10_meanFill, ⟨sd_X10_floodShare, ⟨sd_X10_levelAfter, ⟨sd_X10_spillOf, ⟨sd_X10_stepsUntilFlood, ⟨sd_X10_lookAhead, ⟨sd_X10_expectedSpill, ⟨sd_X10_leastSpill, ⟨sd_X10_leastSpillByPruning, ⟨sd_X10_bestOpening, ⟨sd_X10_endangered, ⟨sd_X10_bestProtection, ⟨sd_X10_bestProtectionBySets, ⟨sd_X10_bagsForAll, ⟨sd_X10_isConsistent, ⟨sd_X10_gatherEndangered, ⟨sd_X10_leastSpillsAgree, ⟨sd_X10_protectionsAgree, ⟨sd_X10_writeChain, ⟨sd_X10_writeForecast, ⟨sd_X10_outputAt, ⟨sd_X10_writeBasin, ⟨sd_X10_existingBasin, ⟨sd_X10_faultOfRange, ⟨sd_X10_throwFor, ⟨sd_L_cell, ⟨sd_L_some, ⟨sd_L_addBasin, ⟨sd_L_setGate, ⟨sd_L_setAutomatic, ⟨sd_L_setManual, ⟨sd_L_addRain, ⟨sd_L_pour, ⟨sd_L_advance, trivial⟩⟩⟩⟩⟩⟩⟩⟩⟩⟩⟩⟩⟩⟩⟩⟩⟩⟩⟩⟩⟩⟩⟩⟩⟩⟩⟩⟩⟩⟩⟩⟩⟩⟩⟩⟩⟩⟩⟩⟩
theorem mv_all2_3 : mv_alls2P mv_tb3 mv_ms3 := ⟨sd_L_threshold, ⟨sd_L_basinAtRank, ⟨sd_L_rainAt, ⟨sd_L_stepsUntilFlood, ⟨sd_L_build, ⟨sd_L_acts, trivial⟩⟩⟩⟩⟩⟩
theorem mv_alls2 : mv_alls2P mv_tbs mv_ms := mv_all2_app mv_all2_0 (mv_all2_app mv_all2_1 (mv_all2_app mv_all2_2 (mv_all2_3)))
theorem mv_all2_at : ∀ {a : List (List (Nat × mv_I))} {b : List mv_J} {M : Nat} {t : List (Nat × mv_I)}, mv_alls2P a b → a[M]? = some t → ∃ j, b[M]? = some j ∧ t.all (mv_sd j.2.2.1 (decide (j.2.1.name = "<init>")) j.2.1.cls) = true
  | [], [], _, _, _, h => by simp at h
  | [], _ :: _, _, _, h, _ => h.elim
  | _ :: _, [], _, _, h, _ => h.elim
  | _ :: _, j :: _, 0, _, h, h2 => by
    simp only [List.getElem?_cons_zero, Option.some.injEq] at h2
    subst h2
    exact ⟨j, rfl, h.1⟩
  | _ :: _, _ :: _, M + 1, _, h, h2 => by
    simp only [List.getElem?_cons_succ] at h2 ⊢
    exact mv_all2_at h.2 h2
theorem mv_row2 {M pc : Nat} {r : mv_I} (h : mv_in M pc = some r) : mv_sd (mv_mi M).2.2.1 (decide ((mv_mi M).2.1.name = "<init>")) (mv_mi M).2.1.cls (pc, r) = true := by
  unfold mv_in mv_tb at h
  have hm := mv_find_mem h
  cases ht : mv_tbs[M]? with
  | none => rw [List.getD_eq_getElem?_getD, ht] at hm; simp at hm
  | some t =>
    obtain ⟨j, hj, h1⟩ := mv_all2_at mv_alls2 ht
    rw [List.getD_eq_getElem?_getD, ht] at hm
    have e : mv_mi M = j := by unfold mv_mi; rw [List.getD_eq_getElem?_getD, hj]; rfl
    rw [e]
    exact List.all_eq_true.mp h1 _ hm
theorem mv_side {M pc : Nat} {i : Instr} {q : Nat × Nat × Nat × Nat} {n : Nat} (h : mv_in M pc = some (i, q)) (hn : n = (mv_mi M).2.2.1) : mv_si i ≤ n := by
  have h1 := mv_row2 h
  simp only [mv_sd, Bool.and_eq_true, decide_eq_true_eq] at h1
  rw [hn]; exact h1.1
theorem mv_cn_ok : ((List.range 126).all (fun M => decide (mv_cn M = 99) || decide ((mv_cls[mv_cn M]?.map (·.1)) = some (mv_mi M).2.1.cls))) = true := by decide +kernel
theorem mv_inX1 : ∀ w ∈ u_ws RX1 TX1 9, w ∈ mv_TS := fun w h => List.mem_filter.mpr ⟨(goodIn_r (big := lw_tbl) _ [140, 142, 144, 146, 148, 150, 152, 154, 156] (by decide +kernel) (by decide +kernel) w h).1, List.all_eq_true.mp (show (u_ws RX1 TX1 9).all goodWord = true by decide +kernel) w h⟩
theorem mv_inX2 : ∀ w ∈ u_ws RX2 TX2 8, w ∈ mv_TS := fun w h => List.mem_filter.mpr ⟨(goodIn_r (big := lw_tbl) _ [174, 176, 178, 180, 182, 184, 186, 188] (by decide +kernel) (by decide +kernel) w h).1, List.all_eq_true.mp (show (u_ws RX2 TX2 8).all goodWord = true by decide +kernel) w h⟩
theorem mv_inX5 : ∀ w ∈ u_ws RX5 TX5 3, w ∈ mv_TS := fun w h => List.mem_filter.mpr ⟨(goodIn_r (big := lw_tbl) _ [203, 205, 207] (by decide +kernel) (by decide +kernel) w h).1, List.all_eq_true.mp (show (u_ws RX5 TX5 3).all goodWord = true by decide +kernel) w h⟩
theorem mv_inX6 : ∀ w ∈ u_ws RX6 TX6 2, w ∈ mv_TS := fun w h => List.mem_filter.mpr ⟨(goodIn_r (big := lw_tbl) _ [280, 282] (by decide +kernel) (by decide +kernel) w h).1, List.all_eq_true.mp (show (u_ws RX6 TX6 2).all goodWord = true by decide +kernel) w h⟩
theorem mv_inX7 : ∀ w ∈ u_ws RX7 TX7 1, w ∈ mv_TS := fun w h => List.mem_filter.mpr ⟨(goodIn_r (big := lw_tbl) _ [219] (by decide +kernel) (by decide +kernel) w h).1, List.all_eq_true.mp (show (u_ws RX7 TX7 1).all goodWord = true by decide +kernel) w h⟩
theorem mv_inX8 : ∀ w ∈ u_ws RX8 TX8 6, w ∈ mv_TS := fun w h => List.mem_filter.mpr ⟨(goodIn_r (big := lw_tbl) _ [256, 258, 260, 262, 264, 266] (by decide +kernel) (by decide +kernel) w h).1, List.all_eq_true.mp (show (u_ws RX8 TX8 6).all goodWord = true by decide +kernel) w h⟩
theorem mv_inX9 : ∀ w ∈ u_ws RX9 TX9 4, w ∈ mv_TS := fun w h => List.mem_filter.mpr ⟨(goodIn_r (big := lw_tbl) _ [233, 235, 237, 239] (by decide +kernel) (by decide +kernel) w h).1, List.all_eq_true.mp (show (u_ws RX9 TX9 4).all goodWord = true by decide +kernel) w h⟩
theorem mv_inX10 : ∀ w ∈ u_ws RX10 TX10 12, w ∈ mv_TS := fun w h => List.mem_filter.mpr ⟨(goodIn_r (big := lw_tbl) _ [297, 299, 301, 303, 305, 307, 309, 311, 313, 315, 317, 319] (by decide +kernel) (by decide +kernel) w h).1, List.all_eq_true.mp (show (u_ws RX10 TX10 12).all goodWord = true by decide +kernel) w h⟩
/-- what is known of each class -/
theorem mv_ck1 {a : Nat} {C : String} {T : u_T} {N : Nat} (ha : a < 8) (h : mv_cls[a]? = some (C, T, N)) : (∀ w ∈ u_ws C T N, w ∈ mv_TS) ∧ (∀ k, k < N → parseFieldDescriptor (T k).2.2.1 = some (mv_ty a k)) ∧ (∀ i, i < N → ∀ j, j < N → i ≠ j → (T i).2.1 ≠ (T j).2.1) ∧ (∀ k, (T k).2.2.2 = mv_fin a k) ∧ (∀ k, k < N → mv_ft a k = (C, (T k).2.1, (T k).2.2.1) ∧ (T k).1 = C) := by
  match a, ha, h with
  | 0, _, h => cases h; exact ⟨mv_inX1, tyX1_ok, nmX1, fun _ => rfl, by decide +kernel⟩
  | 1, _, h => cases h; exact ⟨mv_inX2, tyX2_ok, nmX2, fun _ => rfl, by decide +kernel⟩
  | 2, _, h => cases h; exact ⟨mv_inX5, tyX5_ok, nmX5, fun _ => rfl, by decide +kernel⟩
  | 3, _, h => cases h; exact ⟨mv_inX6, tyX6_ok, nmX6, fun _ => rfl, by decide +kernel⟩
  | 4, _, h => cases h; exact ⟨mv_inX7, tyX7_ok, nmX7, fun _ => rfl, by decide +kernel⟩
  | 5, _, h => cases h; exact ⟨mv_inX8, tyX8_ok, nmX8, fun _ => rfl, by decide +kernel⟩
  | 6, _, h => cases h; exact ⟨mv_inX9, tyX9_ok, nmX9, fun _ => rfl, by decide +kernel⟩
  | 7, _, h => cases h; exact ⟨mv_inX10, tyX10_ok, nmX10, fun _ => rfl, by decide +kernel⟩
  | a + 8, ha, _ => exact absurd ha (by omega)
end
section
/-! PREPARATION: inversions; rows over fields and arrays -/
theorem mv_nx_inv {nx pc : Nat} {ls ls' : mv_V} {st st' : List Value} {σ σ' : mv_S} (h : mv_nx nx ls st σ = some (.inl (pc, ls', st', σ'))) : pc = nx ∧ ls' = ls ∧ st' = st ∧ σ' = σ := by
  unfold mv_nx at h
  cases h
  exact ⟨rfl, rfl, rfl, rfl⟩
theorem mv_dec {bs : ByteArray} {pc nx : Nat} {i : Instr} {q : Nat × Nat × Nat} (h : decode bs pc = .ok (i, nx - pc)) (h2 : mv_lok (pc, (i, nx, q)) = true) (h3 : mv_w i ≠ 0) : decode bs pc = .ok (i, mv_w i) ∧ nx = pc + mv_w i := by
  simp only [mv_lok, Bool.or_eq_true, decide_eq_true_eq] at h2
  rcases h2 with h2 | h2
  · exact absurd h2 h3
  · have e : nx - pc = mv_w i := by omega
    rw [e] at h
    exact ⟨h, h2⟩
theorem mv_okd {bs : ByteArray} {own : String} {pc nx a b w : Nat} {i : Instr} (h : mv_ok bs own (pc, (i, nx, a, b, w)) = true) : decode bs pc = .ok (i, nx - pc) := by
  unfold mv_ok at h
  simp only [Bool.and_eq_true, decide_eq_true_eq] at h
  exact h.1.1
def mv_tg : Instr → Option Int
  | .goto o => some o | .if_icmp _ o => some o | .ifCond _ o => some o | .if_acmp _ o => some o | .ifnonnull o => some o | _ => none
theorem mv_okt {bs : ByteArray} {own : String} {pc nx a b w : Nat} {i : Instr} {off : Int} (h : mv_ok bs own (pc, (i, nx, a, b, w)) = true) (h2 : mv_tg i = some off) : (pc : Int) + off = (a : Int) := by
  unfold mv_ok at h
  unfold mv_tg at h2
  split at h2 <;> first | (cases h2; simp only [Bool.and_eq_true, decide_eq_true_eq] at h; exact h.2) | cases h2
theorem mv_ld_inv0 {v : Option Value} {nx pc : Nat} {ls ls' : mv_V} {st st' : List Value} {σ σ' : mv_S} (h : mv_ld 0 v nx ls st σ = some (.inl (pc, ls', st', σ'))) : ∃ x, v = some (.int x) ∧ pc = nx ∧ ls' = ls ∧ st' = .int x :: st ∧ σ' = σ := by
  cases v with
  | none => simp [mv_ld] at h
  | some v => cases v <;> first | exact ⟨_, rfl, mv_nx_inv h⟩ | (simp [mv_ld] at h; done)
theorem mv_ld_inv1 {v : Option Value} {nx pc : Nat} {ls ls' : mv_V} {st st' : List Value} {σ σ' : mv_S} (h : mv_ld 1 v nx ls st σ = some (.inl (pc, ls', st', σ'))) : ∃ x, v = some (.long x) ∧ pc = nx ∧ ls' = ls ∧ st' = .long x :: st ∧ σ' = σ := by
  cases v with
  | none => simp [mv_ld] at h
  | some v => cases v <;> first | exact ⟨_, rfl, mv_nx_inv h⟩ | (simp [mv_ld] at h; done)
theorem mv_ld_inv2 {v : Option Value} {nx pc : Nat} {ls ls' : mv_V} {st st' : List Value} {σ σ' : mv_S} (h : mv_ld 2 v nx ls st σ = some (.inl (pc, ls', st', σ'))) : ∃ x, v = some (.float x) ∧ pc = nx ∧ ls' = ls ∧ st' = .float x :: st ∧ σ' = σ := by
  cases v with
  | none => simp [mv_ld] at h
  | some v => cases v <;> first | exact ⟨_, rfl, mv_nx_inv h⟩ | (simp [mv_ld] at h; done)
theorem mv_ld_inv3 {v : Option Value} {nx pc : Nat} {ls ls' : mv_V} {st st' : List Value} {σ σ' : mv_S} (h : mv_ld 3 v nx ls st σ = some (.inl (pc, ls', st', σ'))) : ∃ x, v = some (.double x) ∧ pc = nx ∧ ls' = ls ∧ st' = .double x :: st ∧ σ' = σ := by
  cases v with
  | none => simp [mv_ld] at h
  | some v => cases v <;> first | exact ⟨_, rfl, mv_nx_inv h⟩ | (simp [mv_ld] at h; done)
theorem mv_ld_inv4 {v : Option Value} {nx pc : Nat} {ls ls' : mv_V} {st st' : List Value} {σ σ' : mv_S} (h : mv_ld 4 v nx ls st σ = some (.inl (pc, ls', st', σ'))) : (∃ x, v = some (.ref x) ∧ pc = nx ∧ ls' = ls ∧ st' = .ref x :: st ∧ σ' = σ) ∨ (v = some .null ∧ pc = nx ∧ ls' = ls ∧ st' = .null :: st ∧ σ' = σ) := by
  cases v with
  | none => simp [mv_ld] at h
  | some v => cases v <;> first | exact Or.inl ⟨_, rfl, mv_nx_inv h⟩ | exact Or.inr ⟨rfl, mv_nx_inv h⟩ | (simp [mv_ld] at h; done)
theorem mv_so_inv0 {i nx pc : Nat} {ls ls' : mv_V} {st st' : List Value} {σ σ' : mv_S} (h : mv_so 0 i nx ls st σ = some (.inl (pc, ls', st', σ'))) : ∃ x st1, st = .int x :: st1 ∧ pc = nx ∧ ls' = (i, .int x) :: mv_f1 i ls ∧ st' = st1 ∧ σ' = σ := by
  cases st with
  | nil => simp [mv_so] at h
  | cons v st => cases v <;> first | exact ⟨_, _, rfl, mv_nx_inv h⟩ | (simp [mv_so] at h; done)
theorem mv_so_inv1 {i nx pc : Nat} {ls ls' : mv_V} {st st' : List Value} {σ σ' : mv_S} (h : mv_so 1 i nx ls st σ = some (.inl (pc, ls', st', σ'))) : ∃ x st1, st = .long x :: st1 ∧ pc = nx ∧ ls' = (i, .long x) :: mv_f2 i ls ∧ st' = st1 ∧ σ' = σ := by
  cases st with
  | nil => simp [mv_so] at h
  | cons v st => cases v <;> first | exact ⟨_, _, rfl, mv_nx_inv h⟩ | (simp [mv_so] at h; done)
theorem mv_so_inv2 {i nx pc : Nat} {ls ls' : mv_V} {st st' : List Value} {σ σ' : mv_S} (h : mv_so 2 i nx ls st σ = some (.inl (pc, ls', st', σ'))) : ∃ x st1, st = .float x :: st1 ∧ pc = nx ∧ ls' = (i, .float x) :: mv_f1 i ls ∧ st' = st1 ∧ σ' = σ := by
  cases st with
  | nil => simp [mv_so] at h
  | cons v st => cases v <;> first | exact ⟨_, _, rfl, mv_nx_inv h⟩ | (simp [mv_so] at h; done)
theorem mv_so_inv3 {i nx pc : Nat} {ls ls' : mv_V} {st st' : List Value} {σ σ' : mv_S} (h : mv_so 3 i nx ls st σ = some (.inl (pc, ls', st', σ'))) : ∃ x st1, st = .double x :: st1 ∧ pc = nx ∧ ls' = (i, .double x) :: mv_f2 i ls ∧ st' = st1 ∧ σ' = σ := by
  cases st with
  | nil => simp [mv_so] at h
  | cons v st => cases v <;> first | exact ⟨_, _, rfl, mv_nx_inv h⟩ | (simp [mv_so] at h; done)
theorem mv_so_inv4 {i nx pc : Nat} {ls ls' : mv_V} {st st' : List Value} {σ σ' : mv_S} (h : mv_so 4 i nx ls st σ = some (.inl (pc, ls', st', σ'))) : (∃ x st1, st = .ref x :: st1 ∧ pc = nx ∧ ls' = (i, .ref x) :: mv_f1 i ls ∧ st' = st1 ∧ σ' = σ) ∨ (∃ st1, st = .null :: st1 ∧ pc = nx ∧ ls' = (i, .null) :: mv_f1 i ls ∧ st' = st1 ∧ σ' = σ) := by
  cases st with
  | nil => simp [mv_so] at h
  | cons v st => cases v <;> first | exact Or.inl ⟨_, _, rfl, mv_nx_inv h⟩ | exact Or.inr ⟨_, rfl, mv_nx_inv h⟩ | (simp [mv_so] at h; done)
theorem mv_r1_no {a : Nat} {st st' : List Value} {σ σ' : mv_S} {pc : Nat} {ls' : mv_V} (h : mv_r1 a st σ = some (.inl (pc, ls', st', σ'))) : False := by
  unfold mv_r1 at h
  split at h
  · split at h <;> cases h
  · cases h
/-- a frame of method M -/
def mv_Fx (z : Nat) (kad : Nat → Nat) (dC : Nat → ClassId) (dI : Nat → Nat → Nat) (cA : Nat → ClassId) (L : Nat) (xs : Nat → Int32) (p : Program) (R : Room) (s : State) (m : MethodId) (args : Array Value) (meth : Method) (c : Code) (M : Nat) : Prop :=
  p.tables.exec = Jvm.exec ∧ c.code = (mv_mi M).1 ∧ c.maxLocals = (mv_mi M).2.2.1 ∧ s.vm.findClass (mv_mi M).2.1.cls = some m.cls ∧ (∀ w ∈ mv_TS, w.before args s = true) ∧ mv_En z kad dC dI cA L xs s ∧ ((mv_mi M).2.1.name = "<init>" → meth.name = "<init>") ∧ 12 ≤ R.frames ∧ 200 ≤ R.locals
/-- at pc, with what the small machine has there, the walk goes on -/
def mv_W (z : Nat) (kad : Nat → Nat) (dC : Nat → ClassId) (dI : Nat → Nat → Nat) (cA : Nat → ClassId) (wx : va_W) (p : Program) (l : Launch) (e : Env) (R : Room) (s : State) (m : MethodId) (args : Array Value) (below : List Frame) (meth : Method) (c : Code) (Q : State → Prop) (c0 s0 : Nat) (pc : Nat) (ls : mv_V) (st : List Value) (σ : mv_S) : Prop :=
  ∀ (H : Heap) (locs : List Loc) (cells slots : Nat) (lsA : Array Slot), mv_Mo z kad dC dI cA wx σ H → va_S (fun q => z ≤ q) s.heap H locs → lv_has lsA c.maxLocals (mv_lm (mv_ad z kad) ls) → cells + c0 = mv_cc σ → slots + s0 = mv_ss σ →
    W p l e R s m args below meth c H locs cells slots Q (F0 m pc lsA (st.map (mv_cv (mv_ad z kad))))
section PREP
variable {z : Nat} {kad : Nat → Nat} {dC : Nat → ClassId} {dI : Nat → Nat → Nat} {cA : Nat → ClassId} {wx : va_W} {L : Nat} {xs : Nat → Int32}
variable {p : Program} {l : Launch} {e : Env} {R : Room} {s : State} {m : MethodId} {args : Array Value} {below : List Frame} {meth : Method} {c : Code} {Q : State → Prop} {c0 s0 M : Nat}
variable {pc pc' nx a b w : Nat} {ls ls' : mv_V} {st st' : List Value} {σ σ' : mv_S}
theorem mv_s_ldc {i : Nat} (hF : mv_Fx z kad dC dI cA L xs p R s m args meth c M) (hok : mv_ok (mv_mi M).1 (mv_mi M).2.1.cls (pc, (.ldc i, nx, a, b, w)) = true) (hlen : mv_lok (pc, (.ldc i, nx, a, b, w)) = true)
    (h : (if a = 1 then mv_nx nx ls (.int (Int32.ofNat b) :: st) σ else none) = some (.inl (pc', ls', st', σ'))) (k : mv_W z kad dC dI cA wx p l e R s m args below meth c Q c0 s0 pc' ls' st' σ') : mv_W z kad dC dI cA wx p l e R s m args below meth c Q c0 s0 pc ls st σ := by
  obtain ⟨hx, hb, hml, hown, hts, hE, -, hRf, hRl⟩ := id hF
  have hdec := mv_okd hok
  split at h
  · next hg =>
    obtain ⟨rfl, rfl, rfl, rfl⟩ := mv_nx_inv h
    obtain ⟨hd, rfl⟩ := mv_dec hdec hlen (Nat.succ_ne_zero _)
    intro H locs cells slots lsA hM hS hl hc hs
    have hw : lw_tbl[w]? = some (.constant (mv_mi M).2.1.cls i (Int32.ofNat b)) := by
      unfold mv_ok at hok
      simp only [Bool.and_eq_true, Bool.or_eq_true, decide_eq_true_eq] at hok
      rcases hok.2 with h0 | h0
      · omega
      · exact h0
    exact lv_ldc hx hb hown (hts _ (mv_TS_of hw rfl)) hd (k _ _ _ _ _ hM hS hl hc hs)
  · cases h
theorem mv_s_icmp {cd : ClassFile.Cond} {off : Int} {x y : Int32} (hF : mv_Fx z kad dC dI cA L xs p R s m args meth c M) (hok : mv_ok (mv_mi M).1 (mv_mi M).2.1.cls (pc, (.if_icmp cd off, nx, a, b, w)) = true) (hlen : mv_lok (pc, (.if_icmp cd off, nx, a, b, w)) = true)
    (h : mv_nx (if mv_cmp cd x y = true then a else nx) ls st σ = some (.inl (pc', ls', st', σ'))) (k : mv_W z kad dC dI cA wx p l e R s m args below meth c Q c0 s0 pc' ls' st' σ') : mv_W z kad dC dI cA wx p l e R s m args below meth c Q c0 s0 pc ls (.int y :: .int x :: st) σ := by
  obtain ⟨hx, hb, hml, hown, hts, hE, -, hRf, hRl⟩ := id hF
  have hdec := mv_okd hok
  have ht := mv_okt hok rfl
  obtain ⟨rfl, rfl, rfl, rfl⟩ := mv_nx_inv h
  obtain ⟨hd, rfl⟩ := mv_dec hdec hlen (Nat.succ_ne_zero _)
  intro H locs cells slots lsA hM hS hl hc hs
  have k9 := k _ _ _ _ _ hM hS hl hc hs
  cases cd with
  | eq => exact lv_icmp_eq hx hb hd ht (fun hh => by rw [if_pos (show mv_cmp ClassFile.Cond.eq x y = true from decide_eq_true hh)] at k9; exact k9) (fun hh => by rw [if_neg (show ¬ mv_cmp ClassFile.Cond.eq x y = true from fun q => hh (of_decide_eq_true q))] at k9; exact k9)
  | ne => exact lv_icmp_ne hx hb hd ht (fun hh => by rw [if_pos (show mv_cmp ClassFile.Cond.ne x y = true from decide_eq_true hh)] at k9; exact k9) (fun hh => by rw [if_neg (show ¬ mv_cmp ClassFile.Cond.ne x y = true from fun q => (of_decide_eq_true q) hh)] at k9; exact k9)
  | lt => exact lv_icmp_lt hx hb hd ht (fun hh => by rw [if_pos (show mv_cmp ClassFile.Cond.lt x y = true from decide_eq_true hh)] at k9; exact k9) (fun hh => by rw [if_neg (show ¬ mv_cmp ClassFile.Cond.lt x y = true from fun q => hh (of_decide_eq_true q))] at k9; exact k9)
  | ge => exact lv_icmp_ge hx hb hd ht (fun hh => by rw [if_pos (show mv_cmp ClassFile.Cond.ge x y = true from decide_eq_true hh)] at k9; exact k9) (fun hh => by rw [if_neg (show ¬ mv_cmp ClassFile.Cond.ge x y = true from fun q => hh (of_decide_eq_true q))] at k9; exact k9)
  | gt => exact lv_icmp_gt hx hb hd ht (fun hh => by rw [if_pos (show mv_cmp ClassFile.Cond.gt x y = true from decide_eq_true hh)] at k9; exact k9) (fun hh => by rw [if_neg (show ¬ mv_cmp ClassFile.Cond.gt x y = true from fun q => hh (of_decide_eq_true q))] at k9; exact k9)
  | le => exact lv_icmp_le hx hb hd ht (fun hh => by rw [if_pos (show mv_cmp ClassFile.Cond.le x y = true from decide_eq_true hh)] at k9; exact k9) (fun hh => by rw [if_neg (show ¬ mv_cmp ClassFile.Cond.le x y = true from fun q => hh (of_decide_eq_true q))] at k9; exact k9)
theorem mv_s_if {cd : ClassFile.Cond} {off : Int} {x : Int32} (hF : mv_Fx z kad dC dI cA L xs p R s m args meth c M) (hok : mv_ok (mv_mi M).1 (mv_mi M).2.1.cls (pc, (.ifCond cd off, nx, a, b, w)) = true) (hlen : mv_lok (pc, (.ifCond cd off, nx, a, b, w)) = true)
    (h : mv_nx (if mv_cmp cd x 0 = true then a else nx) ls st σ = some (.inl (pc', ls', st', σ'))) (k : mv_W z kad dC dI cA wx p l e R s m args below meth c Q c0 s0 pc' ls' st' σ') : mv_W z kad dC dI cA wx p l e R s m args below meth c Q c0 s0 pc ls (.int x :: st) σ := by
  obtain ⟨hx, hb, hml, hown, hts, hE, -, hRf, hRl⟩ := id hF
  have hdec := mv_okd hok
  have ht := mv_okt hok rfl
  obtain ⟨rfl, rfl, rfl, rfl⟩ := mv_nx_inv h
  obtain ⟨hd, rfl⟩ := mv_dec hdec hlen (Nat.succ_ne_zero _)
  intro H locs cells slots lsA hM hS hl hc hs
  have k9 := k _ _ _ _ _ hM hS hl hc hs
  cases cd with
  | eq => exact lv_if_eq hx hb hd ht (fun hh => by rw [if_pos (show mv_cmp ClassFile.Cond.eq x 0 = true from decide_eq_true hh)] at k9; exact k9) (fun hh => by rw [if_neg (show ¬ mv_cmp ClassFile.Cond.eq x 0 = true from fun q => hh (of_decide_eq_true q))] at k9; exact k9)
  | ne => exact lv_if_ne hx hb hd ht (fun hh => by rw [if_pos (show mv_cmp ClassFile.Cond.ne x 0 = true from decide_eq_true hh)] at k9; exact k9) (fun hh => by rw [if_neg (show ¬ mv_cmp ClassFile.Cond.ne x 0 = true from fun q => (of_decide_eq_true q) hh)] at k9; exact k9)
  | lt => exact lv_if_lt hx hb hd ht (fun hh => by rw [if_pos (show mv_cmp ClassFile.Cond.lt x 0 = true from decide_eq_true hh)] at k9; exact k9) (fun hh => by rw [if_neg (show ¬ mv_cmp ClassFile.Cond.lt x 0 = true from fun q => hh (of_decide_eq_true q))] at k9; exact k9)
  | ge => exact lv_if_ge hx hb hd ht (fun hh => by rw [if_pos (show mv_cmp ClassFile.Cond.ge x 0 = true from decide_eq_true hh)] at k9; exact k9) (fun hh => by rw [if_neg (show ¬ mv_cmp ClassFile.Cond.ge x 0 = true from fun q => hh (of_decide_eq_true q))] at k9; exact k9)
  | gt => exact lv_if_gt hx hb hd ht (fun hh => by rw [if_pos (show mv_cmp ClassFile.Cond.gt x 0 = true from decide_eq_true hh)] at k9; exact k9) (fun hh => by rw [if_neg (show ¬ mv_cmp ClassFile.Cond.gt x 0 = true from fun q => hh (of_decide_eq_true q))] at k9; exact k9)
  | le => exact lv_if_le hx hb hd ht (fun hh => by rw [if_pos (show mv_cmp ClassFile.Cond.le x 0 = true from decide_eq_true hh)] at k9; exact k9) (fun hh => by rw [if_neg (show ¬ mv_cmp ClassFile.Cond.le x 0 = true from fun q => hh (of_decide_eq_true q))] at k9; exact k9)
end PREP
end
section
/-! THE ROWS OVER THE HEAP -/
theorem mv_kN : ∀ o, o < 142 → (mv_kd o).1 < 8 → (mv_cls[(mv_kd o).1]?).map (fun q => q.2.2) = some (mv_kd o).2 := by decide +kernel
theorem mv_kA : ∀ o, o < 142 → ¬ (mv_kd o).1 < 8 → 20 ≤ (mv_kd o).1 ∧ (mv_kd o).1 < 26 := by decide +kernel
theorem mv_isk {n o a : Nat} (h : mv_is n o a = true) : o < n ∧ (mv_kd o).1 = a := by
  simp only [mv_is, Bool.and_eq_true, decide_eq_true_eq] at h
  exact h
theorem mv_ixk {i : Int32} {n : Nat} (h : mv_ix i n = true) : vp_in i n := by
  exact (of_decide_eq_true (show decide (¬ (i < 0 ∨ n ≤ i.toNatClampNeg)) = true from h) : ¬ (i < 0 ∨ n ≤ i.toNatClampNeg))
theorem mv_fwk {own : String} {i a b w : Nat} (h : mv_fw own i a b w = true) : lw_tbl[w]? = some (.fieldLink own i (mv_ft a b).1 (mv_ft a b).2.1 (mv_ft a b).2.2) ∨ ∃ hh, lw_tbl[w]? = some (.fieldLinkNest own i (mv_ft a b).1 (mv_ft a b).2.1 (mv_ft a b).2.2 hh) := by
  unfold mv_fw at h
  split at h
  · next o j r n d e =>
    simp only [Bool.and_eq_true, decide_eq_true_eq] at h
    obtain ⟨⟨rfl, rfl⟩, h3⟩ := h
    rw [← h3]; exact Or.inl e
  · next o j r n d hh e =>
    simp only [Bool.and_eq_true, decide_eq_true_eq] at h
    obtain ⟨⟨rfl, rfl⟩, h3⟩ := h
    rw [← h3]; exact Or.inr ⟨hh, e⟩
  · cases h
theorem mv_ce_o {ad : Nat → Nat} {cA : Nat → ClassId} {o a N : Nat} {f : Nat → Value} (h : mv_kd o = (a, N)) (ha : a < 8) : mv_ce ad cA o f = .inr (a, (List.range N).map (fun j => mv_cv ad (f j))) := by
  unfold mv_ce
  rw [h, if_pos ha]
theorem mv_fit_ok {ad : Nat → Nat} {ty : FieldType} {v : Value} (h : mv_fit ty v = true) : narrow ty (mv_cv ad v) = mv_cv ad v ∧ fits ty (mv_cv ad v) = true := by
  unfold mv_fit at h
  split at h
  · exact ⟨rfl, rfl⟩
  · simp only [Bool.or_eq_true, decide_eq_true_eq] at h
    rcases h with rfl | rfl
    · exact ⟨(by decide : narrow .boolean (.int 0) = .int 0), (by decide : fits .boolean (.int 0) = true)⟩
    · exact ⟨(by decide : narrow .boolean (.int 1) = .int 1), (by decide : fits .boolean (.int 1) = true)⟩
  · exact ⟨rfl, rfl⟩
  · exact ⟨rfl, rfl⟩
  · exact ⟨rfl, rfl⟩
  · cases h
theorem mv_fs_set {ad : Nat → Nat} {N b : Nat} {f : Nat → Value} {v : Value} : ((List.range N).map (fun j => mv_cv ad (f j))).set b (mv_cv ad v) = (List.range N).map (fun j => mv_cv ad (if j = b then v else f j)) := by
  apply List.ext_getElem?
  intro j
  rw [List.getElem?_set]
  by_cases hj : j < N
  · by_cases e : b = j
    · subst e; simp [hj]
    · have e' : ¬ j = b := fun h => e h.symm
      simp [e, e', hj]
  · by_cases e : b = j
    · subst e; simp [hj]
    · simp [e, hj]
section HEAP
variable {z : Nat} {kad : Nat → Nat} {dC : Nat → ClassId} {dI : Nat → Nat → Nat} {cA : Nat → ClassId} {wx : va_W} {L : Nat} {xs : Nat → Int32}
variable {p : Program} {l : Launch} {e : Env} {R : Room} {s : State} {m : MethodId} {args : Array Value} {below : List Frame} {meth : Method} {c : Code} {Q : State → Prop} {c0 s0 M : Nat}
variable {pc pc' nx a b w : Nat} {ls ls' : mv_V} {st st' : List Value} {σ σ' : mv_S}
theorem mv_s_acmp {cd : ClassFile.ACond} {off : Int} {x y : Nat} (hF : mv_Fx z kad dC dI cA L xs p R s m args meth c M) (hin : mv_in M pc = some (.if_acmp cd off, nx, a, b, w))
    (h : (if 1000 ≤ x ∧ x < 1014 ∧ 1000 ≤ y ∧ y < 1014 then mv_nx (if mv_ac cd x y = true then a else nx) ls st σ else none) = some (.inl (pc', ls', st', σ')))
    (k : mv_W z kad dC dI cA wx p l e R s m args below meth c Q c0 s0 pc' ls' st' σ') : mv_W z kad dC dI cA wx p l e R s m args below meth c Q c0 s0 pc ls (.ref y :: .ref x :: st) σ := by
  obtain ⟨hok, hlen⟩ := mv_row hin
  obtain ⟨hx, hb, hml, hown, hts, hE, -, hRf, hRl⟩ := id hF
  have hdec := mv_okd hok
  have ht := mv_okt hok rfl
  split at h
  · next hg =>
    obtain ⟨g1, g2, g3, g4⟩ := hg
    have ex : mv_ad z kad x = kad x := if_neg (by omega)
    have ey : mv_ad z kad y = kad y := if_neg (by omega)
    have hinj : kad x = kad y ↔ x = y := by
      refine ⟨fun q => ?_, fun q => by rw [q]⟩
      have q9 := hE.2.2.2.2.1 (x - 1000) (y - 1000) (by omega) (by omega) (by rw [show 1000 + (x - 1000) = x by omega, show 1000 + (y - 1000) = y by omega]; exact q)
      omega
    obtain ⟨rfl, rfl, rfl, rfl⟩ := mv_nx_inv h
    obtain ⟨hd, rfl⟩ := mv_dec hdec hlen (Nat.succ_ne_zero _)
    intro H locs cells slots lsA hM hS hl hc hs
    have k9 := k _ _ _ _ _ hM hS hl hc hs
    show W p l e R s m args below meth c H locs cells slots Q (F0 m pc lsA (.ref (mv_ad z kad y) :: .ref (mv_ad z kad x) :: st'.map (mv_cv (mv_ad z kad))))
    rw [ex, ey]
    cases cd with
    | eq => exact lv_acmp_eq (rx := some (kad x)) (ry := some (kad y)) hx hb hd ht (fun hh => by rw [if_pos (show mv_ac ClassFile.ACond.eq x y = true from decide_eq_true (hinj.mp (Option.some.inj hh)))] at k9; exact k9) (fun hh => by rw [if_neg (show ¬ mv_ac ClassFile.ACond.eq x y = true from fun q => hh (congrArg some (hinj.mpr (of_decide_eq_true q))))] at k9; exact k9)
    | ne => exact lv_acmp_ne (rx := some (kad x)) (ry := some (kad y)) hx hb hd ht (fun hh => by rw [if_pos (show mv_ac ClassFile.ACond.ne x y = true from decide_eq_true (fun q => hh (congrArg some (hinj.mpr q))))] at k9; exact k9) (fun hh => by rw [if_neg (show ¬ mv_ac ClassFile.ACond.ne x y = true from fun q => (of_decide_eq_true q) (hinj.mp (Option.some.inj hh)))] at k9; exact k9)
  · cases h
theorem mv_s_get {i : Nat} (hF : mv_Fx z kad dC dI cA L xs p R s m args meth c M) (hin : mv_in M pc = some (.getfield i, nx, a, b, w))
    (h : mv_get a b nx ls st σ = some (.inl (pc', ls', st', σ'))) (k : mv_W z kad dC dI cA wx p l e R s m args below meth c Q c0 s0 pc' ls' st' σ') : mv_W z kad dC dI cA wx p l e R s m args below meth c Q c0 s0 pc ls st σ := by
  obtain ⟨hok, hlen⟩ := mv_row hin
  have hsd := mv_row2 hin
  obtain ⟨hx, hb, hml, hown, hts, hE, -, hRf, hRl⟩ := id hF
  have hdec := mv_okd hok
  have hfw : mv_fw (mv_mi M).2.1.cls i a b w = true := by
    unfold mv_ok at hok
    simp only [Bool.and_eq_true] at hok
    exact hok.2
  unfold mv_get at h
  split at h
  · next o st1 =>
    split at h
    · next hg =>
      obtain ⟨ho, hk⟩ := mv_isk hg
      obtain ⟨rfl, rfl, rfl, rfl⟩ := mv_nx_inv h
      obtain ⟨hd, rfl⟩ := mv_dec hdec hlen (Nat.succ_ne_zero _)
      simp only [mv_sd, Bool.and_eq_true, Bool.or_eq_true, decide_eq_true_eq] at hsd
      obtain ⟨-, ha9, hsd⟩ := hsd
      split at hsd
      · next C T N hcl =>
        have hbN : b < N := of_decide_eq_true hsd
        obtain ⟨c1, c2, c3, c4, c5⟩ := mv_ck1 ha9 hcl
        obtain ⟨c5, c6⟩ := c5 b hbN
        intro H locs cells slots lsA hM hS hl hc hs
        have k9 := k _ _ _ _ _ hM hS hl hc hs
        have hn : o < 142 := Nat.lt_of_lt_of_le ho hM.2.2.1
        have hkd : mv_kd o = (a, N) := by
          have h1 := mv_kN o hn (by rw [hk]; exact ha9)
          rw [hk, hcl] at h1
          exact Prod.ext hk (Option.some.inj h1).symm
        have he := mv_wl_get (ad := mv_ad z kad) (cA := cA) (wx := wx) (h := σ'.2.2) ho
        rw [mv_ce_o hkd ha9] at he
        have hv : ((List.range N).map (fun j => mv_cv (mv_ad z kad) (σ'.2.2 o j)))[b]? = some (mv_cv (mv_ad z kad) (σ'.2.2 o b)) := by simp [hbN]
        have hw := mv_fwk hfw
        rw [c5] at hw
        rcases hw with hw | ⟨hh, hw⟩
        · exact va_get (D := (dC, dI)) (ci := a) (C := C) (T := T) (N := N) hx hb hts c1 hown hE.1 hM.1 o he hcl b hbN (hts _ (mv_TS_of hw rfl)) (fun x h9 => by rw [c6] at h9; exact h9) hv hd k9
        · exact va_getN (D := (dC, dI)) (ci := a) (C := C) (T := T) (N := N) (host := hh) hx hb hts c1 hown hE.1 hM.1 o he hcl b hbN (va_Nw.use rfl (mv_EnN hE hw rfl)) (fun x h9 => by rw [c6] at h9; exact h9) hv hd k9
      · cases hsd
    · cases h
  · cases h
theorem mv_s_put {i : Nat} (hF : mv_Fx z kad dC dI cA L xs p R s m args meth c M) (hin : mv_in M pc = some (.putfield i, nx, a, b, w))
    (h : mv_put a b nx ls st σ = some (.inl (pc', ls', st', σ'))) (k : mv_W z kad dC dI cA wx p l e R s m args below meth c Q c0 s0 pc' ls' st' σ') : mv_W z kad dC dI cA wx p l e R s m args below meth c Q c0 s0 pc ls st σ := by
  obtain ⟨hok, hlen⟩ := mv_row hin
  have hsd := mv_row2 hin
  obtain ⟨hx, hb, hml, hown, hts, hE, hini, hRf, hRl⟩ := id hF
  have hdec := mv_okd hok
  have hfw : mv_fw (mv_mi M).2.1.cls i a b w = true := by
    unfold mv_ok at hok
    simp only [Bool.and_eq_true] at hok
    exact hok.2
  unfold mv_put at h
  split at h
  · next v o st1 =>
    split at h
    · next hg =>
      obtain ⟨hg, hfit⟩ := hg
      obtain ⟨o, rfl⟩ : ∃ q : Nat, q = o := ⟨o, rfl⟩
      obtain ⟨ho, hk⟩ := mv_isk hg
      obtain ⟨rfl, rfl, rfl, rfl⟩ := mv_nx_inv h
      obtain ⟨hd, rfl⟩ := mv_dec hdec hlen (Nat.succ_ne_zero _)
      simp only [mv_sd, Bool.and_eq_true, Bool.or_eq_true, decide_eq_true_eq, Bool.not_eq_true'] at hsd
      obtain ⟨-, ⟨hfin, ha9⟩, hsd⟩ := hsd
      split at hsd
      · next C T N hcl =>
        have hbN : b < N := of_decide_eq_true hsd
        obtain ⟨c1, c2, c3, c4, c5⟩ := mv_ck1 ha9 hcl
        obtain ⟨c5, c6⟩ := c5 b hbN
        intro H locs cells slots lsA hM hS hl hc hs
        have hn : o < 142 := Nat.lt_of_lt_of_le ho hM.2.2.1
        have hkd : mv_kd o = (a, N) := by
          have h1 := mv_kN o hn (by rw [hk]; exact ha9)
          rw [hk, hcl] at h1
          exact Prod.ext hk (Option.some.inj h1).symm
        have he := mv_wl_get (ad := mv_ad z kad) (cA := cA) (wx := wx) (h := σ.2.2) ho
        rw [mv_ce_o hkd ha9] at he
        obtain ⟨hnar, hfits⟩ := mv_fit_ok (ad := mv_ad z kad) hfit
        have hap := va_apart (own := (mv_mi M).2.1.cls) hts c1 (mv_ty a) c2 c3 hE.1 hcl
        obtain ⟨r, h1, cell, q1, q2, q3, q4⟩ := hM.1 o _ he
        have hr : r = (C, T, N) := Option.some.inj (h1.symm.trans hcl)
        subst hr
        obtain ⟨hSl, hfc, kC, hkC, hkind⟩ := hE.1.1 a _ hcl
        obtain ⟨cf, kf, fi, f, hi, hsl⟩ := hSl b hbN
        have hlay := hts _ (c1 _ (u_in_lay hbN))
        have hst := (u_facts hfc hkC (u_lays hts c1 hbN) hi).1
        have hD := mv_wl_D (z := z) (kad := kad) (cA := cA) (wx := wx) (h := σ.2.2) hM.2.2
        have hl9 : b < ((List.range N).map (fun j => mv_cv (mv_ad z kad) (σ.2.2 o j))).length := by simp [hbN]
        have key : ∀ (H' : Heap) (locs' : List Loc), H'[mv_ad z kad o]? = some (cell.setSlot f.slot (mv_cv (mv_ad z kad) v)) → H'.size = H.size → (∀ q, q ≠ mv_ad z kad o → H'[q]? = H[q]?) → locs' = locs ++ [⟨mv_ad z kad o, f.slot⟩] →
            W p l e R s m args below meth c H' locs' cells slots Q (F0 m (pc + 3) lsA (st'.map (mv_cv (mv_ad z kad)))) := by
          intro H' locs' e1 e2 e3 e4
          subst e4
          rw [hsl] at e1 ⊢
          refine k _ _ _ _ _ ⟨?_, fun q => e2.trans (hM.2.1 q), hM.2.2⟩ (hS.put e2 e3 (hD.2 o _ he)) hl hc hs
          have h8 : va_P (dC, dI) mv_cls ((mv_wl (mv_ad z kad) cA wx σ.2.1 σ.2.2).set o (mv_ad z kad o, .inr (a, ((List.range N).map (fun j => mv_cv (mv_ad z kad) (σ.2.2 o j))).set b (mv_cv (mv_ad z kad) v)))) H' := hM.1.set hD he ⟨_, hcl, t_OB.to (V := updV (vp_V _) b (mv_cv (mv_ad z kad) v)) ⟨_, e1, q2, q3, t_set q4 hap hbN _⟩ (fun j _ => vp_updV_set hl9 _ j)⟩ e3
          show va_P (dC, dI) mv_cls (mv_wl (mv_ad z kad) cA wx σ.2.1 (mv_up σ.2.2 o b v)) H'
          rw [mv_up_o, ← mv_wl_set ho, mv_ce_o hkd ha9, ← mv_fs_set]
          exact h8
        have hw := mv_fwk hfw
        rw [c5] at hw
        unfold u_lay at hlay
        by_cases hf9 : mv_fin a b = true
        · rcases hfin with hfin | ⟨⟨hname, hdecl⟩, hfl⟩
          · rw [hf9] at hfin; cases hfin
          have hdecl : (mv_ft a b).1 = (mv_mi M).2.1.cls := hdecl
          rw [c5] at hdecl
          have hdecl : C = (mv_mi M).2.1.cls := hdecl
          rw [if_pos ((c4 b).trans hf9)] at hlay
          have hcf : m.cls = cf := by
            obtain ⟨_, _, c', _, _, _, -, -, hf', -, -, -, hown2, -⟩ := Cond.laysFinal_spec hlay
            have e1 : c' = cf := by have := hi.symm.trans hf'; simp at this; exact this.1.symm
            rw [c6, hdecl] at hown2
            rw [← e1]; exact Option.some.inj (hown.symm.trans hown2)
          have h6 := u_fits hfc hkC hkind (Or.inr hlay) hi (c2 b hbN) hnar hfits
          rw [c6] at hi
          rcases hw with hw | ⟨hh, hw⟩
          · exact W.putFinK hx hb hown (hts _ (mv_TS_of hw rfl)) hi hst hcf (hini hname) (by rw [q2]; exact h6) q1 q3 (by rw [hsl]; exact k2_hasslot (q4 b hbN)) rfl rfl hd fun H' e1 e2 e3 => key H' _ e1 e2 e3 rfl
          · rw [hw] at hfl; cases hfl
        · rw [if_neg (by rw [c4 b]; exact hf9)] at hlay
          have h6 := u_store hfc hkC hkind hlay hi (c2 b hbN) hnar hfits
          rw [c6] at hi
          rcases hw with hw | ⟨hh, hw⟩
          · exact W.putK hx hb (f := f) ⟨hown, hts _ (mv_TS_of hw rfl), ⟨_, _, _, hi⟩, hst⟩ (by rw [q2]; exact h6) q1 q3 (by rw [hsl]; exact k2_hasslot (q4 b hbN)) rfl rfl hd fun H' e1 e2 e3 => key H' _ e1 e2 e3 rfl
          · exact va_WputK hx hb (f := f) hown (va_Nw.use rfl (mv_EnN hE hw rfl)) hi hst (by rw [q2]; exact h6) q1 q3 (by rw [hsl]; exact k2_hasslot (q4 b hbN)) rfl rfl hd fun H' e1 e2 e3 => key H' _ e1 e2 e3 rfl
      · cases hsd
    · cases h
  · cases h
end HEAP
end
section
/-! ROWS OVER ARRAYS, STATICS, LENGTHS -/
theorem mv_ce_i {ad : Nat → Nat} {cA : Nat → ClassId} {o k N : Nat} {f : Nat → Value} (h : mv_kd o = (k, N)) (hk : k = 20 ∨ k = 21) : mv_ce ad cA o f = .inl (cA k, (N, .inl (fun j => mv_iv (f j)))) := by
  unfold mv_ce
  rw [h]
  rcases hk with rfl | rfl <;> rfl
theorem mv_ce_q {ad : Nat → Nat} {cA : Nat → ClassId} {o k N : Nat} {f : Nat → Value} (h : mv_kd o = (k, N)) (hk : k = 24 ∨ k = 25) : mv_ce ad cA o f = .inl (cA k, (N, .inr (.inr (.inr (.inr (fun j => mv_ov ad (f j))))))) := by
  unfold mv_ce
  rw [h]
  rcases hk with rfl | rfl <;> rfl
section ARR
variable {z : Nat} {kad : Nat → Nat} {dC : Nat → ClassId} {dI : Nat → Nat → Nat} {cA : Nat → ClassId} {wx : va_W} {L : Nat} {xs : Nat → Int32}
variable {p : Program} {l : Launch} {e : Env} {R : Room} {s : State} {m : MethodId} {args : Array Value} {below : List Frame} {meth : Method} {c : Code} {Q : State → Prop} {c0 s0 M : Nat}
variable {pc pc' nx a b w : Nat} {ls ls' : mv_V} {st st' : List Value} {σ σ' : mv_S}
theorem mv_s_static {i : Nat} (hF : mv_Fx z kad dC dI cA L xs p R s m args meth c M) (hin : mv_in M pc = some (.getstatic i, nx, a, b, w))
    (h : mv_nx nx ls (.ref a :: st) σ = some (.inl (pc', ls', st', σ'))) (k : mv_W z kad dC dI cA wx p l e R s m args below meth c Q c0 s0 pc' ls' st' σ') : mv_W z kad dC dI cA wx p l e R s m args below meth c Q c0 s0 pc ls st σ := by
  obtain ⟨hok, hlen⟩ := mv_row hin
  have hsd := mv_row2 hin
  obtain ⟨hx, hb, hml, hown, hts, hE, -, hRf, hRl⟩ := id hF
  have hdec := mv_okd hok
  have hfw : mv_sw (mv_mi M).2.1.cls i a w = true := by
    unfold mv_ok at hok
    simp only [Bool.and_eq_true] at hok
    exact hok.2
  have hmem : a ∈ [1000, 1001, 1002, 1003, 1004, 1005, 1006, 1007, 1010, 1011, 1012, 1013, 1021] := by
    simp only [mv_sd, Bool.and_eq_true, decide_eq_true_eq] at hsd
    exact hsd.2
  have hge : 1000 ≤ a := by
    simp only [List.mem_cons, List.not_mem_nil, or_false] at hmem
    omega
  obtain ⟨rfl, rfl, rfl, rfl⟩ := mv_nx_inv h
  obtain ⟨hd, rfl⟩ := mv_dec hdec hlen (Nat.succ_ne_zero _)
  intro H locs cells slots lsA hM hS hl hc hs
  have k9 := k _ _ _ _ _ hM hS hl hc hs
  have k8 : W p l e R s m args below meth c H locs cells slots Q (F0 m (pc + 3) lsA (.ref (mv_ad z kad a) :: st.map (mv_cv (mv_ad z kad)))) := k9
  rw [show mv_ad z kad a = kad a from if_neg (by omega)] at k8
  have hZ := hE.2.2.1 a hmem
  unfold mv_sw at hfw
  split at hfw
  · next o j r n d e9 =>
    simp only [Bool.and_eq_true, decide_eq_true_eq] at hfw
    obtain ⟨⟨rfl, rfl⟩, h3⟩ := hfw
    rw [← h3] at hZ
    exact va_gets hx hb hZ hS hown (hts _ (mv_TS_of e9 rfl)) (fun _ h9 => h9) hd k8
  · cases hfw
theorem mv_s_iald (hF : mv_Fx z kad dC dI cA L xs p R s m args meth c M) (hin : mv_in M pc = some (.iaload, nx, a, b, w))
    (h : mv_al L xs 20 nx ls st σ = some (.inl (pc', ls', st', σ'))) (k : mv_W z kad dC dI cA wx p l e R s m args below meth c Q c0 s0 pc' ls' st' σ') : mv_W z kad dC dI cA wx p l e R s m args below meth c Q c0 s0 pc ls st σ := by
  obtain ⟨hok, hlen⟩ := mv_row hin
  obtain ⟨hx, hb, hml, hown, hts, hE, -, hRf, hRl⟩ := id hF
  have hdec := mv_okd hok
  unfold mv_al at h
  split at h
  · next i o st1 =>
    obtain ⟨o, rfl⟩ : ∃ q : Nat, q = o := ⟨o, rfl⟩
    split at h
    · split at h
      · next hg =>
        obtain ⟨ho, hk⟩ := mv_isk hg.1
        have hix := mv_ixk hg.2
        generalize hv : σ.2.2 o i.toNatClampNeg = v at h
        cases v <;> first | (simp at h; done) | skip
        rename_i x
        have h : mv_nx nx ls (.int x :: st1) σ = some (.inl (pc', ls', st', σ')) := h
        obtain ⟨rfl, rfl, rfl, rfl⟩ := mv_nx_inv h
        obtain ⟨hd, rfl⟩ := mv_dec hdec hlen (Nat.succ_ne_zero _)
        intro H locs cells slots lsA hM hS hl hc hs
        have k9 := k _ _ _ _ _ hM hS hl hc hs
        have he := mv_wl_get (ad := mv_ad z kad) (cA := cA) (wx := wx) (h := σ'.2.2) ho
        rw [mv_ce_i (show mv_kd o = (20, (mv_kd o).2) from Prod.ext hk rfl) (by decide)] at he
        refine va_iald (D := (dC, dI)) hx hb hE.1 hM.1 o 0 he rfl hix hd ?_
        have e9 : mv_iv (σ'.2.2 o i.toNatClampNeg) = x := by rw [hv]; rfl
        show W p l e R s m args below meth c H locs cells slots Q (F0 m (pc + 1) lsA (.int (mv_iv (σ'.2.2 o i.toNatClampNeg)) :: st1.map (mv_cv (mv_ad z kad))))
        rw [e9]
        exact k9
      · cases h
    · next hno =>
      split at h
      · next h21 =>
        split at h
        · next hg =>
          subst h21
          have hix := mv_ixk hg.2
          obtain ⟨rfl, rfl, rfl, rfl⟩ := mv_nx_inv h
          obtain ⟨hd, rfl⟩ := mv_dec hdec hlen (Nat.succ_ne_zero _)
          intro H locs cells slots lsA hM hS hl hc hs
          have k9 := k _ _ _ _ _ hM hS hl hc hs
          exact va_ti hx hb hE.2.2.2.2.2.1 hS hix rfl hd k9
        · cases h
      · split at h
        · next h20 =>
          split at h
          · next hg =>
            subst h20
            have hix := mv_ixk hg.2
            obtain ⟨rfl, rfl, rfl, rfl⟩ := mv_nx_inv h
            obtain ⟨hd, rfl⟩ := mv_dec hdec hlen (Nat.succ_ne_zero _)
            intro H locs cells slots lsA hM hS hl hc hs
            have k9 := k _ _ _ _ _ hM hS hl hc hs
            obtain ⟨-, hbz, hX⟩ := hE.2.2.2.2.2.2.1
            exact va_sld hx hb hX (Nat.lt_of_lt_of_le hbz hE.2.1) (Nat.not_le.mpr hbz) hS hix hd k9
          · cases h
        · cases h
  · cases h
theorem mv_s_cald (hF : mv_Fx z kad dC dI cA L xs p R s m args meth c M) (hin : mv_in M pc = some (.caload, nx, a, b, w))
    (h : mv_al L xs 21 nx ls st σ = some (.inl (pc', ls', st', σ'))) (k : mv_W z kad dC dI cA wx p l e R s m args below meth c Q c0 s0 pc' ls' st' σ') : mv_W z kad dC dI cA wx p l e R s m args below meth c Q c0 s0 pc ls st σ := by
  obtain ⟨hok, hlen⟩ := mv_row hin
  obtain ⟨hx, hb, hml, hown, hts, hE, -, hRf, hRl⟩ := id hF
  have hdec := mv_okd hok
  unfold mv_al at h
  split at h
  · next i o st1 =>
    obtain ⟨o, rfl⟩ : ∃ q : Nat, q = o := ⟨o, rfl⟩
    split at h
    · split at h
      · next hg =>
        obtain ⟨ho, hk⟩ := mv_isk hg.1
        have hix := mv_ixk hg.2
        generalize hv : σ.2.2 o i.toNatClampNeg = v at h
        cases v <;> first | (simp at h; done) | skip
        rename_i x
        have h : mv_nx nx ls (.int x :: st1) σ = some (.inl (pc', ls', st', σ')) := h
        obtain ⟨rfl, rfl, rfl, rfl⟩ := mv_nx_inv h
        obtain ⟨hd, rfl⟩ := mv_dec hdec hlen (Nat.succ_ne_zero _)
        intro H locs cells slots lsA hM hS hl hc hs
        have k9 := k _ _ _ _ _ hM hS hl hc hs
        have he := mv_wl_get (ad := mv_ad z kad) (cA := cA) (wx := wx) (h := σ'.2.2) ho
        rw [mv_ce_i (show mv_kd o = (21, (mv_kd o).2) from Prod.ext hk rfl) (by decide)] at he
        refine va_cald (D := (dC, dI)) hx hb hE.1 hM.1 o 1 he rfl hix hd ?_
        have e9 : mv_iv (σ'.2.2 o i.toNatClampNeg) = x := by rw [hv]; rfl
        show W p l e R s m args below meth c H locs cells slots Q (F0 m (pc + 1) lsA (.int (mv_iv (σ'.2.2 o i.toNatClampNeg)) :: st1.map (mv_cv (mv_ad z kad))))
        rw [e9]
        exact k9
      · cases h
    · next hno =>
      exfalso
      split at h
      · split at h
        · next hg => exact absurd hg.1 (by decide)
        · cases h
      · split at h
        · split at h
          · next hg => exact absurd hg.1 (by decide)
          · cases h
        · cases h
  · cases h
theorem mv_s_aald (hF : mv_Fx z kad dC dI cA L xs p R s m args meth c M) (hin : mv_in M pc = some (.aaload, nx, a, b, w))
    (h : mv_aa L xs nx ls st σ = some (.inl (pc', ls', st', σ'))) (k : mv_W z kad dC dI cA wx p l e R s m args below meth c Q c0 s0 pc' ls' st' σ') : mv_W z kad dC dI cA wx p l e R s m args below meth c Q c0 s0 pc ls st σ := by
  obtain ⟨hok, hlen⟩ := mv_row hin
  obtain ⟨hx, hb, hml, hown, hts, hE, -, hRf, hRl⟩ := id hF
  have hdec := mv_okd hok
  unfold mv_aa at h
  split at h
  · next i o st1 =>
    obtain ⟨o, rfl⟩ : ∃ q : Nat, q = o := ⟨o, rfl⟩
    split at h
    · cases h
    next hno =>
    by_cases ho9 : o < 142
    · rw [if_pos ho9] at h
      unfold mv_al at h
      simp only [if_pos ho9] at h
      split at h
      · next hg =>
        obtain ⟨ho, -⟩ := mv_isk hg.1
        have hix := mv_ixk hg.2
        by_cases hk : (mv_kd o).1 = 24
        · rw [hk] at h
          generalize hv : σ.2.2 o i.toNatClampNeg = v at h
          cases v <;> first | (simp at h; done) | skip
          rename_i x
          have h : mv_nx nx ls (.ref x :: st1) σ = some (.inl (pc', ls', st', σ')) := h
          obtain ⟨rfl, rfl, rfl, rfl⟩ := mv_nx_inv h
          obtain ⟨hd, rfl⟩ := mv_dec hdec hlen (Nat.succ_ne_zero _)
          intro H locs cells slots lsA hM hS hl hc hs
          have k9 := k _ _ _ _ _ hM hS hl hc hs
          have he := mv_wl_get (ad := mv_ad z kad) (cA := cA) (wx := wx) (h := σ'.2.2) ho
          rw [mv_ce_q (show mv_kd o = (24, (mv_kd o).2) from Prod.ext hk rfl) (by decide)] at he
          refine va_aldq (D := (dC, dI)) hx hb hE.1 hM.1 o 4 he rfl hix hd ?_
          have e9 : mv_ov (mv_ad z kad) (σ'.2.2 o i.toNatClampNeg) = some (mv_ad z kad x) := by rw [hv]; rfl
          show W p l e R s m args below meth c H locs cells slots Q (F0 m (pc + 1) lsA (va_rf (mv_ov (mv_ad z kad) (σ'.2.2 o i.toNatClampNeg)) :: st1.map (mv_cv (mv_ad z kad))))
          rw [e9]
          exact k9
        · by_cases hk : (mv_kd o).1 = 25
          · rw [hk] at h
            generalize hv : σ.2.2 o i.toNatClampNeg = v at h
            cases v <;> first | (simp at h; done) | skip
            rename_i x
            have h : mv_nx nx ls (.ref x :: st1) σ = some (.inl (pc', ls', st', σ')) := h
            obtain ⟨rfl, rfl, rfl, rfl⟩ := mv_nx_inv h
            obtain ⟨hd, rfl⟩ := mv_dec hdec hlen (Nat.succ_ne_zero _)
            intro H locs cells slots lsA hM hS hl hc hs
            have k9 := k _ _ _ _ _ hM hS hl hc hs
            have he := mv_wl_get (ad := mv_ad z kad) (cA := cA) (wx := wx) (h := σ'.2.2) ho
            rw [mv_ce_q (show mv_kd o = (25, (mv_kd o).2) from Prod.ext hk rfl) (by decide)] at he
            refine va_aldq (D := (dC, dI)) hx hb hE.1 hM.1 o 5 he rfl hix hd ?_
            have e9 : mv_ov (mv_ad z kad) (σ'.2.2 o i.toNatClampNeg) = some (mv_ad z kad x) := by rw [hv]; rfl
            show W p l e R s m args below meth c H locs cells slots Q (F0 m (pc + 1) lsA (va_rf (mv_ov (mv_ad z kad) (σ'.2.2 o i.toNatClampNeg)) :: st1.map (mv_cv (mv_ad z kad))))
            rw [e9]
            exact k9
          · exact absurd ⟨ho9, ‹¬ (mv_kd o).1 = 24›, hk⟩ hno
      · cases h
    · rw [if_neg ho9] at h
      unfold mv_al at h
      simp only [if_neg ho9] at h
      split at h
      · split at h
        · next hg => exact absurd hg.1 (by decide)
        · cases h
      · split at h
        · split at h
          · next hg => exact absurd hg.1 (by decide)
          · cases h
        · cases h
  · cases h
theorem mv_s_iast (hF : mv_Fx z kad dC dI cA L xs p R s m args meth c M) (hin : mv_in M pc = some (.iastore, nx, a, b, w))
    (h : mv_as 20 nx ls st σ = some (.inl (pc', ls', st', σ'))) (k : mv_W z kad dC dI cA wx p l e R s m args below meth c Q c0 s0 pc' ls' st' σ') : mv_W z kad dC dI cA wx p l e R s m args below meth c Q c0 s0 pc ls st σ := by
  obtain ⟨hok, hlen⟩ := mv_row hin
  obtain ⟨hx, hb, hml, hown, hts, hE, -, hRf, hRl⟩ := id hF
  have hdec := mv_okd hok
  unfold mv_as at h
  split at h
  · next v i o st1 =>
    obtain ⟨o, rfl⟩ : ∃ q : Nat, q = o := ⟨o, rfl⟩
    split at h
    · next hg =>
      obtain ⟨hn, hg1, hg2⟩ := hg
      obtain ⟨ho, hk⟩ := mv_isk hg1
      have hix := mv_ixk hg2
      cases v <;> first | (simp at h; done) | skip
      rename_i x
      have h : mv_nx nx ls st1 (σ.1, σ.2.1, mv_up σ.2.2 o i.toNatClampNeg (.int x)) = some (.inl (pc', ls', st', σ')) := h
      obtain ⟨rfl, rfl, rfl, rfl⟩ := mv_nx_inv h
      obtain ⟨hd, rfl⟩ := mv_dec hdec hlen (Nat.succ_ne_zero _)
      intro H locs cells slots lsA hM hS hl hc hs
      have he := mv_wl_get (ad := mv_ad z kad) (cA := cA) (wx := wx) (h := σ.2.2) ho
      have hD := mv_wl_D (z := z) (kad := kad) (cA := cA) (wx := wx) (h := σ.2.2) hM.2.2
      have hkd : mv_kd o = (20, (mv_kd o).2) := Prod.ext hk rfl
      rw [mv_ce_i hkd (by decide)] at he
      refine va_iast (D := (dC, dI)) hx hb hE.1 hM.1 hD hS o 0 he rfl hix hd (fun H1 locs1 hP1 hD1 hS1 => ?_)
      refine k _ _ _ _ _ ⟨?_, fun q => absurd hn (Nat.ne_of_lt q), hM.2.2⟩ hS1 hl hc hs
      show va_P (dC, dI) mv_cls (mv_wl (mv_ad z kad) cA wx σ.2.1 (mv_up σ.2.2 o i.toNatClampNeg (.int x))) H1
      rw [mv_up_o, ← mv_wl_set ho, mv_ce_i hkd (by decide)]
      have e9 : (fun j => mv_iv (if j = i.toNatClampNeg then (.int x) else σ.2.2 o j)) = upd (fun j => mv_iv (σ.2.2 o j)) i.toNatClampNeg x := by
        funext j
        by_cases hj : j = i.toNatClampNeg
        · simp [hj, upd, mv_iv]
        · simp [hj, upd]
      rw [e9]
      exact hP1
    · cases h
  · cases h
theorem mv_s_cast (hF : mv_Fx z kad dC dI cA L xs p R s m args meth c M) (hin : mv_in M pc = some (.castore, nx, a, b, w))
    (h : mv_as 21 nx ls st σ = some (.inl (pc', ls', st', σ'))) (k : mv_W z kad dC dI cA wx p l e R s m args below meth c Q c0 s0 pc' ls' st' σ') : mv_W z kad dC dI cA wx p l e R s m args below meth c Q c0 s0 pc ls st σ := by
  obtain ⟨hok, hlen⟩ := mv_row hin
  obtain ⟨hx, hb, hml, hown, hts, hE, -, hRf, hRl⟩ := id hF
  have hdec := mv_okd hok
  unfold mv_as at h
  split at h
  · next v i o st1 =>
    obtain ⟨o, rfl⟩ : ∃ q : Nat, q = o := ⟨o, rfl⟩
    split at h
    · next hg =>
      obtain ⟨hn, hg1, hg2⟩ := hg
      obtain ⟨ho, hk⟩ := mv_isk hg1
      have hix := mv_ixk hg2
      cases v <;> first | (simp at h; done) | skip
      rename_i x
      have h : mv_nx nx ls st1 (σ.1, σ.2.1, mv_up σ.2.2 o i.toNatClampNeg (.int (mv_ch x))) = some (.inl (pc', ls', st', σ')) := h
      obtain ⟨rfl, rfl, rfl, rfl⟩ := mv_nx_inv h
      obtain ⟨hd, rfl⟩ := mv_dec hdec hlen (Nat.succ_ne_zero _)
      intro H locs cells slots lsA hM hS hl hc hs
      have he := mv_wl_get (ad := mv_ad z kad) (cA := cA) (wx := wx) (h := σ.2.2) ho
      have hD := mv_wl_D (z := z) (kad := kad) (cA := cA) (wx := wx) (h := σ.2.2) hM.2.2
      have hkd : mv_kd o = (21, (mv_kd o).2) := Prod.ext hk rfl
      rw [mv_ce_i hkd (by decide)] at he
      refine va_cast (D := (dC, dI)) hx hb hE.1 hM.1 hD hS o 1 he rfl hix hd (fun H1 locs1 hP1 hD1 hS1 => ?_)
      refine k _ _ _ _ _ ⟨?_, fun q => absurd hn (Nat.ne_of_lt q), hM.2.2⟩ hS1 hl hc hs
      show va_P (dC, dI) mv_cls (mv_wl (mv_ad z kad) cA wx σ.2.1 (mv_up σ.2.2 o i.toNatClampNeg (.int (mv_ch x)))) H1
      rw [mv_up_o, ← mv_wl_set ho, mv_ce_i hkd (by decide)]
      have e9 : (fun j => mv_iv (if j = i.toNatClampNeg then (.int (mv_ch x)) else σ.2.2 o j)) = upd (fun j => mv_iv (σ.2.2 o j)) i.toNatClampNeg (vp_nar .char x) := by
        funext j
        by_cases hj : j = i.toNatClampNeg
        · simp [hj, upd, mv_iv, mv_ch, vp_nar_char]
        · simp [hj, upd]
      rw [e9]
      exact hP1
    · cases h
  · cases h
theorem mv_s_len (hF : mv_Fx z kad dC dI cA L xs p R s m args meth c M) (hin : mv_in M pc = some (.arraylength, nx, a, b, w))
    (h : mv_len L nx ls st σ = some (.inl (pc', ls', st', σ'))) (k : mv_W z kad dC dI cA wx p l e R s m args below meth c Q c0 s0 pc' ls' st' σ') : mv_W z kad dC dI cA wx p l e R s m args below meth c Q c0 s0 pc ls st σ := by
  obtain ⟨hok, hlen⟩ := mv_row hin
  obtain ⟨hx, hb, hml, hown, hts, hE, -, hRf, hRl⟩ := id hF
  have hdec := mv_okd hok
  unfold mv_len at h
  split at h
  · next o st1 =>
    obtain ⟨o, rfl⟩ : ∃ q : Nat, q = o := ⟨o, rfl⟩
    split at h
    · split at h
      · next hg =>
        obtain ⟨ho, hk⟩ := hg
        obtain ⟨rfl, rfl, rfl, rfl⟩ := mv_nx_inv h
        obtain ⟨hd, rfl⟩ := mv_dec hdec hlen (Nat.succ_ne_zero _)
        intro H locs cells slots lsA hM hS hl hc hs
        have k9 := k _ _ _ _ _ hM hS hl hc hs
        have he := mv_wl_get (ad := mv_ad z kad) (cA := cA) (wx := wx) (h := σ'.2.2) ho
        have h26 := (mv_kA o (Nat.lt_of_lt_of_le ho hM.2.2.1) (by omega)).2
        have hty : ∃ ty, (mv_tys cA)[(mv_kd o).1 - 20]? = some (cA (mv_kd o).1, ty) := by
          generalize (mv_kd o).1 = t at hk h26
          rcases (show t = 20 ∨ t = 21 ∨ t = 22 ∨ t = 23 ∨ t = 24 ∨ t = 25 by omega) with rfl | rfl | rfl | rfl | rfl | rfl <;> exact ⟨_, rfl⟩
        obtain ⟨ty, hty⟩ := hty
        unfold mv_ce at he
        rw [if_neg (by omega)] at he
        exact va_alen (D := (dC, dI)) hx hb hE.1 hM.1 o _ he hty rfl hd k9
      · cases h
    · split at h
      · next h20 =>
        subst h20
        obtain ⟨rfl, rfl, rfl, rfl⟩ := mv_nx_inv h
        obtain ⟨hd, rfl⟩ := mv_dec hdec hlen (Nat.succ_ne_zero _)
        intro H locs cells slots lsA hM hS hl hc hs
        have k9 := k _ _ _ _ _ hM hS hl hc hs
        obtain ⟨-, hbz, hX⟩ := hE.2.2.2.2.2.2.1
        exact va_slen hx hb hX (Nat.lt_of_lt_of_le hbz hE.2.1) (Nat.not_le.mpr hbz) hS hd k9
      · cases h
  · cases h
end ARR
end
section
/-! ROWS THAT MAKE; STORES OF REFERENCES; SWITCHES; THE JDK'S OWN METHODS -/
section MAKE
variable {z : Nat} {kad : Nat → Nat} {dC : Nat → ClassId} {dI : Nat → Nat → Nat} {cA : Nat → ClassId} {wx : va_W} {L : Nat} {xs : Nat → Int32}
variable {p : Program} {l : Launch} {e : Env} {R : Room} {s : State} {m : MethodId} {args : Array Value} {below : List Frame} {meth : Method} {c : Code} {Q : State → Prop} {c0 s0 M : Nat}
variable {pc pc' nx a b w : Nat} {ls ls' : mv_V} {st st' : List Value} {σ σ' : mv_S}
theorem mv_s_aast (hF : mv_Fx z kad dC dI cA L xs p R s m args meth c M) (hin : mv_in M pc = some (.aastore, nx, a, b, w))
    (h : mv_aas nx ls st σ = some (.inl (pc', ls', st', σ'))) (k : mv_W z kad dC dI cA wx p l e R s m args below meth c Q c0 s0 pc' ls' st' σ') : mv_W z kad dC dI cA wx p l e R s m args below meth c Q c0 s0 pc ls st σ := by
  obtain ⟨hok, hlen⟩ := mv_row hin
  obtain ⟨hx, hb, hml, hown, hts, hE, -, hRf, hRl⟩ := id hF
  have hdec := mv_okd hok
  unfold mv_aas at h
  split at h
  · next v i o st1 =>
    obtain ⟨o, rfl⟩ : ∃ q : Nat, q = o := ⟨o, rfl⟩
    obtain ⟨v, rfl⟩ : ∃ q : Nat, q = v := ⟨v, rfl⟩
    split at h
    · next hg =>
      obtain ⟨ho, hv, hix, hk⟩ := hg
      have hix := mv_ixk hix
      obtain ⟨rfl, rfl, rfl, rfl⟩ := mv_nx_inv h
      obtain ⟨hd, rfl⟩ := mv_dec hdec hlen (Nat.succ_ne_zero _)
      intro H locs cells slots lsA hM hS hl hc hs
      have ho : o < σ.2.1 := ho
      have hv : v < σ.2.1 := hv
      have he := mv_wl_get (ad := mv_ad z kad) (cA := cA) (wx := wx) (h := σ.2.2) ho
      have hev := mv_wl_get (ad := mv_ad z kad) (cA := cA) (wx := wx) (h := σ.2.2) hv
      have hD := mv_wl_D (z := z) (kad := kad) (cA := cA) (wx := wx) (h := σ.2.2) hM.2.2
      have hn : v < 142 := Nat.lt_of_lt_of_le hv hM.2.2.1
      have hk' : ((mv_kd o).1 = 24 ∨ (mv_kd o).1 = 25) ∧ (mv_kd v).1 + 24 = (mv_kd o).1 := by omega
      obtain ⟨hk1, hk2⟩ := hk'
      have hkd : mv_kd o = ((mv_kd o).1, (mv_kd o).2) := rfl
      rw [mv_ce_q hkd hk1] at he
      have hkv : (mv_kd v).1 < 8 := by omega
      rw [mv_ce_o (show mv_kd v = ((mv_kd v).1, (mv_kd v).2) from rfl) hkv] at hev
      have hty : ∃ r : vw_C, mv_cls[(mv_kd v).1]? = some r ∧ (mv_tys cA)[(mv_kd o).1 - 20]? = some (cA (mv_kd o).1, .object r.1) := by
        generalize (mv_kd v).1 = tv at *
        generalize (mv_kd o).1 = t at *
        rcases hk1 with rfl | rfl
        · have : tv = 0 := by omega
          subst this; exact ⟨_, rfl, rfl⟩
        · have : tv = 1 := by omega
          subst this; exact ⟨_, rfl, rfl⟩
      obtain ⟨r, hr, hty⟩ := hty
      have h0 : ¬ i < 0 := fun q => hix (Or.inl q)
      have hlt : i.toNatClampNeg < (mv_kd o).2 := Nat.lt_of_not_le fun q => hix (Or.inr q)
      obtain ⟨r', hr', cellV, g1, g2, g3, -⟩ := hM.1 v _ hev
      have hcls := (hE.1.1 _ r hr).2
      obtain ⟨kA, comp, k1, k2, k3, -⟩ := (hE.1.2 _ _ hty).2
      have hcomp : comp = dC (mv_kd v).1 := Option.some.inj (k3.symm.trans hcls.1)
      subst hcomp
      obtain ⟨kC, hkC, -⟩ := hcls.2
      refine W.aast hx hb (hM.1 o _ he) (fun q h => by cases h) (fun h => by cases h) k1 k2 rfl hkC ⟨h0, by show _ < (arrV _ _ _).slots.size; rw [arrV_size]; exact hlt⟩ g1 (fun q h => by rw [g3] at h; cases h) (by rw [g2]; exact hkC) (by rw [g2]; exact va_assign hcls) rfl rfl hd fun H1 e1 z1 oq => ?_
      refine k _ _ _ _ _ ⟨?_, fun q => z1.trans (hM.2.1 q), hM.2.2⟩ (hS.put z1 oq (hD.2 o _ he)) hl hc hs
      show va_P (dC, dI) mv_cls (mv_wl (mv_ad z kad) cA wx σ.2.1 (mv_up σ.2.2 o i.toNatClampNeg (.ref v))) H1
      rw [mv_up_o, ← mv_wl_set ho, mv_ce_q hkd hk1]
      refine hM.1.set hD he ?_ oq
      show H1[mv_ad z kad o]? = some (vp_cell _ _)
      rw [e1, vp_cell_q, vp_cell_q, arrV_store]
      congr 2
      funext q
      by_cases hq : q = i.toNatClampNeg
      · simp [hq, updV, mv_ov, va_rf]
      · simp [hq, updV, mv_ov]
    · cases h
  · cases h
theorem mv_instw : ((List.range 8).all (fun a => match mv_cls[a]? with | some (C, _, N) => decide (lw_tbl[[110, 103, 192, 271, 211, 243, 223, 95].getD a 0]? = some (.instantiable C N)) | none => false)) = true := by decide +kernel
theorem mv_iniw : ((List.range 8).all (fun a => match mv_cls[a]? with | some (C, _, _) => decide (lw_tbl[[63, 62, 64, 70, 65, 67, 66, 61].getD a 0]? = some (.initialized C)) | none => false)) = true := by decide +kernel
theorem mv_inst {a : Nat} {C : String} {T : u_T} {N : Nat} (ha : a < 8) (h : mv_cls[a]? = some (C, T, N)) : Cond.instantiable C N ∈ mv_TS ∧ Cond.initialized C ∈ mv_TS := by
  have h1 := List.all_eq_true.mp mv_instw a (List.mem_range.mpr ha)
  have h2 := List.all_eq_true.mp mv_iniw a (List.mem_range.mpr ha)
  rw [h] at h1 h2
  exact ⟨mv_TS_of (of_decide_eq_true h1) rfl, mv_TS_of (of_decide_eq_true h2) rfl⟩
theorem mv_cv_dv (ad : Nat → Nat) (ty : FieldType) : mv_cv ad (defaultValue ty) = defaultValue ty := by cases ty <;> rfl
theorem mv_Mo_push {H H1 : Heap} (hM : mv_Mo z kad dC dI cA wx σ H) (hn : σ.2.1 < 142) (z1 : H1.size = H.size + 1) (o1 : ∀ q, q < H.size → H1[q]? = H[q]?) (f : Nat → Value) (hat : va_at (dC, dI) mv_cls (mv_ad z kad σ.2.1, mv_ce (mv_ad z kad) cA σ.2.1 f) H1) :
    mv_Mo z kad dC dI cA wx (σ.1, σ.2.1 + 1, mv_upo σ.2.2 σ.2.1 f) H1 := by
  obtain rfl : wx = [] := hM.2.2.2.2 hn
  refine ⟨?_, fun _ => ?_, by show σ.2.1 + 1 ≤ 142; omega, hM.2.2.2.1, fun _ => rfl⟩
  · show va_P (dC, dI) mv_cls (mv_wl (mv_ad z kad) cA [] (σ.2.1 + 1) (mv_upo σ.2.2 σ.2.1 f)) H1
    rw [mv_wl_push]
    refine (hM.1.kept (fun k x hx => o1 x.1 ((hM.1 k x hx).lt))).app (fun k x hx => ?_)
    have hz : k < 1 := (List.getElem?_eq_some_iff.mp hx).1
    rw [show k = 0 by omega] at hx
    cases hx
    exact hat
  · have := hM.2.1 hn
    show H1.size = z + (σ.2.1 + 1)
    omega
theorem mv_S_push {H H1 : Heap} {locs : List Loc} (hS : va_S (fun q => z ≤ q) s.heap H locs) (z1 : H1.size = H.size + 1) (o1 : ∀ q, q < H.size → H1[q]? = H[q]?) : va_S (fun q => z ≤ q) s.heap H1 locs :=
  ⟨Nat.le_trans hS.1 (by omega), fun x h1 h2 => (o1 x (Nat.lt_of_lt_of_le h1 hS.1)).trans (hS.2.1 x h1 h2), hS.2.2⟩
theorem mv_s_new {i : Nat} (hF : mv_Fx z kad dC dI cA L xs p R s m args meth c M) (hin : mv_in M pc = some (.new i, nx, a, b, w))
    (h : mv_new a nx ls st σ = some (.inl (pc', ls', st', σ'))) (hR : mv_cc σ' ≤ R.cells + c0 ∧ mv_ss σ' ≤ R.slots + s0) (k : mv_W z kad dC dI cA wx p l e R s m args below meth c Q c0 s0 pc' ls' st' σ') : mv_W z kad dC dI cA wx p l e R s m args below meth c Q c0 s0 pc ls st σ := by
  obtain ⟨hok, hlen⟩ := mv_row hin
  obtain ⟨hx, hb, hml, hown, hts, hE, -, hRf, hRl⟩ := id hF
  have hdec := mv_okd hok
  unfold mv_new at h
  split at h
  · cases h
  next ha99 =>
  split at h
  · next hg =>
    obtain ⟨hn, ha9, hk⟩ := hg
    obtain ⟨rfl, rfl, rfl, rfl⟩ := mv_nx_inv h
    obtain ⟨hd, rfl⟩ := mv_dec hdec hlen (Nat.succ_ne_zero _)
    unfold mv_ok at hok
    simp only [Bool.and_eq_true, Bool.or_eq_true, decide_eq_true_eq] at hok
    rcases hok.2 with h0 | h0
    · exact absurd h0 ha99
    split at h0
    · next C T N hcl =>
      have hkd : mv_kd σ.2.1 = (a, N) := by
        have h1 := mv_kN σ.2.1 hn (by rw [hk]; exact ha9)
        rw [hk, hcl] at h1
        exact Prod.ext hk (Option.some.inj h1).symm
      obtain ⟨c1, c2, c3, c4, c5⟩ := mv_ck1 ha9 hcl
      obtain ⟨w1, w2⟩ := mv_inst ha9 hcl
      have hcw : lw_tbl[w]? = some (.classLink (mv_mi M).2.1.cls i C) := of_decide_eq_true h0
      have hKn := hE.1.1 a _ hcl
      intro H locs cells slots lsA hM hS hl hc hs
      have hsz := hM.2.1 hn
      have e5 : mv_sl (σ.2.1 + 1) = mv_sl σ.2.1 + N := by show mv_sl σ.2.1 + (mv_kd σ.2.1).2 = _; rw [hkd]
      simp only [mv_cc, mv_ss] at hR hc hs
      rw [e5] at hR
      refine W.newcK hx hb hown (hts _ (mv_TS_of hcw rfl)) (hts _ w1) (hts _ w2) rfl hd (by omega) (by omega) hKn.2.1 rfl fun H1 kC hkC e1 z1 o1 => ?_
      have k9 := k H1 locs (cells + 1) (slots + N) lsA (mv_Mo_push hM hn z1 o1 _ ?_) (mv_S_push hS z1 o1) hl (by simp only [mv_cc]; omega) (by simp only [mv_ss]; rw [e5]; omega)
      · have k8 : W p l e R s m args below meth c H1 locs (cells + 1) (slots + N) Q (F0 m (pc + 3) lsA (.ref (mv_ad z kad σ.2.1) :: st.map (mv_cv (mv_ad z kad)))) := k9
        rw [show mv_ad z kad σ.2.1 = H.size by unfold mv_ad; rw [if_pos (by omega), hsz]] at k8
        exact k8
      · rw [mv_ce_o hkd ha9, show mv_ad z kad σ.2.1 = H.size by unfold mv_ad; rw [if_pos (by omega), hsz]]
        refine ⟨_, hcl, (u_born (mv_ty a) hts c1 hKn hkC e1 c2).to fun j hj => ?_⟩
        simp [vp_V, hj, mv_cv_dv]
    · cases h0
  · cases h
theorem mv_ao1 : lw_tbl[109]? = some (.arrayOver (.object "SluiceChain$Basin")) := by decide +kernel
theorem mv_ao2 : lw_tbl[198]? = some (.arrayOver (.object "SluiceChain$Chain")) := by decide +kernel
theorem mv_aoB (hE : mv_En z kad dC dI cA L xs s) : va_AO "SluiceChain$Basin" s := mv_EnN hE mv_ao1 rfl
theorem mv_aoC (hE : mv_En z kad dC dI cA L xs s) : va_AO "SluiceChain$Chain" s := mv_EnN hE mv_ao2 rfl
theorem mv_s_anew {i : Nat} (hF : mv_Fx z kad dC dI cA L xs p R s m args meth c M) (hin : mv_in M pc = some (.anewarray i, nx, a, b, w))
    (h : mv_nwa a nx ls st σ = some (.inl (pc', ls', st', σ'))) (hR : mv_cc σ' ≤ R.cells + c0 ∧ mv_ss σ' ≤ R.slots + s0) (k : mv_W z kad dC dI cA wx p l e R s m args below meth c Q c0 s0 pc' ls' st' σ') : mv_W z kad dC dI cA wx p l e R s m args below meth c Q c0 s0 pc ls st σ := by
  obtain ⟨hok, hlen⟩ := mv_row hin
  have hsd := mv_row2 hin
  obtain ⟨hx, hb, hml, hown, hts, hE, -, hRf, hRl⟩ := id hF
  have hdec := mv_okd hok
  unfold mv_nwa at h
  split at h
  · next x st1 =>
    split at h
    · next hg =>
      obtain ⟨hn, hx0, ha20, hkd⟩ := hg
      obtain ⟨rfl, rfl, rfl, rfl⟩ := mv_nx_inv h
      obtain ⟨hd, rfl⟩ := mv_dec hdec hlen (Nat.succ_ne_zero _)
      have ha : a = 24 ∨ a = 25 := by
        simp only [mv_sd, Bool.and_eq_true, Bool.or_eq_true, decide_eq_true_eq] at hsd
        exact hsd.2
      have hC : ∃ C, (if a = 24 then "SluiceChain$Basin" else "SluiceChain$Chain") = C ∧ (mv_tys cA)[a - 20]? = some (cA a, .object C) ∧ (Cond.arrayOver (.object C)).before args s = true := by
        rcases ha with rfl | rfl
        · exact ⟨"SluiceChain$Basin", rfl, rfl, va_AO.use (mv_aoB hE)⟩
        · exact ⟨"SluiceChain$Chain", rfl, rfl, va_AO.use (mv_aoC hE)⟩
      obtain ⟨C, hC, hty, hover⟩ := hC
      have hcw : lw_tbl[w]? = some (.classLink (mv_mi M).2.1.cls i C) := by
        unfold mv_ok at hok
        simp only [Bool.and_eq_true, decide_eq_true_eq] at hok
        rw [hC] at hok
        exact of_decide_eq_true hok.2
      obtain ⟨hAr, kA, comp9, r1, r2, r3, r4⟩ := hE.1.2 _ _ hty
      intro H locs cells slots lsA hM hS hl hc hs
      have hsz := hM.2.1 hn
      have hlen9 : (mv_kd σ.2.1).2 ≤ 1071 := by
        have : ∀ o, o < 142 → (mv_kd o).2 ≤ 1071 := by decide +kernel
        exact this _ hn
      have e5 : mv_sl (σ.2.1 + 1) = mv_sl σ.2.1 + x.toNatClampNeg := by show mv_sl σ.2.1 + (mv_kd σ.2.1).2 = _; rw [hkd]
      rw [hkd] at hlen9
      have hlen9 : x.toNatClampNeg ≤ 1071 := hlen9
      simp only [mv_cc, mv_ss] at hR hc hs
      rw [e5] at hR
      refine W.anew hx hb hown (hts _ (mv_TS_of hcw rfl)) hover rfl hd rfl hx0 (by omega) (by omega) (by omega) fun cA' kA' comp f1 f2 f3 f4 => ?_
      have hcA : cA' = cA a := Option.some.inj (f1.symm.trans r4)
      subst hcA
      generalize hH1 : H.push ({ cls := cA a, slots := Array.replicate x.toNatClampNeg .null, vm := .none } : Cell) = H1
      have z1 : H1.size = H.size + 1 := by rw [← hH1, Array.size_push]
      have e1 : H1[H.size]? = some (arrV (cA a) x.toNatClampNeg (fun _ => .null)) := by rw [← hH1, Array.getElem?_push_size, ← arrV_new]
      have o1 : ∀ q : Nat, q < H.size → H1[q]? = H[q]? := fun q hq => by rw [← hH1, Array.getElem?_push, if_neg (Nat.ne_of_lt hq)]
      have k9 := k H1 locs (cells + 1) (slots + x.toNatClampNeg) lsA (mv_Mo_push hM hn z1 o1 _ ?_) (mv_S_push hS z1 o1) hl (by simp only [mv_cc]; omega) (by simp only [mv_ss]; rw [e5]; omega)
      · have k8 : W p l e R s m args below meth c H1 locs (cells + 1) (slots + x.toNatClampNeg) Q (F0 m (pc + 3) lsA (.ref (mv_ad z kad σ.2.1) :: st1.map (mv_cv (mv_ad z kad)))) := k9
        rw [show mv_ad z kad σ.2.1 = H.size by unfold mv_ad; rw [if_pos (by omega), hsz]] at k8
        exact k8
      · rw [mv_ce_q hkd ha, show mv_ad z kad σ.2.1 = H.size by unfold mv_ad; rw [if_pos (by omega), hsz]]
        show H1[H.size]? = some (vp_cell _ _)
        rw [e1, vp_cell_q]
        have : (fun j : Nat => va_rf (mv_ov (mv_ad z kad) (mv_dv a))) = (fun _ => Value.null) := by
          rcases ha with rfl | rfl <;> rfl
        rw [this]
    · cases h
  · cases h
theorem mv_s_switch {d lo hi : Int} {offs : Array Int} (hF : mv_Fx z kad dC dI cA L xs p R s m args meth c M) (hin : mv_in M pc = some (.tableswitch d lo hi offs, nx, a, b, w))
    (h : mv_sw2 a nx d lo hi offs ls st σ = some (.inl (pc', ls', st', σ'))) (k : mv_W z kad dC dI cA wx p l e R s m args below meth c Q c0 s0 pc' ls' st' σ') : mv_W z kad dC dI cA wx p l e R s m args below meth c Q c0 s0 pc ls st σ := by
  obtain ⟨hok, hlen⟩ := mv_row hin
  obtain ⟨hx, hb, hml, hown, hts, hE, -, hRf, hRl⟩ := id hF
  have hd := mv_okd hok
  have hap : a = pc := by
    unfold mv_ok at hok
    simp only [Bool.and_eq_true, decide_eq_true_eq] at hok
    exact hok.2
  subst hap
  unfold mv_sw2 at h
  split at h
  · next x st1 =>
    split at h
    · next hr =>
      split at h
      · next h0 =>
        obtain ⟨rfl, rfl, rfl, rfl⟩ := mv_nx_inv h
        intro H locs cells slots lsA hM hS hl hc hs
        exact lv_tableOut hx hb hd hr (by omega) (k _ _ _ _ _ hM hS hl hc hs)
      · cases h
    · next hr =>
      split at h
      · next off ho =>
        split at h
        · next h0 =>
          obtain ⟨rfl, rfl, rfl, rfl⟩ := mv_nx_inv h
          intro H locs cells slots lsA hM hS hl hc hs
          exact lv_tableIn hx hb hd (fun q => hr (Or.inl q)) (fun q => hr (Or.inr q)) ho (by omega) (k _ _ _ _ _ hM hS hl hc hs)
        · cases h
      · cases h
  · cases h
theorem mv_s_newa20 (hF : mv_Fx z kad dC dI cA L xs p R s m args meth c M) (hd : decode (mv_mi M).1 pc = .ok (.newarray .int, 2)) {x : Int32} (hn : σ.2.1 < 142) (hx0 : ¬ x < 0) (hkd : mv_kd σ.2.1 = (20, x.toNatClampNeg))
    (hR : mv_cc (σ.1, σ.2.1 + 1, mv_upo σ.2.2 σ.2.1 (fun _ => mv_dv 20)) ≤ R.cells + c0 ∧ mv_ss (σ.1, σ.2.1 + 1, mv_upo σ.2.2 σ.2.1 (fun _ => mv_dv 20)) ≤ R.slots + s0) (k : mv_W z kad dC dI cA wx p l e R s m args below meth c Q c0 s0 (pc + 2) ls (.ref σ.2.1 :: st) (σ.1, σ.2.1 + 1, mv_upo σ.2.2 σ.2.1 (fun _ => mv_dv 20))) :
    mv_W z kad dC dI cA wx p l e R s m args below meth c Q c0 s0 pc ls (.int x :: st) σ := by
  obtain ⟨hx, hb, hml, hown, hts, hE, -, hRf, hRl⟩ := id hF
  intro H locs cells slots lsA hM hS hl hc hs
  have hsz := hM.2.1 hn
  have hlen9 : (mv_kd σ.2.1).2 ≤ 1071 := by
    have : ∀ o, o < 142 → (mv_kd o).2 ≤ 1071 := by decide +kernel
    exact this _ hn
  have e5 : mv_sl (σ.2.1 + 1) = mv_sl σ.2.1 + x.toNatClampNeg := by show mv_sl σ.2.1 + (mv_kd σ.2.1).2 = _; rw [hkd]
  rw [hkd] at hlen9
  have hlen9 : x.toNatClampNeg ≤ 1071 := hlen9
  simp only [mv_cc, mv_ss] at hR hc hs
  rw [e5] at hR
  have hRA : s.vm.findClass ("[" ++ (newarray.typeOf .int).toString) = some (cA 20) := (hE.1.2 0 (cA 20, .int) rfl).2
  refine va_newaK hx hb (atype := .int) (hts _ (mv_TS_of (k := 159) (w := .arrayClass .int) (by decide +kernel) rfl)) rfl hd rfl hx0 rfl (Nat.le_trans (Nat.mul_le_mul hlen9 (by decide : componentBytes (newarray.typeOf .int) ≤ 8)) (by decide)) (by omega) (by omega) rfl fun H1 cA' e1 z1 o1 hAr hNm => ?_
  have hcA : cA' = cA 20 := Option.some.inj (hNm.symm.trans hRA)
  subst hcA
  have k9 := k H1 locs (cells + 1) (slots + x.toNatClampNeg) lsA (mv_Mo_push hM hn z1 o1 _ ?_) (mv_S_push hS z1 o1) hl (by simp only [mv_cc]; omega) (by simp only [mv_ss]; rw [e5]; omega)
  · have k8 : W p l e R s m args below meth c H1 locs (cells + 1) (slots + x.toNatClampNeg) Q (F0 m (pc + 2) lsA (.ref (mv_ad z kad σ.2.1) :: st.map (mv_cv (mv_ad z kad)))) := k9
    rw [show mv_ad z kad σ.2.1 = H.size by unfold mv_ad; rw [if_pos (by omega), hsz]] at k8
    exact k8
  · rw [mv_ce_i hkd (by decide), show mv_ad z kad σ.2.1 = H.size by unfold mv_ad; rw [if_pos (by omega), hsz]]
    show H1[H.size]? = some (vp_cell _ _)
    rw [e1, vp_cell_i]
    rfl
theorem mv_s_newa21 (hF : mv_Fx z kad dC dI cA L xs p R s m args meth c M) (hd : decode (mv_mi M).1 pc = .ok (.newarray .char, 2)) {x : Int32} (hn : σ.2.1 < 142) (hx0 : ¬ x < 0) (hkd : mv_kd σ.2.1 = (21, x.toNatClampNeg))
    (hR : mv_cc (σ.1, σ.2.1 + 1, mv_upo σ.2.2 σ.2.1 (fun _ => mv_dv 21)) ≤ R.cells + c0 ∧ mv_ss (σ.1, σ.2.1 + 1, mv_upo σ.2.2 σ.2.1 (fun _ => mv_dv 21)) ≤ R.slots + s0) (k : mv_W z kad dC dI cA wx p l e R s m args below meth c Q c0 s0 (pc + 2) ls (.ref σ.2.1 :: st) (σ.1, σ.2.1 + 1, mv_upo σ.2.2 σ.2.1 (fun _ => mv_dv 21))) :
    mv_W z kad dC dI cA wx p l e R s m args below meth c Q c0 s0 pc ls (.int x :: st) σ := by
  obtain ⟨hx, hb, hml, hown, hts, hE, -, hRf, hRl⟩ := id hF
  intro H locs cells slots lsA hM hS hl hc hs
  have hsz := hM.2.1 hn
  have hlen9 : (mv_kd σ.2.1).2 ≤ 1071 := by
    have : ∀ o, o < 142 → (mv_kd o).2 ≤ 1071 := by decide +kernel
    exact this _ hn
  have e5 : mv_sl (σ.2.1 + 1) = mv_sl σ.2.1 + x.toNatClampNeg := by show mv_sl σ.2.1 + (mv_kd σ.2.1).2 = _; rw [hkd]
  rw [hkd] at hlen9
  have hlen9 : x.toNatClampNeg ≤ 1071 := hlen9
  simp only [mv_cc, mv_ss] at hR hc hs
  rw [e5] at hR
  have hRA : s.vm.findClass ("[" ++ (newarray.typeOf .char).toString) = some (cA 21) := (hE.1.2 1 (cA 21, .char) rfl).2
  refine va_newaK hx hb (atype := .char) (hts _ (mv_TS_of (k := 269) (w := .arrayClass .char) (by decide +kernel) rfl)) rfl hd rfl hx0 rfl (Nat.le_trans (Nat.mul_le_mul hlen9 (by decide : componentBytes (newarray.typeOf .char) ≤ 8)) (by decide)) (by omega) (by omega) rfl fun H1 cA' e1 z1 o1 hAr hNm => ?_
  have hcA : cA' = cA 21 := Option.some.inj (hNm.symm.trans hRA)
  subst hcA
  have k9 := k H1 locs (cells + 1) (slots + x.toNatClampNeg) lsA (mv_Mo_push hM hn z1 o1 _ ?_) (mv_S_push hS z1 o1) hl (by simp only [mv_cc]; omega) (by simp only [mv_ss]; rw [e5]; omega)
  · have k8 : W p l e R s m args below meth c H1 locs (cells + 1) (slots + x.toNatClampNeg) Q (F0 m (pc + 2) lsA (.ref (mv_ad z kad σ.2.1) :: st.map (mv_cv (mv_ad z kad)))) := k9
    rw [show mv_ad z kad σ.2.1 = H.size by unfold mv_ad; rw [if_pos (by omega), hsz]] at k8
    exact k8
  · rw [mv_ce_i hkd (by decide), show mv_ad z kad σ.2.1 = H.size by unfold mv_ad; rw [if_pos (by omega), hsz]]
    show H1[H.size]? = some (vp_cell _ _)
    rw [e1, vp_cell_i]
    rfl
theorem mv_s_newa {at9 : ArrayType} (hF : mv_Fx z kad dC dI cA L xs p R s m args meth c M) (hin : mv_in M pc = some (.newarray at9, nx, a, b, w))
    (h : mv_nwa a nx ls st σ = some (.inl (pc', ls', st', σ'))) (hR : mv_cc σ' ≤ R.cells + c0 ∧ mv_ss σ' ≤ R.slots + s0) (k : mv_W z kad dC dI cA wx p l e R s m args below meth c Q c0 s0 pc' ls' st' σ') : mv_W z kad dC dI cA wx p l e R s m args below meth c Q c0 s0 pc ls st σ := by
  obtain ⟨hok, hlen⟩ := mv_row hin
  have hsd := mv_row2 hin
  have hdec := mv_okd hok
  unfold mv_nwa at h
  split at h
  · next x st1 =>
    split at h
    · next hg =>
      obtain ⟨hn, hx0, ha20, hkd⟩ := hg
      obtain ⟨rfl, rfl, rfl, rfl⟩ := mv_nx_inv h
      obtain ⟨hd, rfl⟩ := mv_dec hdec hlen (Nat.succ_ne_zero _)
      have hat : at9 = mv_ky a := by
        unfold mv_ok at hok
        simp only [Bool.and_eq_true, decide_eq_true_eq] at hok
        exact hok.2
      have ha : 20 ≤ a ∧ a < 24 := by
        simp only [mv_sd, Bool.and_eq_true, decide_eq_true_eq] at hsd
        exact hsd.2
      rcases (show a = 20 ∨ a = 21 by omega) with rfl | rfl
      · subst hat; exact mv_s_newa20 hF hd hn hx0 hkd hR k
      · subst hat; exact mv_s_newa21 hF hd hn hx0 hkd hR k
    · cases h
  · cases h
end MAKE
end
section
/-! THE JDK'S OWN METHODS: ordinal, length, charAt -/
def yj_ord : MethodName := ⟨"java/lang/Enum", "ordinal", "()I"⟩
theorem dj_ord_0 : decode prog_22_method_2_code 0 = .ok (.aload_n 0, 1) := by decide +kernel
theorem dj_ord_1 : decode prog_22_method_2_code 1 = .ok (.getfield 7, 3) := by decide +kernel
theorem dj_ord_4 : decode prog_22_method_2_code 4 = .ok (.ireturn, 1) := by decide +kernel
theorem wj_ord : Cond.code yj_ord prog_22_method_2_code 1 (some .int) ∈ mv_TS := mv_TS_of (k := 849) (by decide +kernel) rfl
noncomputable def wl_ord : List Cond := Cond.code yj_ord prog_22_method_2_code 1 (some .int) :: mv_TS
def yj_len : MethodName := ⟨"java/lang/String", "length", "()I"⟩
theorem dj_len_0 : decode prog_31_method_54_code 0 = .ok (.aload_n 0, 1) := by decide +kernel
theorem dj_len_1 : decode prog_31_method_54_code 1 = .ok (.getfield 9, 3) := by decide +kernel
theorem dj_len_4 : decode prog_31_method_54_code 4 = .ok (.arraylength, 1) := by decide +kernel
theorem dj_len_5 : decode prog_31_method_54_code 5 = .ok (.aload_n 0, 1) := by decide +kernel
theorem dj_len_6 : decode prog_31_method_54_code 6 = .ok (.invokevirtual 335, 3) := by decide +kernel
theorem dj_len_9 : decode prog_31_method_54_code 9 = .ok (.ishr, 1) := by decide +kernel
theorem dj_len_10 : decode prog_31_method_54_code 10 = .ok (.ireturn, 1) := by decide +kernel
theorem wj_len : Cond.code yj_len prog_31_method_54_code 1 (some .int) ∈ mv_TS := mv_TS_of (k := 990) (by decide +kernel) rfl
noncomputable def wl_len : List Cond := Cond.code yj_len prog_31_method_54_code 1 (some .int) :: mv_TS
def yj_cod : MethodName := ⟨"java/lang/String", "coder", "()B"⟩
theorem dj_cod_0 : decode prog_31_method_152_code 0 = .ok (.getstatic 38, 3) := by decide +kernel
theorem dj_cod_3 : decode prog_31_method_152_code 3 = .ok (.ifCond .eq 10, 3) := by decide +kernel
theorem dj_cod_6 : decode prog_31_method_152_code 6 = .ok (.aload_n 0, 1) := by decide +kernel
theorem dj_cod_7 : decode prog_31_method_152_code 7 = .ok (.getfield 15, 3) := by decide +kernel
theorem dj_cod_10 : decode prog_31_method_152_code 10 = .ok (.goto 4, 3) := by decide +kernel
theorem dj_cod_14 : decode prog_31_method_152_code 14 = .ok (.ireturn, 1) := by decide +kernel
theorem wj_cod : Cond.code yj_cod prog_31_method_152_code 1 (some .byte) ∈ mv_TS := mv_TS_of (k := 994) (by decide +kernel) rfl
noncomputable def wl_cod : List Cond := Cond.code yj_cod prog_31_method_152_code 1 (some .byte) :: mv_TS
def yj_lat : MethodName := ⟨"java/lang/String", "isLatin1", "()Z"⟩
theorem dj_lat_0 : decode prog_31_method_154_code 0 = .ok (.getstatic 38, 3) := by decide +kernel
theorem dj_lat_3 : decode prog_31_method_154_code 3 = .ok (.ifCond .eq 14, 3) := by decide +kernel
theorem dj_lat_6 : decode prog_31_method_154_code 6 = .ok (.aload_n 0, 1) := by decide +kernel
theorem dj_lat_7 : decode prog_31_method_154_code 7 = .ok (.getfield 15, 3) := by decide +kernel
theorem dj_lat_10 : decode prog_31_method_154_code 10 = .ok (.ifCond .ne 7, 3) := by decide +kernel
theorem dj_lat_13 : decode prog_31_method_154_code 13 = .ok (.iconst 1, 1) := by decide +kernel
theorem dj_lat_14 : decode prog_31_method_154_code 14 = .ok (.goto 4, 3) := by decide +kernel
theorem dj_lat_18 : decode prog_31_method_154_code 18 = .ok (.ireturn, 1) := by decide +kernel
theorem wj_lat : Cond.code yj_lat prog_31_method_154_code 1 (some .boolean) ∈ mv_TS := mv_TS_of (k := 1009) (by decide +kernel) rfl
noncomputable def wl_lat : List Cond := Cond.code yj_lat prog_31_method_154_code 1 (some .boolean) :: mv_TS
def yj_cha : MethodName := ⟨"java/lang/String", "charAt", "(I)C"⟩
theorem dj_cha_0 : decode prog_31_method_56_code 0 = .ok (.aload_n 0, 1) := by decide +kernel
theorem dj_cha_1 : decode prog_31_method_56_code 1 = .ok (.invokevirtual 492, 3) := by decide +kernel
theorem dj_cha_4 : decode prog_31_method_56_code 4 = .ok (.ifCond .eq 12, 3) := by decide +kernel
theorem dj_cha_7 : decode prog_31_method_56_code 7 = .ok (.aload_n 0, 1) := by decide +kernel
theorem dj_cha_8 : decode prog_31_method_56_code 8 = .ok (.getfield 9, 3) := by decide +kernel
theorem dj_cha_11 : decode prog_31_method_56_code 11 = .ok (.iload_n 1, 1) := by decide +kernel
theorem dj_cha_12 : decode prog_31_method_56_code 12 = .ok (.invokestatic 495, 3) := by decide +kernel
theorem dj_cha_15 : decode prog_31_method_56_code 15 = .ok (.ireturn, 1) := by decide +kernel
theorem wj_cha : Cond.code yj_cha prog_31_method_56_code 2 (some .char) ∈ mv_TS := mv_TS_of (k := 1005) (by decide +kernel) rfl
noncomputable def wl_cha : List Cond := Cond.code yj_cha prog_31_method_56_code 2 (some .char) :: mv_TS
def yj_lch : MethodName := ⟨"java/lang/StringLatin1", "charAt", "([BI)C"⟩
theorem dj_lch_0 : decode prog_33_method_2_code 0 = .ok (.iload_n 1, 1) := by decide +kernel
theorem dj_lch_1 : decode prog_33_method_2_code 1 = .ok (.aload_n 0, 1) := by decide +kernel
theorem dj_lch_2 : decode prog_33_method_2_code 2 = .ok (.arraylength, 1) := by decide +kernel
theorem dj_lch_3 : decode prog_33_method_2_code 3 = .ok (.invokestatic 9, 3) := by decide +kernel
theorem dj_lch_6 : decode prog_33_method_2_code 6 = .ok (.aload_n 0, 1) := by decide +kernel
theorem dj_lch_7 : decode prog_33_method_2_code 7 = .ok (.iload_n 1, 1) := by decide +kernel
theorem dj_lch_8 : decode prog_33_method_2_code 8 = .ok (.baload, 1) := by decide +kernel
theorem dj_lch_9 : decode prog_33_method_2_code 9 = .ok (.sipush 255, 3) := by decide +kernel
theorem dj_lch_12 : decode prog_33_method_2_code 12 = .ok (.iand, 1) := by decide +kernel
theorem dj_lch_13 : decode prog_33_method_2_code 13 = .ok (.i2c, 1) := by decide +kernel
theorem dj_lch_14 : decode prog_33_method_2_code 14 = .ok (.ireturn, 1) := by decide +kernel
theorem wj_lch : Cond.code yj_lch prog_33_method_2_code 2 (some .char) ∈ mv_TS := mv_TS_of (k := 1012) (by decide +kernel) rfl
noncomputable def wl_lch : List Cond := Cond.code yj_lch prog_33_method_2_code 2 (some .char) :: mv_TS
def yj_sci : MethodName := ⟨"java/lang/String", "checkIndex", "(II)V"⟩
theorem dj_sci_0 : decode prog_31_method_155_code 0 = .ok (.iload_n 0, 1) := by decide +kernel
theorem dj_sci_1 : decode prog_31_method_155_code 1 = .ok (.iload_n 1, 1) := by decide +kernel
theorem dj_sci_2 : decode prog_31_method_155_code 2 = .ok (.getstatic 1053, 3) := by decide +kernel
theorem dj_sci_5 : decode prog_31_method_155_code 5 = .ok (.invokestatic 1059, 3) := by decide +kernel
theorem dj_sci_8 : decode prog_31_method_155_code 8 = .ok (.pop, 1) := by decide +kernel
theorem dj_sci_9 : decode prog_31_method_155_code 9 = .ok (.return_, 1) := by decide +kernel
theorem wj_sci : Cond.code yj_sci prog_31_method_155_code 2 none ∈ mv_TS := mv_TS_of (k := 1015) (by decide +kernel) rfl
noncomputable def wl_sci : List Cond := Cond.code yj_sci prog_31_method_155_code 2 none :: mv_TS
def yj_pci : MethodName := ⟨"jdk/internal/util/Preconditions", "checkIndex", "(IILjava/util/function/BiFunction;)I"⟩
theorem dj_pci_0 : decode prog_42_method_11_code 0 = .ok (.iload_n 0, 1) := by decide +kernel
theorem dj_pci_1 : decode prog_42_method_11_code 1 = .ok (.ifCond .lt 8, 3) := by decide +kernel
theorem dj_pci_4 : decode prog_42_method_11_code 4 = .ok (.iload_n 0, 1) := by decide +kernel
theorem dj_pci_5 : decode prog_42_method_11_code 5 = .ok (.iload_n 1, 1) := by decide +kernel
theorem dj_pci_6 : decode prog_42_method_11_code 6 = .ok (.if_icmp .lt 10, 3) := by decide +kernel
theorem dj_pci_16 : decode prog_42_method_11_code 16 = .ok (.iload_n 0, 1) := by decide +kernel
theorem dj_pci_17 : decode prog_42_method_11_code 17 = .ok (.ireturn, 1) := by decide +kernel
theorem wj_pci : Cond.code yj_pci prog_42_method_11_code 3 (some .int) ∈ mv_TS := mv_TS_of (k := 1020) (by decide +kernel) rfl
noncomputable def wl_pci : List Cond := Cond.code yj_pci prog_42_method_11_code 3 (some .int) :: mv_TS
theorem wf_ord : Cond.fieldLink "java/lang/Enum" 7 "java/lang/Enum" "ordinal" "I" ∈ mv_TS := mv_TS_of (k := 1289) (by decide +kernel) rfl
theorem wf_cod : Cond.fieldLink "java/lang/String" 15 "java/lang/String" "coder" "B" ∈ mv_TS := mv_TS_of (k := 1247) (by decide +kernel) rfl
theorem wf_val : Cond.fieldLink "java/lang/String" 9 "java/lang/String" "value" "[B" ∈ mv_TS := mv_TS_of (k := 1246) (by decide +kernel) rfl
theorem wf_cst : Cond.fieldLink "java/lang/String" 38 "java/lang/String" "COMPACT_STRINGS" "Z" ∈ mv_TS := mv_TS_of (k := 995) (by decide +kernel) rfl
theorem wf_sio : Cond.fieldLink "java/lang/String" 1053 "jdk/internal/util/Preconditions" "SIOOBE_FORMATTER" "Ljava/util/function/BiFunction;" ∈ mv_TS := mv_TS_of (k := 1016) (by decide +kernel) rfl
theorem wi_str : Cond.initialized "java/lang/String" ∈ mv_TS := mv_TS_of (k := 81) (by decide +kernel) rfl
theorem wi_lat : Cond.initialized "java/lang/StringLatin1" ∈ mv_TS := mv_TS_of (k := 90) (by decide +kernel) rfl
theorem wi_pre : Cond.initialized "jdk/internal/util/Preconditions" ∈ mv_TS := mv_TS_of (k := 89) (by decide +kernel) rfl
theorem wi_enu : Cond.initialized "java/lang/Enum" ∈ mv_TS := mv_TS_of (k := 68) (by decide +kernel) rfl
theorem wm_cod : Cond.methodLink "java/lang/String" 335 yj_cod ∈ mv_TS := mv_TS_of (k := 991) (by decide +kernel) rfl
theorem wm_lat : Cond.methodLink "java/lang/String" 492 yj_lat ∈ mv_TS := mv_TS_of (k := 1006) (by decide +kernel) rfl
theorem wm_lch : Cond.methodLink "java/lang/String" 495 yj_lch ∈ mv_TS := mv_TS_of (k := 1010) (by decide +kernel) rfl
theorem wm_sci : Cond.methodLink "java/lang/StringLatin1" 9 yj_sci ∈ mv_TS := mv_TS_of (k := 1013) (by decide +kernel) rfl
theorem wm_pci : Cond.methodLink "java/lang/String" 1059 yj_pci ∈ mv_TS := mv_TS_of (k := 1018) (by decide +kernel) rfl
theorem wn_cod : Cond.instanceMethod yj_cod ∈ mv_TS := mv_TS_of (k := 992) (by decide +kernel) rfl
theorem ws_cod : Cond.selects "java/lang/String" yj_cod yj_cod ∈ mv_TS := mv_TS_of (k := 993) (by decide +kernel) rfl
theorem wn_lat : Cond.instanceMethod yj_lat ∈ mv_TS := mv_TS_of (k := 1007) (by decide +kernel) rfl
theorem ws_lat : Cond.selects "java/lang/String" yj_lat yj_lat ∈ mv_TS := mv_TS_of (k := 1008) (by decide +kernel) rfl
theorem wn_cha : Cond.instanceMethod yj_cha ∈ mv_TS := mv_TS_of (k := 1003) (by decide +kernel) rfl
theorem ws_cha : Cond.selects "java/lang/String" yj_cha yj_cha ∈ mv_TS := mv_TS_of (k := 1004) (by decide +kernel) rfl
theorem wn_len : Cond.instanceMethod yj_len ∈ mv_TS := mv_TS_of (k := 988) (by decide +kernel) rfl
theorem ws_len : Cond.selects "java/lang/String" yj_len yj_len ∈ mv_TS := mv_TS_of (k := 989) (by decide +kernel) rfl
theorem wt_lch : Cond.static yj_lch ∈ mv_TS := mv_TS_of (k := 1011) (by decide +kernel) rfl
theorem wt_sci : Cond.static yj_sci ∈ mv_TS := mv_TS_of (k := 1014) (by decide +kernel) rfl
theorem wt_pci : Cond.static yj_pci ∈ mv_TS := mv_TS_of (k := 1019) (by decide +kernel) rfl
theorem wn_ord : Cond.instanceMethod yj_ord ∈ mv_TS := mv_TS_of (k := 848) (by decide +kernel) rfl
theorem wx_ord : Cond.sameMethod "SluiceChain$Command" "java/lang/Enum" "ordinal" "()I" ∈ mv_TS := mv_TS_of (k := 845) (by decide +kernel) rfl
theorem ws_ord : Cond.selects "SluiceChain$Command" ⟨"SluiceChain$Command", "ordinal", "()I"⟩ yj_ord ∈ mv_TS := mv_TS_of (k := 847) (by decide +kernel) rfl
theorem gj_of {W0 : Cond} {l : List Cond} (h : ∀ w ∈ l, w ∈ mv_TS) : GoodIn (W0 :: mv_TS) (l ++ mv_TS) := by
  intro w hw
  have : w ∈ mv_TS := by
    rcases List.mem_append.mp hw with q | q
    · exact h w q
    · exact q
  exact ⟨List.mem_cons_of_mem _ this, good_of_word (List.mem_filter.mp this).2⟩
theorem gj_ts {l : List Cond} (h : ∀ w ∈ l, w ∈ mv_TS) : GoodIn mv_TS (l ++ mv_TS) := by
  intro w hw
  have : w ∈ mv_TS := by
    rcases List.mem_append.mp hw with q | q
    · exact h w q
    · exact q
  exact ⟨this, good_of_word (List.mem_filter.mp this).2⟩
def vj_N : Nat → Prop := fun _ => False
/-- a String constant, as it stands, and what the JDK's methods read beside it -/
def vj_S (a b n : Nat) (f : Nat → Value) (U : State) : Prop := va_O "java/lang/String" a vj_N U U.heap ∧ va_OF "java/lang/String" "coder" "B" (.int 0) a vj_N U U.heap ∧ va_OF "java/lang/String" "value" "[B" (.ref b) a vj_N U U.heap ∧ va_T .byte b n f vj_N U U.heap ∧ va_Z "java/lang/String" "COMPACT_STRINGS" "Z" (.int 1) vj_N U U.heap ∧ va_Zq "jdk/internal/util/Preconditions" "SIOOBE_FORMATTER" "Ljava/util/function/BiFunction;" vj_N U U.heap
theorem vj_S.to {a b n : Nat} {f : Nat → Value} {u U : State} (h : vj_S a b n f u) (hvm : u.vm.Alike U.vm) (hh : U.heap = u.heap) : vj_S a b n f U := by
  unfold vj_S
  rw [hh]
  obtain ⟨h1, h2, h3, h4, h5, h6⟩ := h
  exact ⟨va_O.moved hvm h1, va_OF.moved hvm h2, va_OF.moved hvm h3, va_T.moved hvm h4, va_Z.moved hvm h5, va_Zq.moved hvm h6⟩
theorem vj_recv {a b n : Nat} {f : Nat → Value} {s : State} (h : vj_S a b n f s) : ∃ cell : Cell, s.heap[a]? = some cell ∧ cell.vm.isStatics = false ∧ s.vm.findClass "java/lang/String" = some cell.cls := by
  obtain ⟨⟨cell, h1, h2, h3, -⟩, -⟩ := h
  exact ⟨cell, h1, h2, h3⟩
theorem cj_ord (l : Launch) (h0 : Heap) (a : Nat) (v : Int32) : Met l yj_ord wl_ord ({ frames := 0, cells := 0, slots := 0, locals := 0 } : Room) (va_Pc [.ref a] (fun U => U.heap = h0 ∧ va_OF "java/lang/Enum" "ordinal" "I" (.int v) a vj_N U U.heap)) (va_Qi (fun r (_ : Unit) => r = v) (fun _ t => t.heap = h0) vj_N) 0 0 vj_N := by
  refine Met.ofW (cc := prog_22_method_2_code) (maxL := 1) (ret := (some .int)) (by decide) rfl ?_
  intro p e s m args below meth c s₁ B hml hv
  obtain ⟨rfl, rfl, hO⟩ := hv
  have hx := B.exec
  have hb := B.bytes
  have hr := B.returns
  have hts : ∀ w ∈ wl_ord, w.before _ s = true := atoms_spec (ws := wl_ord) B.pre
  have hT : ∀ {w : Cond}, w ∈ mv_TS → w.before _ s = true := fun h => hts _ (List.mem_cons_of_mem _ h)
  have hown : s.vm.findClass "java/lang/Enum" = some m.cls := findClass_of_methodNamed B.named
  have hlocks := B.notSynchronized
  have hS : va_S vj_N s.heap s.heap [] := va_S.rf
  have hl := lv_entry ([.ref a]) (n := 1) (Nat.le_of_ble_eq_true rfl)
  rw [lg_entry_eq]
  generalize (lg_sl ([.ref a]) ++ List.replicate (1 - (lg_sl ([.ref a])).length) Slot.unset).toArray = ls at hl ⊢
  have hl : lv_has ls 1 [(0, .ref a)] := hl
  refine lv_aload_n hx hb dj_ord_0 rfl (lv_at hl 0 rfl) ?_
  refine vk_getf hx hb hO hS hown (hT wf_ord) (fun _ h => h) dj_ord_1 ?_
  exact W.iret (v := v) hx hb hr (fun t ht hW => ⟨⟨v, (), rfl, rfl, ht⟩, hS.F ht⟩) hS.2.2 dj_ord_4
theorem cj_cod (l : Launch) (h0 : Heap) (a b n : Nat) (f : Nat → Value) : Met l yj_cod wl_cod ({ frames := 0, cells := 0, slots := 0, locals := 0 } : Room) (va_Pc [.ref a] (fun U => U.heap = h0 ∧ vj_S a b n f U)) (va_Qi (fun r (_ : Unit) => r = 0) (fun _ t => t.heap = h0) vj_N) 0 0 vj_N := by
  refine Met.ofW (cc := prog_31_method_152_code) (maxL := 1) (ret := (some .byte)) (by decide) rfl ?_
  intro p e s m args below meth c s₁ B hml hv
  obtain ⟨rfl, rfl, hO⟩ := hv
  have hx := B.exec
  have hb := B.bytes
  have hr := B.returns
  have hts : ∀ w ∈ wl_cod, w.before _ s = true := atoms_spec (ws := wl_cod) B.pre
  have hT : ∀ {w : Cond}, w ∈ mv_TS → w.before _ s = true := fun h => hts _ (List.mem_cons_of_mem _ h)
  have hown : s.vm.findClass "java/lang/String" = some m.cls := findClass_of_methodNamed B.named
  have hlocks := B.notSynchronized
  have hS : va_S vj_N s.heap s.heap [] := va_S.rf
  have hl := lv_entry ([.ref a]) (n := 1) (Nat.le_of_ble_eq_true rfl)
  rw [lg_entry_eq]
  generalize (lg_sl ([.ref a]) ++ List.replicate (1 - (lg_sl ([.ref a])).length) Slot.unset).toArray = ls at hl ⊢
  have hl : lv_has ls 1 [(0, .ref a)] := hl
  refine va_gets hx hb hO.2.2.2.2.1 hS hown (hT wf_cst) (fun _ h => h) dj_cod_0 ?_
  refine lv_if_eq hx hb dj_cod_3 (tgt := 13) rfl (fun h => absurd h (by decide)) (fun _ => ?_)
  refine lv_aload_n hx hb dj_cod_6 rfl (lv_at hl 0 rfl) ?_
  refine vk_getf hx hb hO.2.1 hS hown (hT wf_cod) (fun _ h => h) dj_cod_7 ?_
  refine lv_goto hx hb dj_cod_10 (tgt := 14) rfl ?_
  exact W.zret (v := 0) hx hb hr (by decide) (fun t ht hW => ⟨⟨0, (), rfl, rfl, ht⟩, hS.F ht⟩) hS.2.2 dj_cod_14
theorem cj_lat (l : Launch) (h0 : Heap) (a b n : Nat) (f : Nat → Value) : Met l yj_lat wl_lat ({ frames := 0, cells := 0, slots := 0, locals := 0 } : Room) (va_Pc [.ref a] (fun U => U.heap = h0 ∧ vj_S a b n f U)) (va_Qi (fun r (_ : Unit) => r = 1) (fun _ t => t.heap = h0) vj_N) 0 0 vj_N := by
  refine Met.ofW (cc := prog_31_method_154_code) (maxL := 1) (ret := (some .boolean)) (by decide) rfl ?_
  intro p e s m args below meth c s₁ B hml hv
  obtain ⟨rfl, rfl, hO⟩ := hv
  have hx := B.exec
  have hb := B.bytes
  have hr := B.returns
  have hts : ∀ w ∈ wl_lat, w.before _ s = true := atoms_spec (ws := wl_lat) B.pre
  have hT : ∀ {w : Cond}, w ∈ mv_TS → w.before _ s = true := fun h => hts _ (List.mem_cons_of_mem _ h)
  have hown : s.vm.findClass "java/lang/String" = some m.cls := findClass_of_methodNamed B.named
  have hlocks := B.notSynchronized
  have hS : va_S vj_N s.heap s.heap [] := va_S.rf
  have hl := lv_entry ([.ref a]) (n := 1) (Nat.le_of_ble_eq_true rfl)
  rw [lg_entry_eq]
  generalize (lg_sl ([.ref a]) ++ List.replicate (1 - (lg_sl ([.ref a])).length) Slot.unset).toArray = ls at hl ⊢
  have hl : lv_has ls 1 [(0, .ref a)] := hl
  refine va_gets hx hb hO.2.2.2.2.1 hS hown (hT wf_cst) (fun _ h => h) dj_lat_0 ?_
  refine lv_if_eq hx hb dj_lat_3 (tgt := 17) rfl (fun h => absurd h (by decide)) (fun _ => ?_)
  refine lv_aload_n hx hb dj_lat_6 rfl (lv_at hl 0 rfl) ?_
  refine vk_getf hx hb hO.2.1 hS hown (hT wf_cod) (fun _ h => h) dj_lat_7 ?_
  refine lv_if_ne hx hb dj_lat_10 (tgt := 17) rfl (fun h => absurd rfl h) (fun _ => ?_)
  refine lv_iconst (v := 1) hx hb dj_lat_13 (by decide) ?_
  refine lv_goto hx hb dj_lat_14 (tgt := 18) rfl ?_
  exact W.zret (v := 1) hx hb hr (by decide) (fun t ht hW => ⟨⟨1, (), rfl, rfl, ht⟩, hS.F ht⟩) hS.2.2 dj_lat_18
theorem cj_pci (l : Launch) (h0 : Heap) (i n : Int32) (v : Value) (hv : v = .null ∨ ∃ q, v = .ref q) (hi : ¬ i < 0) (hn : i < n) : Met l yj_pci wl_pci ({ frames := 0, cells := 0, slots := 0, locals := 0 } : Room) (va_Pc [.int i, .int n, v] (fun U => U.heap = h0 ∧ True)) (va_Qi (fun r (_ : Unit) => r = i) (fun _ t => t.heap = h0) vj_N) 0 0 vj_N := by
  have hc : lg_sl [.int i, .int n, v] = [.val (.int i), .val (.int n), .val v] := by rcases hv with rfl | ⟨q, rfl⟩ <;> rfl
  have hla : lv_args 0 [.int i, .int n, v] = [(0, .int i), (1, .int n), (2, v)] := by rcases hv with rfl | ⟨q, rfl⟩ <;> rfl
  refine Met.ofW (cc := prog_42_method_11_code) (maxL := 3) (ret := (some .int)) (by decide) rfl ?_
  intro p e s m args below meth c s₁ B hml hv
  obtain ⟨rfl, rfl, hO⟩ := hv
  have hx := B.exec
  have hb := B.bytes
  have hr := B.returns
  have hts : ∀ w ∈ wl_pci, w.before _ s = true := atoms_spec (ws := wl_pci) B.pre
  have hT : ∀ {w : Cond}, w ∈ mv_TS → w.before _ s = true := fun h => hts _ (List.mem_cons_of_mem _ h)
  have hown : s.vm.findClass "jdk/internal/util/Preconditions" = some m.cls := findClass_of_methodNamed B.named
  have hlocks := B.notSynchronized
  have hS : va_S vj_N s.heap s.heap [] := va_S.rf
  have hl := lv_entry ([.int i, .int n, v]) (n := 3) (by rw [hc]; exact Nat.le_refl 3)
  rw [hla] at hl
  rw [lg_entry_eq]
  generalize (lg_sl ([.int i, .int n, v]) ++ List.replicate (3 - (lg_sl ([.int i, .int n, v])).length) Slot.unset).toArray = ls at hl ⊢
  have hl : lv_has ls 3 [(0, .int i), (1, .int n), (2, v)] := hl
  refine lv_iload_n hx hb dj_pci_0 rfl (lv_at hl 0 rfl) ?_
  refine lv_if_lt hx hb dj_pci_1 (tgt := 9) rfl (fun h => absurd h hi) (fun _ => ?_)
  refine lv_iload_n hx hb dj_pci_4 rfl (lv_at hl 0 rfl) ?_
  refine lv_iload_n hx hb dj_pci_5 rfl (lv_at hl 1 rfl) ?_
  refine lv_icmp_lt hx hb dj_pci_6 (tgt := 16) rfl (fun _ => ?_) (fun h => absurd hn h)
  refine lv_iload_n hx hb dj_pci_16 rfl (lv_at hl 0 rfl) ?_
  exact W.iret (v := i) hx hb hr (fun t ht hW => ⟨⟨i, (), rfl, rfl, ht⟩, hS.F ht⟩) hS.2.2 dj_pci_17
theorem cj_len (l : Launch) (h0 : Heap) (a b n : Nat) (f : Nat → Value) : Met l yj_len wl_len ({ frames := 1, cells := 0, slots := 0, locals := 20 } : Room) (va_Pc [.ref a] (fun U => U.heap = h0 ∧ vj_S a b n f U)) (va_Qi (fun r (_ : Unit) => r = Int32.ofNat n) (fun _ t => t.heap = h0) vj_N) 0 0 vj_N := by
  refine Met.ofW (cc := prog_31_method_54_code) (maxL := 1) (ret := (some .int)) (by decide) rfl ?_
  intro p e s m args below meth c s₁ B hml hv
  obtain ⟨rfl, rfl, hO⟩ := hv
  have hx := B.exec
  have hb := B.bytes
  have hr := B.returns
  have hts : ∀ w ∈ wl_len, w.before _ s = true := atoms_spec (ws := wl_len) B.pre
  have hT : ∀ {w : Cond}, w ∈ mv_TS → w.before _ s = true := fun h => hts _ (List.mem_cons_of_mem _ h)
  have hown : s.vm.findClass "java/lang/String" = some m.cls := findClass_of_methodNamed B.named
  have hlocks := B.notSynchronized
  have hS : va_S vj_N s.heap s.heap [] := va_S.rf
  have hl := lv_entry ([.ref a]) (n := 1) (Nat.le_of_ble_eq_true rfl)
  rw [lg_entry_eq]
  generalize (lg_sl ([.ref a]) ++ List.replicate (1 - (lg_sl ([.ref a])).length) Slot.unset).toArray = ls at hl ⊢
  have hl : lv_has ls 1 [(0, .ref a)] := hl
  refine lv_aload_n hx hb dj_len_0 rfl (lv_at hl 0 rfl) ?_
  refine vk_getf hx hb hO.2.2.1 hS hown (hT wf_val) (fun _ h => h) dj_len_1 ?_
  refine va_tlen hx hb hO.2.2.2.1 hS (v := Int32.ofNat n) rfl dj_len_4 ?_
  refine lv_aload_n hx hb dj_len_5 rfl (lv_at hl 0 rfl) ?_
  have hg : GoodIn wl_len (wsV "java/lang/String" 335 "java/lang/String" yj_cod wl_cod) := gj_of (l := [.methodLink "java/lang/String" 335 yj_cod, .instanceMethod yj_cod, .selects "java/lang/String" yj_cod yj_cod, .initialized "java/lang/String", Cond.code yj_cod prog_31_method_152_code 1 (some .byte)]) (by
    intro w hw
    simp only [List.mem_cons, List.not_mem_nil, or_false] at hw
    rcases hw with rfl | rfl | rfl | rfl | rfl
    · exact wm_cod
    · exact wn_cod
    · exact ws_cod
    · exact wi_str
    · exact wj_cod)
  refine va_calli (va_runV (As := []) (rest := [.int (Int32.ofNat n)]) ⟨hx, hb, hml, hown, hts⟩ (cj_cod l s.heap a b n f) (cwV 0 hts hg rfl rfl rfl (by decide +kernel) ⟨Nat.le_of_ble_eq_true rfl, Nat.le_of_ble_eq_true rfl⟩) ⟨fun a U g mk q => by obtain ⟨q0, q1, q2⟩ := q; exact ⟨q0, q1, q2.to (U := U.calling g mk a) (Vm.Alike.refl U.vm) rfl⟩, vj_recv hO, fun U hU hW => ⟨rfl, hU, hO.to hW.alike hU⟩⟩ rfl rfl hl.1 rfl (lv_room (Nat.le_of_ble_eq_true rfl)) dj_len_6 ⟨Nat.zero_le _, Nat.zero_le _⟩) hS (fun q _ h => h.elim) (fun q h => h.elim) (fun r u t H1 locs1 ht hvm hw hB hz1 hk1 hS1 => ?_)
  have hH : H1 = s.heap := ht.symm.trans hB
  subst hH
  have hw : r = 0 := hw
  subst hw
  refine lv_ishr hx hb dj_len_9 ?_
  rw [show (Int32.ofNat n >>> ((0 : Int32) &&& 31)) = Int32.ofNat n by rw [show ((0 : Int32) &&& 31) = 0 by decide]; simp]
  exact W.iret (v := Int32.ofNat n) hx hb hr (fun t ht hW => ⟨⟨Int32.ofNat n, (), rfl, rfl, ht⟩, hS1.F ht⟩) hS1.2.2 dj_len_10
theorem cj_sci (l : Launch) (h0 : Heap) (i n : Int32) (hi : ¬ i < 0) (hn : i < n) : Met l yj_sci wl_sci ({ frames := 1, cells := 0, slots := 0, locals := 22 } : Room) (va_Pc [.int i, .int n] (fun U => U.heap = h0 ∧ va_Zq "jdk/internal/util/Preconditions" "SIOOBE_FORMATTER" "Ljava/util/function/BiFunction;" vj_N U U.heap)) (va_Qv (fun (_ : Unit) => True) (fun _ t => t.heap = h0) vj_N) 0 0 vj_N := by
  refine Met.ofW (cc := prog_31_method_155_code) (maxL := 2) (ret := none) (by decide) rfl ?_
  intro p e s m args below meth c s₁ B hml hv
  obtain ⟨rfl, rfl, hO⟩ := hv
  have hx := B.exec
  have hb := B.bytes
  have hr := B.returns
  have hts : ∀ w ∈ wl_sci, w.before _ s = true := atoms_spec (ws := wl_sci) B.pre
  have hT : ∀ {w : Cond}, w ∈ mv_TS → w.before _ s = true := fun h => hts _ (List.mem_cons_of_mem _ h)
  have hown : s.vm.findClass "java/lang/String" = some m.cls := findClass_of_methodNamed B.named
  have hlocks := B.notSynchronized
  have hS : va_S vj_N s.heap s.heap [] := va_S.rf
  have hl := lv_entry ([.int i, .int n]) (n := 2) (Nat.le_of_ble_eq_true rfl)
  rw [lg_entry_eq]
  generalize (lg_sl ([.int i, .int n]) ++ List.replicate (2 - (lg_sl ([.int i, .int n])).length) Slot.unset).toArray = ls at hl ⊢
  have hl : lv_has ls 2 [(0, .int i), (1, .int n)] := hl
  refine lv_iload_n hx hb dj_sci_0 rfl (lv_at hl 0 rfl) ?_
  refine lv_iload_n hx hb dj_sci_1 rfl (lv_at hl 1 rfl) ?_
  have hg : GoodIn wl_sci (va_wsS "java/lang/String" 1059 yj_pci wl_pci) := gj_of (l := [.methodLink "java/lang/String" 1059 yj_pci, .static yj_pci, .initialized "jdk/internal/util/Preconditions", Cond.code yj_pci prog_42_method_11_code 3 (some .int)]) (by
    intro w hw
    simp only [List.mem_cons, List.not_mem_nil, or_false] at hw
    rcases hw with rfl | rfl | rfl | rfl
    · exact wm_pci
    · exact wt_pci
    · exact wi_pre
    · exact wj_pci)
  have key : ∀ v : Value, (v = .null ∨ ∃ q, v = .ref q) → W p l e (headSpec wl_sci ({ frames := 1, cells := 0, slots := 0, locals := 22 } : Room)).room s m #[Value.int i, Value.int n] below meth c s.heap [] 0 0 (MQ below (va_Qv (fun (_ : Unit) => True) (fun _ t => t.heap = s.heap) vj_N) #[Value.int i, Value.int n] s 0 0 vj_N) (F0 m 5 ls [v, .int n, .int i]) := by
    intro v hv
    refine va_calli (va_runS (As := [.int i, .int n, v]) (rest := []) ⟨hx, hb, hml, hown, hts⟩ (cj_pci l s.heap i n v hv hi hn) (va_cwS 3 hts hg rfl rfl rfl (by decide +kernel) ⟨Nat.le_of_ble_eq_true rfl, Nat.le_of_ble_eq_true rfl⟩) ⟨fun a U g mk q => q, fun U hU hW => ⟨rfl, hU, trivial⟩⟩ rfl rfl hl.1 rfl (lv_room (Nat.le_of_ble_eq_true rfl)) dj_sci_5 ⟨Nat.zero_le _, Nat.zero_le _⟩) hS (fun q _ h => h.elim) (fun q h => h.elim) (fun r u t H1 locs1 ht hvm hw hB hz1 hk1 hS1 => ?_)
    have hH : H1 = s.heap := ht.symm.trans hB
    subst hH
    refine lv_pop hx hb dj_sci_8 rfl ?_
    exact W.vret hx hb hr (fun t ht hW => ⟨⟨(), rfl, trivial, ht⟩, hS1.F ht⟩) hS1.2.2 dj_sci_9
  rcases hO with hO | ⟨q, hO⟩
  · exact va_gets hx hb hO hS hown (hT wf_sio) (fun _ h => h) dj_sci_2 (key _ (.inl rfl))
  · exact va_gets hx hb hO hS hown (hT wf_sio) (fun _ h => h) dj_sci_2 (key _ (.inr ⟨q, rfl⟩))
theorem cj_lch (l : Launch) (h0 : Heap) (a b n : Nat) (f : Nat → Value) (i v : Int32) (hi : vp_in i n) (hn : ¬ i < 0 ∧ i < Int32.ofNat n) (hv : f i.toNatClampNeg = .int v) : Met l yj_lch wl_lch ({ frames := 2, cells := 0, slots := 0, locals := 43 } : Room) (va_Pc [.ref b, .int i] (fun U => U.heap = h0 ∧ vj_S a b n f U)) (va_Qi (fun r (_ : Unit) => r = v &&& 255) (fun _ t => t.heap = h0) vj_N) 0 0 vj_N := by
  refine Met.ofW (cc := prog_33_method_2_code) (maxL := 2) (ret := (some .char)) (by decide) rfl ?_
  intro p e s m args below meth c s₁ B hml hv
  obtain ⟨rfl, rfl, hO⟩ := hv
  have hx := B.exec
  have hb := B.bytes
  have hr := B.returns
  have hts : ∀ w ∈ wl_lch, w.before _ s = true := atoms_spec (ws := wl_lch) B.pre
  have hT : ∀ {w : Cond}, w ∈ mv_TS → w.before _ s = true := fun h => hts _ (List.mem_cons_of_mem _ h)
  have hown : s.vm.findClass "java/lang/StringLatin1" = some m.cls := findClass_of_methodNamed B.named
  have hlocks := B.notSynchronized
  have hS : va_S vj_N s.heap s.heap [] := va_S.rf
  have hl := lv_entry ([.ref b, .int i]) (n := 2) (Nat.le_of_ble_eq_true rfl)
  rw [lg_entry_eq]
  generalize (lg_sl ([.ref b, .int i]) ++ List.replicate (2 - (lg_sl ([.ref b, .int i])).length) Slot.unset).toArray = ls at hl ⊢
  have hl : lv_has ls 2 [(0, .ref b), (1, .int i)] := hl
  refine lv_iload_n hx hb dj_lch_0 rfl (lv_at hl 1 rfl) ?_
  refine lv_aload_n hx hb dj_lch_1 rfl (lv_at hl 0 rfl) ?_
  refine va_tlen hx hb hO.2.2.2.1 hS (v := Int32.ofNat n) rfl dj_lch_2 ?_
  have hg : GoodIn wl_lch (va_wsS "java/lang/StringLatin1" 9 yj_sci wl_sci) := gj_of (l := [.methodLink "java/lang/StringLatin1" 9 yj_sci, .static yj_sci, .initialized "java/lang/String", Cond.code yj_sci prog_31_method_155_code 2 none]) (by
    intro w hw
    simp only [List.mem_cons, List.not_mem_nil, or_false] at hw
    rcases hw with rfl | rfl | rfl | rfl
    · exact wm_sci
    · exact wt_sci
    · exact wi_str
    · exact wj_sci)
  refine va_callv (va_runS (As := [.int i, .int (Int32.ofNat n)]) (rest := []) ⟨hx, hb, hml, hown, hts⟩ (cj_sci l s.heap i (Int32.ofNat n) hn.1 hn.2) (va_cwS 2 hts hg rfl rfl rfl (by decide +kernel) ⟨Nat.le_of_ble_eq_true rfl, Nat.le_of_ble_eq_true rfl⟩) ⟨fun a U g mk q => by obtain ⟨q0, q1, q2⟩ := q; exact ⟨q0, q1, va_Zq.moved (u := U) (U := U.calling g mk a) (Vm.Alike.refl U.vm) q2⟩, fun U hU hW => ⟨rfl, hU, by rw [hU]; exact va_Zq.moved hW.alike hO.2.2.2.2.2⟩⟩ rfl rfl hl.1 rfl (lv_room (Nat.le_of_ble_eq_true rfl)) dj_lch_3 ⟨Nat.zero_le _, Nat.zero_le _⟩) hS (fun q _ h => h.elim) (fun q h => h.elim) (fun u t H1 locs1 ht hvm hw hB hz1 hk1 hS1 => ?_)
  have hH : H1 = s.heap := ht.symm.trans hB
  subst hH
  refine lv_aload_n hx hb dj_lch_6 rfl (lv_at hl 0 rfl) ?_
  refine lv_iload_n hx hb dj_lch_7 rfl (lv_at hl 1 rfl) ?_
  refine va_tb hx hb hO.2.2.2.1 hS1 hi hv dj_lch_8 ?_
  refine lv_sipush (v := 255) hx hb dj_lch_9 (by decide) ?_
  refine lv_iand hx hb dj_lch_12 ?_
  refine lv_i2c hx hb dj_lch_13 (sc_c2 v) ?_
  exact W.zret hx hb hr (sc_nar v) (fun t ht hW => ⟨⟨_, (), rfl, rfl, ht⟩, hS1.F ht⟩) hS1.2.2 dj_lch_14
theorem cj_cha (l : Launch) (h0 : Heap) (a b n : Nat) (f : Nat → Value) (i v : Int32) (hi : vp_in i n) (hn : ¬ i < 0 ∧ i < Int32.ofNat n) (hv : f i.toNatClampNeg = .int v) : Met l yj_cha wl_cha ({ frames := 3, cells := 0, slots := 0, locals := 64 } : Room) (va_Pc [.ref a, .int i] (fun U => U.heap = h0 ∧ vj_S a b n f U)) (va_Qi (fun r (_ : Unit) => r = v &&& 255) (fun _ t => t.heap = h0) vj_N) 0 0 vj_N := by
  refine Met.ofW (cc := prog_31_method_56_code) (maxL := 2) (ret := (some .char)) (by decide) rfl ?_
  intro p e s m args below meth c s₁ B hml hv
  obtain ⟨rfl, rfl, hO⟩ := hv
  have hx := B.exec
  have hb := B.bytes
  have hr := B.returns
  have hts : ∀ w ∈ wl_cha, w.before _ s = true := atoms_spec (ws := wl_cha) B.pre
  have hT : ∀ {w : Cond}, w ∈ mv_TS → w.before _ s = true := fun h => hts _ (List.mem_cons_of_mem _ h)
  have hown : s.vm.findClass "java/lang/String" = some m.cls := findClass_of_methodNamed B.named
  have hlocks := B.notSynchronized
  have hS : va_S vj_N s.heap s.heap [] := va_S.rf
  have hl := lv_entry ([.ref a, .int i]) (n := 2) (Nat.le_of_ble_eq_true rfl)
  rw [lg_entry_eq]
  generalize (lg_sl ([.ref a, .int i]) ++ List.replicate (2 - (lg_sl ([.ref a, .int i])).length) Slot.unset).toArray = ls at hl ⊢
  have hl : lv_has ls 2 [(0, .ref a), (1, .int i)] := hl
  refine lv_aload_n hx hb dj_cha_0 rfl (lv_at hl 0 rfl) ?_
  have hg : GoodIn wl_cha (wsV "java/lang/String" 492 "java/lang/String" yj_lat wl_lat) := gj_of (l := [.methodLink "java/lang/String" 492 yj_lat, .instanceMethod yj_lat, .selects "java/lang/String" yj_lat yj_lat, .initialized "java/lang/String", Cond.code yj_lat prog_31_method_154_code 1 (some .boolean)]) (by
    intro w hw
    simp only [List.mem_cons, List.not_mem_nil, or_false] at hw
    rcases hw with rfl | rfl | rfl | rfl | rfl
    · exact wm_lat
    · exact wn_lat
    · exact ws_lat
    · exact wi_str
    · exact wj_lat)
  have hg2 : GoodIn wl_cha (va_wsS "java/lang/String" 495 yj_lch wl_lch) := gj_of (l := [.methodLink "java/lang/String" 495 yj_lch, .static yj_lch, .initialized "java/lang/StringLatin1", Cond.code yj_lch prog_33_method_2_code 2 (some .char)]) (by
    intro w hw
    simp only [List.mem_cons, List.not_mem_nil, or_false] at hw
    rcases hw with rfl | rfl | rfl | rfl
    · exact wm_lch
    · exact wt_lch
    · exact wi_lat
    · exact wj_lch)
  refine va_calli (va_runV (As := []) (rest := []) ⟨hx, hb, hml, hown, hts⟩ (cj_lat l s.heap a b n f) (cwV 0 hts hg rfl rfl rfl (by decide +kernel) ⟨Nat.le_of_ble_eq_true rfl, Nat.le_of_ble_eq_true rfl⟩) ⟨fun a U g mk q => by obtain ⟨q0, q1, q2⟩ := q; exact ⟨q0, q1, q2.to (U := U.calling g mk a) (Vm.Alike.refl U.vm) rfl⟩, vj_recv hO, fun U hU hW => ⟨rfl, hU, hO.to hW.alike hU⟩⟩ rfl rfl hl.1 rfl (lv_room (Nat.le_of_ble_eq_true rfl)) dj_cha_1 ⟨Nat.zero_le _, Nat.zero_le _⟩) hS (fun q _ h => h.elim) (fun q h => h.elim) (fun r u t H1 locs1 ht hvm hw hB hz1 hk1 hS1 => ?_)
  have hH : H1 = s.heap := ht.symm.trans hB
  subst hH
  have hw : r = 1 := hw
  subst hw
  refine lv_if_eq hx hb dj_cha_4 (tgt := 16) rfl (fun h => absurd h (by decide)) (fun _ => ?_)
  refine lv_aload_n hx hb dj_cha_7 rfl (lv_at hl 0 rfl) ?_
  refine vk_getf hx hb hO.2.2.1 hS1 hown (hT wf_val) (fun _ h => h) dj_cha_8 ?_
  refine lv_iload_n hx hb dj_cha_11 rfl (lv_at hl 1 rfl) ?_
  refine va_calli (va_runS (As := [.ref b, .int i]) (rest := []) ⟨hx, hb, hml, hown, hts⟩ (cj_lch l s.heap a b n f i v hi hn hv) (va_cwS 2 hts hg2 rfl rfl rfl (by decide +kernel) ⟨Nat.le_of_ble_eq_true rfl, Nat.le_of_ble_eq_true rfl⟩) ⟨fun a U g mk q => by obtain ⟨q0, q1, q2⟩ := q; exact ⟨q0, q1, q2.to (U := U.calling g mk a) (Vm.Alike.refl U.vm) rfl⟩, fun U hU hW => ⟨rfl, hU, hO.to hW.alike hU⟩⟩ rfl rfl hl.1 rfl (lv_room (Nat.le_of_ble_eq_true rfl)) dj_cha_12 ⟨Nat.zero_le _, Nat.zero_le _⟩) hS1 (fun q _ h => h.elim) (fun q h => h.elim) (fun r u t H2 locs2 ht2 hvm2 hw2 hB2 hz2 hk2 hS2 => ?_)
  have hH : H2 = s.heap := ht2.symm.trans hB2
  subst hH
  have hw2 : r = v &&& 255 := hw2
  subst hw2
  exact W.zret hx hb hr (sc_nar v) (fun t ht hW => ⟨⟨_, (), rfl, rfl, ht⟩, hS2.F ht⟩) hS2.2.2 dj_cha_15
end
section
/-! THE JDK'S OWN METHODS -/
theorem mv_n64k {x : UInt64} (h : mv_n64 x = true) : vf_n64 x := (of_decide_eq_true (show decide (x &&& 0x7fffffffffffffff ≤ 0x7ff0000000000000) = true from h) : x &&& 0x7fffffffffffffff ≤ 0x7ff0000000000000)
theorem mv_n32k {x : UInt32} (h : mv_n32 x = true) : vf_n32 x := (of_decide_eq_true (show decide (x &&& 0x7fffffff ≤ 0x7f800000) = true from h) : x &&& 0x7fffffff ≤ 0x7f800000)
section NAT
variable {z : Nat} {kad : Nat → Nat} {dC : Nat → ClassId} {dI : Nat → Nat → Nat} {cA : Nat → ClassId} {wx : va_W} {L : Nat} {xs : Nat → Int32}
variable {p : Program} {l : Launch} {e : Env} {R : Room} {s : State} {m : MethodId} {args : Array Value} {below : List Frame} {meth : Method} {c : Code} {Q : State → Prop} {c0 s0 M : Nat}
variable {pc pc' nx a b w : Nat} {ls ls' : mv_V} {st st' : List Value} {σ σ' : mv_S}
theorem mv_cat (ad : Nat → Nat) (st : List Value) : ((st.map (mv_cv ad)).map fun v => v.category).sum = (st.map fun v => v.category).sum := by
  rw [List.map_map]
  congr 1
  apply List.map_congr_left
  intro v _
  exact mv_cv_cat ad v
theorem mv_mwk {own : String} {i a w : Nat} (h : mv_mw own i a w = true) (ha : ¬ a < 900) : lw_tbl[w]? = some (.methodLink own i (mv_nat a)) := by
  unfold mv_mw at h
  split at h
  · next o j y e =>
    simp only [Bool.and_eq_true, decide_eq_true_eq] at h
    obtain ⟨⟨rfl, rfl⟩, h3⟩ := h
    rw [if_neg ha] at h3
    rw [← h3]; exact e
  · next o j y hh e =>
    simp only [Bool.and_eq_true, decide_eq_true_eq] at h
    exact absurd h.1.2 ha
  · cases h
theorem mv_wmin : lw_tbl[656]? = some (.static Lib.Math.min.name) ∧ lw_tbl[657]? = some (.code Lib.Math.min.name Lib.Math.min.code 2 (some .int)) ∧ lw_tbl[79]? = some (.initialized "java/lang/Math") := ⟨by decide +kernel, by decide +kernel, by decide +kernel⟩
theorem mv_wmax : lw_tbl[703]? = some (.static Lib.Math.max.name) ∧ lw_tbl[704]? = some (.code Lib.Math.max.name Lib.Math.max.code 2 (some .int)) := ⟨by decide +kernel, by decide +kernel⟩
theorem mv_wobj : lw_tbl[100]? = some (.instanceMethod objectInit) ∧ lw_tbl[101]? = some (.code objectInit ⟨#[0xb1]⟩ 1 none) := ⟨by decide +kernel, by decide +kernel⟩
theorem mv_s_stat {i : Nat} (hF : mv_Fx z kad dC dI cA L xs p R s m args meth c M) (hin : mv_in M pc = some (.invokestatic i, nx, a, b, w))
    (h : mv_call 0 a b nx ls st σ = some (.inl (pc', ls', st', σ'))) (hR : mv_cc σ' ≤ R.cells + c0 ∧ mv_ss σ' ≤ R.slots + s0) (k : mv_W z kad dC dI cA wx p l e R s m args below meth c Q c0 s0 pc' ls' st' σ') : mv_W z kad dC dI cA wx p l e R s m args below meth c Q c0 s0 pc ls st σ := by
  obtain ⟨hok, hlen⟩ := mv_row hin
  obtain ⟨hx, hb, hml, hown, hts, hE, -, hRf, hRl⟩ := id hF
  have hdec := mv_okd hok
  have hmw : mv_mw (mv_mi M).2.1.cls i a w = true := by
    unfold mv_ok at hok
    simp only [Bool.and_eq_true] at hok
    exact hok.2
  unfold mv_call at h
  split at h
  · split at h <;> cases h
  · next ha =>
    have hw := mv_mwk hmw ha
    split at h
    · next y x st1 =>
      split at h
      · next hg =>
        obtain ⟨rfl, rfl, rfl, rfl⟩ := mv_nx_inv h
        obtain ⟨hd, rfl⟩ := mv_dec hdec hlen (Nat.succ_ne_zero _)
        intro H locs cells slots lsA hM hS hl hc hs
        exact va_mmin hx hb hl.1.symm hown (hts _ (mv_TS_of hw rfl)) (hts _ (mv_TS_of mv_wmin.1 rfl)) (hts _ (mv_TS_of mv_wmin.2.2 rfl)) (hts _ (mv_TS_of mv_wmin.2.1 rfl)) (by omega) (by rw [mv_cat]; omega) (by omega) (by omega) hd (k _ _ _ _ _ hM hS hl hc hs)
      · cases h
    · next y x st1 =>
      split at h
      · next hg =>
        obtain ⟨rfl, rfl, rfl, rfl⟩ := mv_nx_inv h
        obtain ⟨hd, rfl⟩ := mv_dec hdec hlen (Nat.succ_ne_zero _)
        intro H locs cells slots lsA hM hS hl hc hs
        exact va_mmax hx hb hl.1.symm hown (hts _ (mv_TS_of hw rfl)) (hts _ (mv_TS_of mv_wmax.1 rfl)) (hts _ (mv_TS_of mv_wmin.2.2 rfl)) (hts _ (mv_TS_of mv_wmax.2 rfl)) (by omega) (by rw [mv_cat]; omega) (by omega) (by omega) hd (k _ _ _ _ _ hM hS hl hc hs)
      · cases h
    all_goals first | contradiction | cases h
theorem mv_s_spec {i : Nat} (hF : mv_Fx z kad dC dI cA L xs p R s m args meth c M) (hin : mv_in M pc = some (.invokespecial i, nx, a, b, w))
    (h : mv_call 2 a b nx ls st σ = some (.inl (pc', ls', st', σ'))) (hR : mv_cc σ' ≤ R.cells + c0 ∧ mv_ss σ' ≤ R.slots + s0) (k : mv_W z kad dC dI cA wx p l e R s m args below meth c Q c0 s0 pc' ls' st' σ') : mv_W z kad dC dI cA wx p l e R s m args below meth c Q c0 s0 pc ls st σ := by
  obtain ⟨hok, hlen⟩ := mv_row hin
  obtain ⟨hx, hb, hml, hown, hts, hE, -, hRf, hRl⟩ := id hF
  have hdec := mv_okd hok
  unfold mv_call at h
  split at h
  · split at h <;> cases h
  · next ha =>
    split at h
    any_goals contradiction
    · next o st1 =>
      split at h
      · next hg =>
        have hmw : mv_mw (mv_mi M).2.1.cls i 905 w = true := by
          unfold mv_ok at hok
          simp only [Bool.and_eq_true, Bool.or_eq_true] at hok
          rcases hok.2 with h0 | h0
          · exact absurd (of_decide_eq_true h0) (by decide)
          · exact h0
        have hw := mv_mwk hmw ha
        obtain ⟨rfl, rfl, rfl, rfl⟩ := mv_nx_inv h
        obtain ⟨hd, rfl⟩ := mv_dec hdec hlen (Nat.succ_ne_zero _)
        intro H locs cells slots lsA hM hS hl hc hs
        have hroom := lv_room (m := m) (pc := pc) (ls := lsA) (rest := st'.map (mv_cv (mv_ad z kad))) (st := st'.map (mv_cv (mv_ad z kad))) (by rw [mv_cat]; exact hg)
        exact W.objInit hx hb hown (hts _ (mv_TS_of hw rfl)) (hts _ (mv_TS_of mv_wobj.1 rfl)) (hts _ (mv_TS_of mv_wobj.2 rfl)) rfl hl.1 rfl hd (by omega) (Nat.le_trans (Nat.add_le_add_right hroom 12) (by omega)) (k _ _ _ _ _ hM hS hl hc hs)
      · cases h
theorem vj_n {k : Nat} (j : Nat) (h : 1000 ≤ k) : ¬ k + j < 1000 := by omega
theorem vj_j {o k : Nat} (h1 : k ≤ o) (h2 : o < k + 8) : ∃ j : Nat, j < 8 ∧ o = k + j ∧ o - k = j := ⟨o - k, by omega, by omega, rfl⟩
theorem mv_s_virt {i : Nat} (hF : mv_Fx z kad dC dI cA L xs p R s m args meth c M) (hin : mv_in M pc = some (.invokevirtual i, nx, a, b, w))
    (h : mv_call 1 a b nx ls st σ = some (.inl (pc', ls', st', σ'))) (hR : mv_cc σ' ≤ R.cells + c0 ∧ mv_ss σ' ≤ R.slots + s0) (k : mv_W z kad dC dI cA wx p l e R s m args below meth c Q c0 s0 pc' ls' st' σ') : mv_W z kad dC dI cA wx p l e R s m args below meth c Q c0 s0 pc ls st σ := by
  obtain ⟨hok, hlen⟩ := mv_row hin
  obtain ⟨hx, hb, hml, hown, hts, hE, -, hRf, hRl⟩ := id hF
  have hdec := mv_okd hok
  have hmw : mv_mw (mv_mi M).2.1.cls i a w = true := by
    unfold mv_ok at hok
    simp only [Bool.and_eq_true] at hok
    exact hok.2
  unfold mv_call at h
  split at h
  · split at h <;> cases h
  · next ha =>
    have hw := mv_mwk hmw ha
    split at h
    any_goals contradiction
    · next o st1 _ =>
      split at h
      · next hg =>
        obtain ⟨rfl, rfl, rfl, rfl⟩ := mv_nx_inv h
        obtain ⟨hd, rfl⟩ := mv_dec hdec hlen (Nat.succ_ne_zero _)
        obtain ⟨j, hj, e8, e9⟩ := vj_j (k := 1000) hg.1 hg.2.1
        rw [e9] at k
        subst e8
        have had : mv_ad z kad (1000 + j) = kad (1000 + j) := if_neg (vj_n _ (by decide))
        obtain ⟨hO, hOF⟩ := hE.2.2.2.1 j hj
        intro H locs cells slots lsA hM hS hl hc hs
        have hgd : GoodIn mv_TS (va_wsU (mv_mi M).2.1.cls i "SluiceChain$Command" "java/lang/Enum" ⟨"SluiceChain$Command", "ordinal", "()I"⟩ yj_ord wl_ord) := gj_ts (l := [.methodLink (mv_mi M).2.1.cls i ⟨"SluiceChain$Command", "ordinal", "()I"⟩, .sameMethod "SluiceChain$Command" "java/lang/Enum" "ordinal" "()I", .selects "SluiceChain$Command" ⟨"SluiceChain$Command", "ordinal", "()I"⟩ yj_ord, .instanceMethod yj_ord, .initialized "java/lang/Enum", Cond.code yj_ord prog_22_method_2_code 1 (some .int)]) (by
          intro w9 hw9
          simp only [List.mem_cons, List.not_mem_nil, or_false] at hw9
          rcases hw9 with rfl | rfl | rfl | rfl | rfl | rfl
          · exact mv_TS_of hw rfl
          · exact wx_ord
          · exact ws_ord
          · exact wn_ord
          · exact wi_enu
          · exact wj_ord)
        show W p l e R s m args below meth c H locs cells slots Q (F0 m pc lsA (.ref (mv_ad z kad (1000 + j)) :: st1.map (mv_cv (mv_ad z kad))))
        rw [had]
        refine va_calli (va_runU (As := []) (rest := st1.map (mv_cv (mv_ad z kad))) ⟨hx, hb, hml, hown, hts⟩ (cj_ord l H (kad (1000 + j)) (nI j)) (va_cwU 0 hts hgd rfl rfl rfl rfl (by decide +kernel) ⟨by show 0 + 1 ≤ _; omega, by show 8 + (1 + 11) + 0 ≤ _; omega⟩) ⟨fun a U g mk q => by obtain ⟨q0, q1, q2⟩ := q; exact ⟨q0, q1, va_OF.moved (u := U) (U := U.calling g mk a) (Vm.Alike.refl U.vm) q2⟩, va_Orecv hO hS, fun U hU hW => ⟨rfl, hU, by rw [hU]; exact ((va_OF.moved hW.alike hOF).kept hS.2.1).narrow (fun _ h => h.elim)⟩⟩ rfl rfl (hl.1.trans hml) rfl (by rw [mv_cat]; exact lv_room (m := m) (pc := pc) (ls := lsA) (rest := st1) (st := st1) (by omega)) hd ⟨by omega, by omega⟩) hS (fun q _ h => h.elim) (fun q h => h.elim) (fun r u t H1 locs1 ht hvm hw hB hz1 hk1 hS1 => ?_)
        have hH : H1 = H := ht.symm.trans hB
        subst hH
        have hw : r = nI j := hw
        subst hw
        exact k _ _ _ _ _ hM hS1 hl (by omega) (by omega)
      · cases h
    all_goals first | contradiction | cases h
end NAT
end
section
/-! EACH ROW A STEP OF THE JVM -/
section STEP
variable {z : Nat} {kad : Nat → Nat} {dC : Nat → ClassId} {dI : Nat → Nat → Nat} {cA : Nat → ClassId} {wx : va_W} {L : Nat} {xs : Nat → Int32}
variable {p : Program} {l : Launch} {e : Env} {R : Room} {s : State} {m : MethodId} {args : Array Value} {below : List Frame} {meth : Method} {c : Code} {Q : State → Prop} {c0 s0 M : Nat}
set_option maxHeartbeats 8000000 in
set_option maxRecDepth 100000 in
theorem mv_step (hF : mv_Fx z kad dC dI cA L xs p R s m args meth c M) {pc : Nat} {r : mv_I} (hin : mv_in M pc = some r) {ls ls' : mv_V} {st st' : List Value} {σ σ' : mv_S} {pc' : Nat} (h : mv_stp L xs r ls st σ = some (.inl (pc', ls', st', σ')))
    (hR : mv_cc σ' ≤ R.cells + c0 ∧ mv_ss σ' ≤ R.slots + s0) (k : mv_W z kad dC dI cA wx p l e R s m args below meth c Q c0 s0 pc' ls' st' σ') : mv_W z kad dC dI cA wx p l e R s m args below meth c Q c0 s0 pc ls st σ := by
  obtain ⟨hok, hlen⟩ := mv_row hin
  obtain ⟨hx, hb, hml, -, -, hE, -, hRf, hRl⟩ := id hF
  obtain ⟨i, nx, a, b, w⟩ := r
  have hdec := mv_okd hok
  simp only [mv_stp] at h
  split at h
  · obtain ⟨rfl, rfl, rfl, rfl⟩ := mv_nx_inv h
    obtain ⟨hd, rfl⟩ := mv_dec hdec hlen (Nat.succ_ne_zero _)
    intro H locs cells slots lsA hM hS hl hc hs
    exact lv_iconst hx hb hd rfl (k _ _ _ _ _ hM hS hl hc hs)
  · obtain ⟨rfl, rfl, rfl, rfl⟩ := mv_nx_inv h
    obtain ⟨hd, rfl⟩ := mv_dec hdec hlen (Nat.succ_ne_zero _)
    intro H locs cells slots lsA hM hS hl hc hs
    exact lv_bipush hx hb hd rfl (k _ _ _ _ _ hM hS hl hc hs)
  · obtain ⟨rfl, rfl, rfl, rfl⟩ := mv_nx_inv h
    obtain ⟨hd, rfl⟩ := mv_dec hdec hlen (Nat.succ_ne_zero _)
    intro H locs cells slots lsA hM hS hl hc hs
    exact lv_sipush hx hb hd rfl (k _ _ _ _ _ hM hS hl hc hs)
  · exact mv_s_ldc hF hok hlen h k
  · obtain ⟨rfl, rfl, rfl, rfl⟩ := mv_nx_inv h
    obtain ⟨hd, rfl⟩ := mv_dec hdec hlen (Nat.succ_ne_zero _)
    intro H locs cells slots lsA hM hS hl hc hs
    exact lv_lconst hx hb hd rfl (k _ _ _ _ _ hM hS hl hc hs)
  · split at h
    · next hg =>
      subst hg
      obtain ⟨rfl, rfl, rfl, rfl⟩ := mv_nx_inv h
      obtain ⟨hd, rfl⟩ := mv_dec hdec hlen (Nat.succ_ne_zero _)
      intro H locs cells slots lsA hM hS hl hc hs
      exact lv_dconst0 hx hb hd (k _ _ _ _ _ hM hS hl hc hs)
    · cases h
  · split at h
    · next hg =>
      subst hg
      obtain ⟨rfl, rfl, rfl, rfl⟩ := mv_nx_inv h
      obtain ⟨hd, rfl⟩ := mv_dec hdec hlen (Nat.succ_ne_zero _)
      intro H locs cells slots lsA hM hS hl hc hs
      exact lv_fconst0 hx hb hd (k _ _ _ _ _ hM hS hl hc hs)
    · cases h
  · obtain ⟨rfl, rfl, rfl, rfl⟩ := mv_nx_inv h
    obtain ⟨hd, rfl⟩ := mv_dec hdec hlen (Nat.succ_ne_zero _)
    intro H locs cells slots lsA hM hS hl hc hs
    exact lv_null hx hb hd  (k _ _ _ _ _ hM hS hl hc hs)
  · obtain ⟨x, hv, rfl, rfl, rfl, rfl⟩ := mv_ld_inv0 h
    obtain ⟨hd, rfl⟩ := mv_dec hdec hlen (Nat.succ_ne_zero _)
    intro H locs cells slots lsA hM hS hl hc hs
    exact lv_iload_n hx hb hd rfl (mv_lat hl hv) (k _ _ _ _ _ hM hS hl hc hs)
  · obtain ⟨x, hv, rfl, rfl, rfl, rfl⟩ := mv_ld_inv0 h
    obtain ⟨hd, rfl⟩ := mv_dec hdec hlen (Nat.succ_ne_zero _)
    intro H locs cells slots lsA hM hS hl hc hs
    exact lv_iload hx hb hd (mv_lat hl hv) (k _ _ _ _ _ hM hS hl hc hs)
  · obtain ⟨x, hv, rfl, rfl, rfl, rfl⟩ := mv_ld_inv1 h
    obtain ⟨hd, rfl⟩ := mv_dec hdec hlen (Nat.succ_ne_zero _)
    intro H locs cells slots lsA hM hS hl hc hs
    exact lv_lload_n hx hb hd rfl (mv_lat hl hv) (k _ _ _ _ _ hM hS hl hc hs)
  · obtain ⟨x, hv, rfl, rfl, rfl, rfl⟩ := mv_ld_inv2 h
    obtain ⟨hd, rfl⟩ := mv_dec hdec hlen (Nat.succ_ne_zero _)
    intro H locs cells slots lsA hM hS hl hc hs
    exact lv_fload hx hb hd (mv_lat hl hv) (k _ _ _ _ _ hM hS hl hc hs)
  · obtain ⟨x, hv, rfl, rfl, rfl, rfl⟩ := mv_ld_inv3 h
    obtain ⟨hd, rfl⟩ := mv_dec hdec hlen (Nat.succ_ne_zero _)
    intro H locs cells slots lsA hM hS hl hc hs
    exact lv_dload_n hx hb hd rfl (mv_lat hl hv) (k _ _ _ _ _ hM hS hl hc hs)
  · obtain ⟨x, hv, rfl, rfl, rfl, rfl⟩ := mv_ld_inv3 h
    obtain ⟨hd, rfl⟩ := mv_dec hdec hlen (Nat.succ_ne_zero _)
    intro H locs cells slots lsA hM hS hl hc hs
    exact lv_dload hx hb hd (mv_lat hl hv) (k _ _ _ _ _ hM hS hl hc hs)
  · rcases mv_ld_inv4 h with ⟨x, hv, rfl, rfl, rfl, rfl⟩ | ⟨hv, rfl, rfl, rfl, rfl⟩
    · obtain ⟨hd, rfl⟩ := mv_dec hdec hlen (Nat.succ_ne_zero _)
      intro H locs cells slots lsA hM hS hl hc hs
      exact lv_aload_n hx hb hd rfl (mv_lat hl hv) (k _ _ _ _ _ hM hS hl hc hs)
    · obtain ⟨hd, rfl⟩ := mv_dec hdec hlen (Nat.succ_ne_zero _)
      intro H locs cells slots lsA hM hS hl hc hs
      exact lv_aload_nN hx hb hd rfl (mv_lat hl hv) (k _ _ _ _ _ hM hS hl hc hs)
  · rcases mv_ld_inv4 h with ⟨x, hv, rfl, rfl, rfl, rfl⟩ | ⟨hv, rfl, rfl, rfl, rfl⟩
    · obtain ⟨hd, rfl⟩ := mv_dec hdec hlen (Nat.succ_ne_zero _)
      intro H locs cells slots lsA hM hS hl hc hs
      exact lv_aload hx hb hd (mv_lat hl hv) (k _ _ _ _ _ hM hS hl hc hs)
    · obtain ⟨hd, rfl⟩ := mv_dec hdec hlen (Nat.succ_ne_zero _)
      intro H locs cells slots lsA hM hS hl hc hs
      exact lv_aloadN hx hb hd (mv_lat hl hv) (k _ _ _ _ _ hM hS hl hc hs)
  · obtain ⟨x, st1, rfl, rfl, rfl, rfl, rfl⟩ := mv_so_inv0 h
    obtain ⟨hd, rfl⟩ := mv_dec hdec hlen (Nat.succ_ne_zero _)
    intro H locs cells slots lsA hM hS hl hc hs
    exact lv_istore_n hx hb hd rfl hl (mv_side hin hml) (mv_st1 _ _ (.int x) _) (fun ls1 hl1 => k _ _ _ _ _ hM hS hl1 hc hs)
  · obtain ⟨x, st1, rfl, rfl, rfl, rfl, rfl⟩ := mv_so_inv0 h
    obtain ⟨hd, rfl⟩ := mv_dec hdec hlen (Nat.succ_ne_zero _)
    intro H locs cells slots lsA hM hS hl hc hs
    exact lv_istore hx hb hd hl (mv_side hin hml) (mv_st1 _ _ (.int x) _) (fun ls1 hl1 => k _ _ _ _ _ hM hS hl1 hc hs)
  · obtain ⟨x, st1, rfl, rfl, rfl, rfl, rfl⟩ := mv_so_inv1 h
    obtain ⟨hd, rfl⟩ := mv_dec hdec hlen (Nat.succ_ne_zero _)
    intro H locs cells slots lsA hM hS hl hc hs
    exact lv_lstore_n hx hb hd rfl hl (mv_side hin hml) (mv_st2 _ _ (.long x) _) (fun ls1 hl1 => k _ _ _ _ _ hM hS hl1 hc hs)
  · obtain ⟨x, st1, rfl, rfl, rfl, rfl, rfl⟩ := mv_so_inv2 h
    obtain ⟨hd, rfl⟩ := mv_dec hdec hlen (Nat.succ_ne_zero _)
    intro H locs cells slots lsA hM hS hl hc hs
    exact lv_fstore hx hb hd hl (mv_side hin hml) (mv_st1 _ _ (.float x) _) (fun ls1 hl1 => k _ _ _ _ _ hM hS hl1 hc hs)
  · obtain ⟨x, st1, rfl, rfl, rfl, rfl, rfl⟩ := mv_so_inv3 h
    obtain ⟨hd, rfl⟩ := mv_dec hdec hlen (Nat.succ_ne_zero _)
    intro H locs cells slots lsA hM hS hl hc hs
    exact lv_dstore_n hx hb hd rfl hl (mv_side hin hml) (mv_st2 _ _ (.double x) _) (fun ls1 hl1 => k _ _ _ _ _ hM hS hl1 hc hs)
  · obtain ⟨x, st1, rfl, rfl, rfl, rfl, rfl⟩ := mv_so_inv3 h
    obtain ⟨hd, rfl⟩ := mv_dec hdec hlen (Nat.succ_ne_zero _)
    intro H locs cells slots lsA hM hS hl hc hs
    exact lv_dstore hx hb hd hl (mv_side hin hml) (mv_st2 _ _ (.double x) _) (fun ls1 hl1 => k _ _ _ _ _ hM hS hl1 hc hs)
  · rcases mv_so_inv4 h with ⟨x, st1, rfl, rfl, rfl, rfl, rfl⟩ | ⟨st1, rfl, rfl, rfl, rfl, rfl⟩
    · obtain ⟨hd, rfl⟩ := mv_dec hdec hlen (Nat.succ_ne_zero _)
      intro H locs cells slots lsA hM hS hl hc hs
      exact lv_astore_n hx hb hd rfl hl (mv_side hin hml) (mv_st1 _ _ (.ref x) _) (fun ls1 hl1 => k _ _ _ _ _ hM hS hl1 hc hs)
    · obtain ⟨hd, rfl⟩ := mv_dec hdec hlen (Nat.succ_ne_zero _)
      intro H locs cells slots lsA hM hS hl hc hs
      exact lv_astore_nN hx hb hd rfl hl (mv_side hin hml) (mv_st1 _ _ .null _) (fun ls1 hl1 => k _ _ _ _ _ hM hS hl1 hc hs)
  · rcases mv_so_inv4 h with ⟨x, st1, rfl, rfl, rfl, rfl, rfl⟩ | ⟨st1, rfl, rfl, rfl, rfl, rfl⟩
    · obtain ⟨hd, rfl⟩ := mv_dec hdec hlen (Nat.succ_ne_zero _)
      intro H locs cells slots lsA hM hS hl hc hs
      exact lv_astore hx hb hd hl (mv_side hin hml) (mv_st1 _ _ (.ref x) _) (fun ls1 hl1 => k _ _ _ _ _ hM hS hl1 hc hs)
    · obtain ⟨hd, rfl⟩ := mv_dec hdec hlen (Nat.succ_ne_zero _)
      intro H locs cells slots lsA hM hS hl hc hs
      exact lv_astoreN hx hb hd hl (mv_side hin hml) (mv_st1 _ _ .null _) (fun ls1 hl1 => k _ _ _ _ _ hM hS hl1 hc hs)
  · split at h
    · next x hv =>
      obtain ⟨rfl, rfl, rfl, rfl⟩ := mv_nx_inv h
      obtain ⟨hd, rfl⟩ := mv_dec hdec hlen (Nat.succ_ne_zero _)
      intro H locs cells slots lsA hM hS hl hc hs
      obtain ⟨j, hj⟩ := List.getElem?_of_mem (show (_, mv_cv (mv_ad z kad) (.int x)) ∈ mv_lm (mv_ad z kad) ls from List.mem_map.mpr ⟨(_, .int x), mv_lk_mem hv, rfl⟩)
      exact lv_iinc hx hb hd hl hj rfl (mv_side hin hml) (mv_st1 _ _ (.int _) _) (fun ls1 hl1 => k _ _ _ _ _ hM hS hl1 hc hs)
    · cases h
  · obtain ⟨rfl, rfl, rfl, rfl⟩ := mv_nx_inv h
    obtain ⟨hd, rfl⟩ := mv_dec hdec hlen (Nat.succ_ne_zero _)
    intro H locs cells slots lsA hM hS hl hc hs
    exact lv_iadd hx hb hd  (k _ _ _ _ _ hM hS hl hc hs)
  · obtain ⟨rfl, rfl, rfl, rfl⟩ := mv_nx_inv h
    obtain ⟨hd, rfl⟩ := mv_dec hdec hlen (Nat.succ_ne_zero _)
    intro H locs cells slots lsA hM hS hl hc hs
    exact lv_isub hx hb hd  (k _ _ _ _ _ hM hS hl hc hs)
  · obtain ⟨rfl, rfl, rfl, rfl⟩ := mv_nx_inv h
    obtain ⟨hd, rfl⟩ := mv_dec hdec hlen (Nat.succ_ne_zero _)
    intro H locs cells slots lsA hM hS hl hc hs
    exact lv_imul hx hb hd  (k _ _ _ _ _ hM hS hl hc hs)
  · split at h
    · cases h
    · next hg =>
      obtain ⟨rfl, rfl, rfl, rfl⟩ := mv_nx_inv h
      obtain ⟨hd, rfl⟩ := mv_dec hdec hlen (Nat.succ_ne_zero _)
      intro H locs cells slots lsA hM hS hl hc hs
      exact lv_idiv hx hb hd hg (k _ _ _ _ _ hM hS hl hc hs)
  · split at h
    · cases h
    · next hg =>
      obtain ⟨rfl, rfl, rfl, rfl⟩ := mv_nx_inv h
      obtain ⟨hd, rfl⟩ := mv_dec hdec hlen (Nat.succ_ne_zero _)
      intro H locs cells slots lsA hM hS hl hc hs
      exact lv_irem hx hb hd hg (k _ _ _ _ _ hM hS hl hc hs)
  · obtain ⟨rfl, rfl, rfl, rfl⟩ := mv_nx_inv h
    obtain ⟨hd, rfl⟩ := mv_dec hdec hlen (Nat.succ_ne_zero _)
    intro H locs cells slots lsA hM hS hl hc hs
    exact lv_ineg hx hb hd  (k _ _ _ _ _ hM hS hl hc hs)
  · obtain ⟨rfl, rfl, rfl, rfl⟩ := mv_nx_inv h
    obtain ⟨hd, rfl⟩ := mv_dec hdec hlen (Nat.succ_ne_zero _)
    intro H locs cells slots lsA hM hS hl hc hs
    exact lv_iand hx hb hd  (k _ _ _ _ _ hM hS hl hc hs)
  · obtain ⟨rfl, rfl, rfl, rfl⟩ := mv_nx_inv h
    obtain ⟨hd, rfl⟩ := mv_dec hdec hlen (Nat.succ_ne_zero _)
    intro H locs cells slots lsA hM hS hl hc hs
    exact lv_ishl hx hb hd  (k _ _ _ _ _ hM hS hl hc hs)
  · obtain ⟨rfl, rfl, rfl, rfl⟩ := mv_nx_inv h
    obtain ⟨hd, rfl⟩ := mv_dec hdec hlen (Nat.succ_ne_zero _)
    intro H locs cells slots lsA hM hS hl hc hs
    exact lv_ishr hx hb hd  (k _ _ _ _ _ hM hS hl hc hs)
  · obtain ⟨rfl, rfl, rfl, rfl⟩ := mv_nx_inv h
    obtain ⟨hd, rfl⟩ := mv_dec hdec hlen (Nat.succ_ne_zero _)
    intro H locs cells slots lsA hM hS hl hc hs
    exact lv_iushr hx hb hd rfl (k _ _ _ _ _ hM hS hl hc hs)
  · obtain ⟨rfl, rfl, rfl, rfl⟩ := mv_nx_inv h
    obtain ⟨hd, rfl⟩ := mv_dec hdec hlen (Nat.succ_ne_zero _)
    intro H locs cells slots lsA hM hS hl hc hs
    exact lv_ladd hx hb hd  (k _ _ _ _ _ hM hS hl hc hs)
  · obtain ⟨rfl, rfl, rfl, rfl⟩ := mv_nx_inv h
    obtain ⟨hd, rfl⟩ := mv_dec hdec hlen (Nat.succ_ne_zero _)
    intro H locs cells slots lsA hM hS hl hc hs
    exact lv_lsub hx hb hd  (k _ _ _ _ _ hM hS hl hc hs)
  · obtain ⟨rfl, rfl, rfl, rfl⟩ := mv_nx_inv h
    obtain ⟨hd, rfl⟩ := mv_dec hdec hlen (Nat.succ_ne_zero _)
    intro H locs cells slots lsA hM hS hl hc hs
    exact W.lcmp hx hb hd  (k _ _ _ _ _ hM hS hl hc hs)
  · obtain ⟨rfl, rfl, rfl, rfl⟩ := mv_nx_inv h
    obtain ⟨hd, rfl⟩ := mv_dec hdec hlen (Nat.succ_ne_zero _)
    intro H locs cells slots lsA hM hS hl hc hs
    exact lv_i2l hx hb hd rfl (k _ _ _ _ _ hM hS hl hc hs)
  · obtain ⟨rfl, rfl, rfl, rfl⟩ := mv_nx_inv h
    obtain ⟨hd, rfl⟩ := mv_dec hdec hlen (Nat.succ_ne_zero _)
    intro H locs cells slots lsA hM hS hl hc hs
    exact lv_l2i hx hb hd rfl (k _ _ _ _ _ hM hS hl hc hs)
  · obtain ⟨rfl, rfl, rfl, rfl⟩ := mv_nx_inv h
    obtain ⟨hd, rfl⟩ := mv_dec hdec hlen (Nat.succ_ne_zero _)
    intro H locs cells slots lsA hM hS hl hc hs
    exact lv_i2c hx hb hd rfl (k _ _ _ _ _ hM hS hl hc hs)
  · obtain ⟨rfl, rfl, rfl, rfl⟩ := mv_nx_inv h
    obtain ⟨hd, rfl⟩ := mv_dec hdec hlen (Nat.succ_ne_zero _)
    intro H locs cells slots lsA hM hS hl hc hs
    exact lv_i2d hx hb hd  (k _ _ _ _ _ hM hS hl hc hs)
  · obtain ⟨rfl, rfl, rfl, rfl⟩ := mv_nx_inv h
    obtain ⟨hd, rfl⟩ := mv_dec hdec hlen (Nat.succ_ne_zero _)
    intro H locs cells slots lsA hM hS hl hc hs
    exact lv_i2f hx hb hd  (k _ _ _ _ _ hM hS hl hc hs)
  · split at h
    · next hg =>
      obtain ⟨rfl, rfl, rfl, rfl⟩ := mv_nx_inv h
      obtain ⟨hd, rfl⟩ := mv_dec hdec hlen (Nat.succ_ne_zero _)
      intro H locs cells slots lsA hM hS hl hc hs
      exact lv_f2d hx hb hd (mv_n64k hg) (k _ _ _ _ _ hM hS hl hc hs)
    · cases h
  · split at h
    · next hg =>
      obtain ⟨rfl, rfl, rfl, rfl⟩ := mv_nx_inv h
      obtain ⟨hd, rfl⟩ := mv_dec hdec hlen (Nat.succ_ne_zero _)
      intro H locs cells slots lsA hM hS hl hc hs
      exact lv_dadd hx hb hd (mv_n64k hg) (k _ _ _ _ _ hM hS hl hc hs)
    · cases h
  · split at h
    · next hg =>
      obtain ⟨rfl, rfl, rfl, rfl⟩ := mv_nx_inv h
      obtain ⟨hd, rfl⟩ := mv_dec hdec hlen (Nat.succ_ne_zero _)
      intro H locs cells slots lsA hM hS hl hc hs
      exact lv_ddiv hx hb hd (mv_n64k hg) (k _ _ _ _ _ hM hS hl hc hs)
    · cases h
  · split at h
    · next hg =>
      obtain ⟨rfl, rfl, rfl, rfl⟩ := mv_nx_inv h
      obtain ⟨hd, rfl⟩ := mv_dec hdec hlen (Nat.succ_ne_zero _)
      intro H locs cells slots lsA hM hS hl hc hs
      exact lv_fdiv hx hb hd (mv_n32k hg) (k _ _ _ _ _ hM hS hl hc hs)
    · cases h
  · obtain ⟨rfl, rfl, rfl, rfl⟩ := mv_nx_inv h
    obtain ⟨hd, rfl⟩ := mv_dec hdec hlen (Nat.succ_ne_zero _)
    intro H locs cells slots lsA hM hS hl hc hs
    exact lv_dcmp hx hb hd  (k _ _ _ _ _ hM hS hl hc hs)
  · obtain ⟨rfl, rfl, rfl, rfl⟩ := mv_nx_inv h
    obtain ⟨hd, rfl⟩ := mv_dec hdec hlen (Nat.succ_ne_zero _)
    intro H locs cells slots lsA hM hS hl hc hs
    exact lv_fcmp hx hb hd  (k _ _ _ _ _ hM hS hl hc hs)
  · split at h
    · next hg =>
      obtain ⟨rfl, rfl, rfl, rfl⟩ := mv_nx_inv h
      obtain ⟨hd, rfl⟩ := mv_dec hdec hlen (Nat.succ_ne_zero _)
      intro H locs cells slots lsA hM hS hl hc hs
      exact lv_dup hx hb hd ((mv_cv_cat _ _).trans hg) (k _ _ _ _ _ hM hS hl hc hs)
    · cases h
  · split at h
    · next hg =>
      obtain ⟨rfl, rfl, rfl, rfl⟩ := mv_nx_inv h
      obtain ⟨hd, rfl⟩ := mv_dec hdec hlen (Nat.succ_ne_zero _)
      intro H locs cells slots lsA hM hS hl hc hs
      exact lv_dup2_11 hx hb hd ((mv_cv_cat _ _).trans hg.1) ((mv_cv_cat _ _).trans hg.2) (k _ _ _ _ _ hM hS hl hc hs)
    · cases h
  · split at h
    · next hg =>
      obtain ⟨rfl, rfl, rfl, rfl⟩ := mv_nx_inv h
      obtain ⟨hd, rfl⟩ := mv_dec hdec hlen (Nat.succ_ne_zero _)
      intro H locs cells slots lsA hM hS hl hc hs
      exact lv_pop hx hb hd ((mv_cv_cat _ _).trans hg) (k _ _ _ _ _ hM hS hl hc hs)
    · cases h
  · obtain ⟨rfl, rfl, rfl, rfl⟩ := mv_nx_inv h
    obtain ⟨hd, rfl⟩ := mv_dec hdec hlen (Nat.succ_ne_zero _)
    intro H locs cells slots lsA hM hS hl hc hs
    exact lv_goto hx hb hd (mv_okt hok rfl) (k _ _ _ _ _ hM hS hl hc hs)
  · exact mv_s_icmp hF hok hlen h k
  · exact mv_s_if hF hok hlen h k
  · exact mv_s_acmp hF hin h k
  · obtain ⟨rfl, rfl, rfl, rfl⟩ := mv_nx_inv h
    obtain ⟨hd, rfl⟩ := mv_dec hdec hlen (Nat.succ_ne_zero _)
    intro H locs cells slots lsA hM hS hl hc hs
    exact lv_ifnonnull hx hb hd (mv_okt hok rfl) (k _ _ _ _ _ hM hS hl hc hs)
  · obtain ⟨rfl, rfl, rfl, rfl⟩ := mv_nx_inv h
    obtain ⟨hd, rfl⟩ := mv_dec hdec hlen (Nat.succ_ne_zero _)
    intro H locs cells slots lsA hM hS hl hc hs
    exact lv_ifnonnullN hx hb hd (k _ _ _ _ _ hM hS hl hc hs)
  · exact mv_s_get hF hin h k
  · exact mv_s_put hF hin h k
  · exact mv_s_static hF hin h k
  · exact mv_s_iald hF hin h k
  · exact mv_s_cald hF hin h k
  · exact mv_s_aald hF hin h k
  · exact mv_s_iast hF hin h k
  · exact mv_s_cast hF hin h k
  · exact mv_s_aast hF hin h k
  · exact mv_s_len hF hin h k
  · split at h
    · split at h <;> cases h
    · exact mv_s_new hF hin h hR k
  · exact mv_s_newa hF hin h hR k
  · exact mv_s_anew hF hin h hR k
  · exact mv_s_switch hF hin h k
  · exact mv_s_virt hF hin h hR k
  · exact mv_s_stat hF hin h hR k
  · exact mv_s_spec hF hin h hR k
  · exact (mv_r1_no h).elim
  · cases h
  · cases h
  · cases h
  · cases h
  · cases h
  · cases h
  · cases h
end STEP
end
section
/-! WHAT IS MADE ONLY GROWS -/
section MONO
variable {L : Nat} {xs : Nat → Int32}
theorem mv_nx_m {nx pc : Nat} {ls ls' : mv_V} {st st' : List Value} {σ τ σ' : mv_S} (h : mv_nx nx ls st τ = some (.inl (pc, ls', st', σ'))) (hs : σ.1 ≤ τ.1 ∧ σ.2.1 ≤ τ.2.1) : σ.1 ≤ σ'.1 ∧ σ.2.1 ≤ σ'.2.1 := by
  obtain ⟨-, -, -, rfl⟩ := mv_nx_inv h
  exact hs
set_option maxHeartbeats 8000000 in
theorem mv_stp_mono {r : mv_I} {ls ls' : mv_V} {st st' : List Value} {σ σ' : mv_S} {pc' : Nat} (h : mv_stp L xs r ls st σ = some (.inl (pc', ls', st', σ'))) : σ.1 ≤ σ'.1 ∧ σ.2.1 ≤ σ'.2.1 := by
  have R1 : σ.1 ≤ σ.1 ∧ σ.2.1 ≤ σ.2.1 := ⟨Nat.le_refl _, Nat.le_refl _⟩
  have R2 : σ.1 ≤ σ.1 ∧ σ.2.1 ≤ σ.2.1 + 1 := ⟨Nat.le_refl _, Nat.le_succ _⟩
  obtain ⟨i, nx, a, b, w⟩ := r
  simp only [mv_stp] at h
  split at h
  all_goals first
    | exact mv_nx_m h R1
    | skip
  all_goals (try unfold mv_ld at h) <;> (try unfold mv_so at h) <;> (try unfold mv_get at h) <;> (try unfold mv_put at h) <;> (try unfold mv_aa at h) <;> (try unfold mv_al at h) <;> (try unfold mv_as at h) <;> (try unfold mv_aas at h) <;> (try unfold mv_len at h) <;> (try unfold mv_new at h) <;> (try unfold mv_nwa at h) <;> (try unfold mv_sw2 at h) <;> (try unfold mv_call at h) <;> (try unfold mv_r1 at h) <;> (try unfold mv_rt at h)
  all_goals repeat' split at h
  all_goals first
    | exact mv_nx_m h R1
    | exact mv_nx_m h R2
    | cases h
end MONO
end
section
/-! ===== BEGIN a constructor that throws (launches without stack traces) ===== -/
section VXIA
variable {p : Program} {l : Launch} {e : Env} {R : Room} {s : State} {m : MethodId} {args : Array Value} {below : List Frame} {meth : Method} {c : Code} {T : State} {locs : List Loc} {cells slots : Nat}
theorem vx_callI (X : Stand p l e R s m args below meth c T locs cells slots) (hexec : p.tables.exec = Jvm.exec) {own : String} {index : Nat} {y : MethodName} {bytes : ByteArray} {maxL : Nat}
    (hown : s.vm.findClass own = some m.cls) (hy1 : y.name = "<init>") (hlink : (Cond.methodLink own index y).before args s = true) (hinst : (Cond.instanceMethod y).before args s = true)
    (hcode : (Cond.code y bytes maxL none).before args s = true) (hy : y.cls ≠ "java/lang/invoke/MethodHandle" ∧ y.cls ≠ "java/lang/invoke/VarHandle")
    {W9 : Nat} {Pre : Pt → Array Value → Prop} {Post : Pt → Array Value → Option Value → Pt → Prop} {PostX : Pt → Array Value → Addr → Pt → Prop} (hK : vx_Back l R p e below s args y 3 W9 Pre Post PostX)
    {g : JFrame} (hg : g.method = m) (hsize : g.locals.size = c.maxLocals) {a : Addr} {argsL rest : List Value} (hlen : ∀ sig, parseMethodDescriptor y.desc = some sig → argsL.length = sig.parameters.length)
    (hstack : g.stack = argsL.reverse ++ .ref a :: rest) (hW : 2 * g.monitorRoom + (rest.map fun v => v.category).sum ≤ W9) (hdg : decode c.code g.pc = .ok (.invokespecial index, 3))
    (hpre : ∀ vm₁, s.WarmedH vm₁ → Pre ⟨T.setVm vm₁, locs, cells, slots⟩ (Value.ref a :: argsL).toArray) :
    (∃ (v : Option Value) (vm₁ : Vm) (B : Pt), s.WarmedH vm₁ ∧ Stand p l e R s m args below meth c B.U B.locs B.cells B.slots ∧ Post ⟨T.setVm vm₁, locs, cells, slots⟩ (Value.ref a :: argsL).toArray v B ∧
      ∀ target, Steps p.tables e below (B.U.setTop { g with pc := g.pc + 3, stack := v.toList ++ rest }) target → Steps p.tables e below (T.setTop g) target) ∨
    (∃ (q : Addr) (vm₁ : Vm) (B : Pt), s.WarmedH vm₁ ∧ Stand p l e R s m args below meth c B.U B.locs B.cells B.slots ∧ PostX ⟨T.setVm vm₁, locs, cells, slots⟩ (Value.ref a :: argsL).toArray q B ∧
      Steps p.tables e below (T.setTop g) ((B.U.setTop { g with stack := rest }).pushFrame (.throwing q))) := by
  subst hg
  have hpl : e.platform.magicAccessors = ({} : Platform).magicAccessors := by rw [X.admits.platform]
  obtain ⟨mk, methM, cM, kP, vm₁, hnamed, hmethM, hcodeM, -, hlocalsM, -, hkP, -, hW₁, hstep₁⟩ := Steps.initColdArgs (e := e) X.here hexec X.warmed hpl hown hy1 hy hlink hinst hcode (f := g) rfl hlen hstack hdg
  have X₁ := X.noted hW₁
  rcases hK g.method meth c ⟨T.setVm vm₁, locs, cells, slots⟩ { g with stack := rest } (.invokespecial index) mk (Value.ref a :: argsL).toArray X₁ rfl hsize hdg hW (X₁.named hnamed) (hpre vm₁ X₁.warmed) with ⟨v, B, X', hpost, hsteps⟩ | ⟨q, B, X', hpost, hsteps⟩
  · exact Or.inl ⟨v, vm₁, B, X₁.warmed, X', hpost, fun target h => hstep₁ _ fun acts => by rw [doInvoke_state]; exact hsteps.trans h⟩
  · exact Or.inr ⟨q, vm₁, B, X₁.warmed, X', hpost, hstep₁ _ fun acts => by rw [doInvoke_state]; exact hsteps⟩
end VXIA
section VXIB
variable {p : Program} {l : Launch} {e : Env} {R : Room} {s : State} {m : MethodId} {args : Array Value} {below : List Frame} {meth : Method} {c : Code} {H : Heap} {locs : List Loc} {cells slots : Nat}
variable {y : MethodName} {bytes cc : ByteArray} {maxL nL mc ms n index : Nat} {ret : Option FieldType} {ws : List Cond} {rm : Room} {Pc : Array Value → State → Prop} {Qc : Array Value → State → Outcome → State → Prop} {XC : String → State → State → Prop} {free : Addr → Prop} {Ts : List Cond} {own C : String} {b : Addr} {As rest : List Value} {g : JFrame}
theorem vx_runI (S : CallFix p m c cc nL s args Ts own) (hM : vx_Met l y ws rm Pc Qc XC mc ms free) (cw : CallB R s args own index y bytes maxL none ws rm mc ms n ∧ y.name = "<init>" ∧ (Cond.instanceMethod y).before args s = true) (hp : PreS s H Pc (.ref b :: As))
    (hg : g.method = m) (hn : As.length = n) (hsize : g.locals.size = nL) (hstack : g.stack = As.reverse ++ .ref b :: rest) (hW : 2 * g.monitorRoom + (rest.map fun v => v.category).sum ≤ 8) (hdg : decode cc g.pc = .ok (.invokespecial index, 3)) (hf : cells + mc ≤ R.cells ∧ slots + ms ≤ R.slots) :
    vx_Run p l e R s m args below meth c H locs cells slots mc ms g rest (Qc (Value.ref b :: As).toArray) XC free := by
  have hK : vx_Back l R p e below s args y 3 8 (PreOf R mc ms Pc) (PostOf Qc mc ms free) (vx_Post XC mc ms free) := vx_callBack cw.1 hM hp.1
  obtain ⟨⟨-, -, -, -, -, -, hcode, -, hy, hlen, hl⟩, hy1, hin⟩ := cw
  obtain ⟨hx, hb, hml, ho, -⟩ := S
  have hPc := hp.2
  intro T hT X
  rcases vx_callI X hx (bytes := bytes) (maxL := maxL) ho hy1 hl hin hcode hy hK hg (hsize.trans hml.symm) (a := b) (argsL := As) (rest := rest) (fun sig h => hn.trans (hlen sig h)) hstack hW (by rw [hb]; exact hdg)
    (fun vm₁ hW₁ => ⟨hf.1, hf.2, hPc (T.setVm vm₁) hT hW₁⟩) with ⟨v, vm₁, ⟨U', l2, c2, s2⟩, hW₁, X', ⟨g', mk, t, L, e1, e2, hq, h1, hL, h2, h3⟩, st⟩ | ⟨q, vm₁, ⟨U', l2, c2, s2⟩, hW₁, X', ⟨g', mk, t, L, E, ce, e1, e2, hq, hce, hcv, hcl, h1, hL, h2, h3⟩, st⟩
  · dsimp only [Pt.U, Pt.locs, Pt.cells, Pt.slots] at X' e1 e2 h1 h2 h3 st
    subst h1; subst h2; subst h3
    exact Or.inl ⟨v, (T.setVm vm₁).calling g' mk (Value.ref b :: As).toArray, t, U', L, hT, X', hL, e1, e2, hq, st⟩
  · dsimp only [Pt.U, Pt.locs, Pt.cells, Pt.slots] at X' e1 e2 h1 h2 h3 st hcl
    subst h1; subst h2; subst h3
    exact Or.inr ⟨q, (T.setVm vm₁).calling g' mk (Value.ref b :: As).toArray, t, U', L, E, ce, hT, X', hL, e1, e2, hq, hce, hcv, vx_cls hW₁ hcl, st⟩
end VXIB
/-! ===== END ===== -/
/-! ===== BEGIN a private constructor of a nest mate that throws ===== -/
section VXIC
variable {p : Program} {l : Launch} {e : Env} {R : Room} {s : State} {m : MethodId} {args : Array Value} {below : List Frame} {meth : Method} {c : Code} {T : State} {locs : List Loc} {cells slots : Nat}
theorem vx_callIN (X : Stand p l e R s m args below meth c T locs cells slots) (hexec : p.tables.exec = Jvm.exec) {own : String} {index : Nat} {host : String} {y : MethodName} {bytes : ByteArray} {maxL : Nat}
    (hown : s.vm.findClass own = some m.cls) (hy1 : y.name = "<init>") (hlink : (Cond.methodLinkNest own index y host).before args s = true) (hinst : (Cond.instanceMethod y).before args s = true)
    (hcode : (Cond.code y bytes maxL none).before args s = true) (hy : y.cls ≠ "java/lang/invoke/MethodHandle" ∧ y.cls ≠ "java/lang/invoke/VarHandle")
    {W9 : Nat} {Pre : Pt → Array Value → Prop} {Post : Pt → Array Value → Option Value → Pt → Prop} {PostX : Pt → Array Value → Addr → Pt → Prop} (hK : vx_Back l R p e below s args y 3 W9 Pre Post PostX)
    {g : JFrame} (hg : g.method = m) (hsize : g.locals.size = c.maxLocals) {a : Addr} {argsL rest : List Value} (hlen : ∀ sig, parseMethodDescriptor y.desc = some sig → argsL.length = sig.parameters.length)
    (hstack : g.stack = argsL.reverse ++ .ref a :: rest) (hW : 2 * g.monitorRoom + (rest.map fun v => v.category).sum ≤ W9) (hdg : decode c.code g.pc = .ok (.invokespecial index, 3))
    (hpre : ∀ vm₁, s.WarmedH vm₁ → Pre ⟨T.setVm vm₁, locs, cells, slots⟩ (Value.ref a :: argsL).toArray) :
    (∃ (v : Option Value) (vm₁ : Vm) (B : Pt), s.WarmedH vm₁ ∧ Stand p l e R s m args below meth c B.U B.locs B.cells B.slots ∧ Post ⟨T.setVm vm₁, locs, cells, slots⟩ (Value.ref a :: argsL).toArray v B ∧
      ∀ target, Steps p.tables e below (B.U.setTop { g with pc := g.pc + 3, stack := v.toList ++ rest }) target → Steps p.tables e below (T.setTop g) target) ∨
    (∃ (q : Addr) (vm₁ : Vm) (B : Pt), s.WarmedH vm₁ ∧ Stand p l e R s m args below meth c B.U B.locs B.cells B.slots ∧ PostX ⟨T.setVm vm₁, locs, cells, slots⟩ (Value.ref a :: argsL).toArray q B ∧
      Steps p.tables e below (T.setTop g) ((B.U.setTop { g with stack := rest }).pushFrame (.throwing q))) := by
  subst hg
  have hpl : e.platform.magicAccessors = ({} : Platform).magicAccessors := by rw [X.admits.platform]
  obtain ⟨mk, methM, cM, kP, vm₁, hnamed, hmethM, hcodeM, -, hlocalsM, -, hkP, -, hW₁, hstep₁⟩ := Steps.initColdArgsNest (e := e) X.here hexec X.warmed hpl hown hy1 hy hlink hinst hcode (f := g) rfl hlen hstack hdg
  have X₁ := X.noted hW₁
  rcases hK g.method meth c ⟨T.setVm vm₁, locs, cells, slots⟩ { g with stack := rest } (.invokespecial index) mk (Value.ref a :: argsL).toArray X₁ rfl hsize hdg hW (X₁.named hnamed) (hpre vm₁ X₁.warmed) with ⟨v, B, X', hpost, hsteps⟩ | ⟨q, B, X', hpost, hsteps⟩
  · exact Or.inl ⟨v, vm₁, B, X₁.warmed, X', hpost, fun target h => hstep₁ _ fun acts => by rw [doInvoke_state]; exact hsteps.trans h⟩
  · exact Or.inr ⟨q, vm₁, B, X₁.warmed, X', hpost, hstep₁ _ fun acts => by rw [doInvoke_state]; exact hsteps⟩
end VXIC
section VXID
variable {p : Program} {l : Launch} {e : Env} {R : Room} {s : State} {m : MethodId} {args : Array Value} {below : List Frame} {meth : Method} {c : Code} {H : Heap} {locs : List Loc} {cells slots : Nat}
theorem vx_runIN {y : MethodName} {bytes cc : ByteArray} {maxL nL mc ms n index : Nat} {ws : List Cond} {rm : Room} {Pc : Array Value → State → Prop} {Qc : Array Value → State → Outcome → State → Prop} {XC : String → State → State → Prop} {free : Addr → Prop} {Ts : List Cond} {own host : String} {b : Addr} {As rest : List Value} {g : JFrame}
    (S : CallFix p m c cc nL s args Ts own) (hM : vx_Met l y ws rm Pc Qc XC mc ms free) (cw : va_CN R s args own index y host bytes maxL none ws rm mc ms n ∧ y.name = "<init>" ∧ (Cond.instanceMethod y).before args s = true) (hp : PreS s H Pc (.ref b :: As))
    (hg : g.method = m) (hn : As.length = n) (hsize : g.locals.size = nL) (hstack : g.stack = As.reverse ++ .ref b :: rest) (hW : 2 * g.monitorRoom + (rest.map fun v => v.category).sum ≤ 8) (hdg : decode cc g.pc = .ok (.invokespecial index, 3)) (hf : cells + mc ≤ R.cells ∧ slots + ms ≤ R.slots) :
    vx_Run p l e R s m args below meth c H locs cells slots mc ms g rest (Qc (Value.ref b :: As).toArray) XC free := by
  obtain ⟨⟨⟨hrc, hrs, hfr, hlo, hws, hcw⟩, hcode, hini, hy, hlen, hl⟩, hx1, hx2⟩ := cw
  have hK : vx_Back l R p e below s args y 3 8 (PreOf R mc ms Pc) (PostOf Qc mc ms free) (vx_Post XC mc ms free) := vx_back (bytes := bytes) (maxL := maxL) (ret := none) hM hp.1 hrc hrs hfr hlo hws hcw (fun a' U hW => word_at hW (Or.inl (by first | rfl | simp [Cond.onTables, Cond.keeps, Cond.steady])) hini)
  obtain ⟨hx, hb, hml, ho, -⟩ := S
  have hPc := hp.2
  intro T hT X
  rcases vx_callIN X hx (bytes := bytes) (maxL := maxL) ho hx1 hl hx2 hcode hy hK hg (hsize.trans hml.symm) (a := b) (argsL := As) (rest := rest) (fun sig h => hn.trans (hlen sig h)) hstack hW (by rw [hb]; exact hdg)
    (fun vm₁ hW₁ => ⟨hf.1, hf.2, hPc (T.setVm vm₁) hT hW₁⟩) with ⟨v, vm₁, ⟨U', l2, c2, s2⟩, hW₁, X', ⟨g', mk, t, L, e1, e2, hq, h1, hL, h2, h3⟩, st⟩ | ⟨q, vm₁, ⟨U', l2, c2, s2⟩, hW₁, X', ⟨g', mk, t, L, E, ce, e1, e2, hq, hce, hcv, hcl, h1, hL, h2, h3⟩, st⟩
  · dsimp only [Pt.U, Pt.locs, Pt.cells, Pt.slots] at X' e1 e2 h1 h2 h3 st
    subst h1; subst h2; subst h3
    exact Or.inl ⟨v, (T.setVm vm₁).calling g' mk (Value.ref b :: As).toArray, t, U', L, hT, X', hL, e1, e2, hq, st⟩
  · dsimp only [Pt.U, Pt.locs, Pt.cells, Pt.slots] at X' e1 e2 h1 h2 h3 st hcl
    subst h1; subst h2; subst h3
    exact Or.inr ⟨q, (T.setVm vm₁).calling g' mk (Value.ref b :: As).toArray, t, U', L, E, ce, hT, X', hL, e1, e2, hq, hce, hcv, vx_cls hW₁ hcl, st⟩
end VXID
/-! ===== END ===== -/
/-! ===== BEGIN a private method of a nest mate that may throw (follows va_callVN, va_callSN, va_runVN, va_runSN) ===== -/
section
variable {p : Program} {l : Launch} {e : Env} {R : Room} {s : State} {m : MethodId} {args : Array Value} {below : List Frame} {meth : Method} {c : Code} {H : Heap} {locs : List Loc} {cells slots : Nat}
variable {T : State}
theorem vx_callVN (X : Stand p l e R s m args below meth c T locs cells slots) (hexec : p.tables.exec = Jvm.exec) {own C : String} {index : Nat} {host : String} {y : MethodName} {bytes : ByteArray} {maxL : Nat} {ret : Option FieldType}
    (hown : s.vm.findClass own = some m.cls) (hlink : (Cond.methodLinkNest own index y host).before args s = true) (hinst : (Cond.instanceMethod y).before args s = true) (hsel : (Cond.selects C y y).before args s = true)
    (hcode : (Cond.code y bytes maxL ret).before args s = true) (hy : y.cls ≠ "java/lang/invoke/MethodHandle" ∧ y.cls ≠ "java/lang/invoke/VarHandle")
    {W : Nat} {Pre : Pt → Array Value → Prop} {Post : Pt → Array Value → Option Value → Pt → Prop} {PostX : Pt → Array Value → Addr → Pt → Prop} (hK : vx_Back l R p e below s args y 3 W Pre Post PostX)
    {b : Addr} {cellB : Cell} (hcell : T.heap[b]? = some cellB) (hobj : cellB.vm.isStatics = false) (hcls : s.vm.findClass C = some cellB.cls)
    {g : JFrame} (hg : g.method = m) (hsize : g.locals.size = c.maxLocals) {argsL rest : List Value} (hlen : ∀ sig, parseMethodDescriptor y.desc = some sig → argsL.length = sig.parameters.length)
    (hstack : g.stack = argsL.reverse ++ .ref b :: rest) (hW : 2 * g.monitorRoom + (rest.map fun v => v.category).sum ≤ W) (hdg : decode c.code g.pc = .ok (.invokevirtual index, 3))
    (hpre : ∀ vm₁, s.WarmedH vm₁ → Pre ⟨T.setVm vm₁, locs, cells, slots⟩ (Value.ref b :: argsL).toArray) :
    (∃ (v : Option Value) (vm₁ : Vm) (B : Pt), s.WarmedH vm₁ ∧ Stand p l e R s m args below meth c B.U B.locs B.cells B.slots ∧ Post ⟨T.setVm vm₁, locs, cells, slots⟩ (Value.ref b :: argsL).toArray v B ∧
      ∀ target, Steps p.tables e below (B.U.setTop { g with pc := g.pc + 3, stack := v.toList ++ rest }) target → Steps p.tables e below (T.setTop g) target) ∨
    (∃ (q : Addr) (vm₁ : Vm) (B : Pt), s.WarmedH vm₁ ∧ Stand p l e R s m args below meth c B.U B.locs B.cells B.slots ∧ PostX ⟨T.setVm vm₁, locs, cells, slots⟩ (Value.ref b :: argsL).toArray q B ∧
      Steps p.tables e below (T.setTop g) ((B.U.setTop { g with stack := rest }).pushFrame (.throwing q))) := by
  obtain ⟨mk, methM, hnamed, hmethM, hstM, habM⟩ := Cond.instanceMethod_spec hinst
  obtain ⟨methM', cM, hmethM', -, -, -, -, -, -, hsigM⟩ := Cond.code_spec hnamed hcode
  cases hmethM.symm.trans hmethM'
  obtain ⟨c2, r2, m2, q1, q2, q3, q4, kP, hkP, hkPi⟩ := Cond.selects_spec hsel
  cases hcls.symm.trans q1
  cases (State.methodFound?_of_named hnamed hy).symm.trans q2
  cases hnamed.symm.trans q3
  have hselP : selectMethod e.platform s.vm cellB.cls mk = .method mk := by rw [Launch.admits_selectMethod X.admits]; exact q4
  obtain ⟨vm₁, X₁, hstep₁⟩ := X.invokevirtualNest hexec hown hlink hnamed hmethM hstM hkP hkPi hy (a := b) (cell := cellB) hcell
    (fun z h => by rw [h] at hobj; cases hobj) hselP hmethM habM hkP hkPi (g := g) hg (argsL := argsL) (rest := rest) (hlen _ hsigM) hstack hdg
  rcases hK m meth c ⟨T.setVm vm₁, locs, cells, slots⟩ { g with stack := rest } (.invokevirtual index) mk (Value.ref b :: argsL).toArray X₁ hg hsize hdg hW (X₁.named hnamed) (hpre vm₁ X₁.warmed) with ⟨v, B, X', hpost, hsteps⟩ | ⟨q, B, X', hpost, hsteps⟩
  · exact Or.inl ⟨v, vm₁, B, X₁.warmed, X', hpost, fun target h => hstep₁ _ fun acts => by rw [doInvoke_state]; exact hsteps.trans h⟩
  · exact Or.inr ⟨q, vm₁, B, X₁.warmed, X', hpost, hstep₁ _ fun acts => by rw [doInvoke_state]; exact hsteps⟩
theorem vx_callSN (X : Stand p l e R s m args below meth c T locs cells slots) (hexec : p.tables.exec = Jvm.exec) {own : String} {index : Nat} {host : String} {y : MethodName} {bytes : ByteArray} {maxL : Nat} {ret : Option FieldType}
    (hown : s.vm.findClass own = some m.cls) (hlink : (Cond.methodLinkNest own index y host).before args s = true) (hstat : (Cond.static y).before args s = true) (hinit : (Cond.initialized y.cls).before args s = true)
    (hcode : (Cond.code y bytes maxL ret).before args s = true) (hy : y.cls ≠ "java/lang/invoke/MethodHandle" ∧ y.cls ≠ "java/lang/invoke/VarHandle")
    {W : Nat} {Pre : Pt → Array Value → Prop} {Post : Pt → Array Value → Option Value → Pt → Prop} {PostX : Pt → Array Value → Addr → Pt → Prop} (hK : vx_Back l R p e below s args y 3 W Pre Post PostX)
    {g : JFrame} (hg : g.method = m) (hsize : g.locals.size = c.maxLocals) {argsL rest : List Value} (hlen : ∀ sig, parseMethodDescriptor y.desc = some sig → argsL.length = sig.parameters.length)
    (hstack : g.stack = argsL.reverse ++ rest) (hW : 2 * g.monitorRoom + (rest.map fun v => v.category).sum ≤ W) (hdg : decode c.code g.pc = .ok (.invokestatic index, 3))
    (hpre : ∀ vm₁, s.WarmedH vm₁ → Pre ⟨T.setVm vm₁, locs, cells, slots⟩ argsL.toArray) :
    (∃ (v : Option Value) (vm₁ : Vm) (B : Pt), s.WarmedH vm₁ ∧ Stand p l e R s m args below meth c B.U B.locs B.cells B.slots ∧ Post ⟨T.setVm vm₁, locs, cells, slots⟩ argsL.toArray v B ∧
      ∀ target, Steps p.tables e below (B.U.setTop { g with pc := g.pc + 3, stack := v.toList ++ rest }) target → Steps p.tables e below (T.setTop g) target) ∨
    (∃ (q : Addr) (vm₁ : Vm) (B : Pt), s.WarmedH vm₁ ∧ Stand p l e R s m args below meth c B.U B.locs B.cells B.slots ∧ PostX ⟨T.setVm vm₁, locs, cells, slots⟩ argsL.toArray q B ∧
      Steps p.tables e below (T.setTop g) ((B.U.setTop { g with stack := rest }).pushFrame (.throwing q))) := by
  obtain ⟨mk, hnamed⟩ := Cond.code_named hcode
  obtain ⟨methM, cM, hmethM, -, -, -, -, -, -, hsigM⟩ := Cond.code_spec hnamed hcode
  have hstatic : methM.isStatic = true := Cond.static_spec hnamed hmethM hstat
  obtain ⟨kP, hkP, -⟩ := className_of_methodNamed hnamed
  have hinitP : kP.init = .initialized := Cond.initialized_spec (findClass_of_methodNamed hnamed) hkP hinit
  obtain ⟨vm₁, X₁, hstep₁⟩ := X.invokestaticNest hexec hown hlink hnamed hmethM hstatic hkP hinitP hy (g := g) hg (argsL := argsL) (rest := rest) (hlen _ hsigM) hstack hdg
  rcases hK m meth c ⟨T.setVm vm₁, locs, cells, slots⟩ { g with stack := rest } (.invokestatic index) mk argsL.toArray X₁ hg hsize hdg hW (X₁.named hnamed) (hpre vm₁ X₁.warmed) with ⟨v, B, X', hpost, hsteps⟩ | ⟨q, B, X', hpost, hsteps⟩
  · exact Or.inl ⟨v, vm₁, B, X₁.warmed, X', hpost, fun target h => hstep₁ _ fun acts => by rw [doInvoke_state]; exact hsteps.trans h⟩
  · exact Or.inr ⟨q, vm₁, B, X₁.warmed, X', hpost, hstep₁ _ fun acts => by rw [doInvoke_state]; exact hsteps⟩
theorem vx_runVN {y : MethodName} {bytes cc : ByteArray} {maxL nL mc ms n index : Nat} {ret : Option FieldType} {ws : List Cond} {rm : Room} {Pc : Array Value → State → Prop} {Qc : Array Value → State → Outcome → State → Prop} {XC : String → State → State → Prop} {free : Addr → Prop} {Ts : List Cond} {own C host : String} {b : Addr} {As rest : List Value} {g : JFrame}
    (S : CallFix p m c cc nL s args Ts own) (hM : vx_Met l y ws rm Pc Qc XC mc ms free) (cw : va_CN R s args own index y host bytes maxL ret ws rm mc ms n ∧ (Cond.instanceMethod y).before args s = true ∧ (Cond.selects C y y).before args s = true) (hp : PreV s H C b Pc As)
    (hg : g.method = m) (hn : As.length = n) (hsize : g.locals.size = nL) (hstack : g.stack = As.reverse ++ .ref b :: rest) (hW : 2 * g.monitorRoom + (rest.map fun v => v.category).sum ≤ 8) (hdg : decode cc g.pc = .ok (.invokevirtual index, 3)) (hf : cells + mc ≤ R.cells ∧ slots + ms ≤ R.slots) :
    vx_Run p l e R s m args below meth c H locs cells slots mc ms g rest (Qc (Value.ref b :: As).toArray) XC free := by
  obtain ⟨⟨⟨hrc, hrs, hfr, hlo, hws, hcw⟩, hcode, hini, hy, hlen, hl⟩, hx1, hx2⟩ := cw
  have hK : vx_Back l R p e below s args y 3 8 (PreOf R mc ms Pc) (PostOf Qc mc ms free) (vx_Post XC mc ms free) := vx_back (bytes := bytes) (maxL := maxL) (ret := ret) hM hp.1 hrc hrs hfr hlo hws hcw (fun a' U hW => word_at hW (Or.inl (by first | rfl | simp [Cond.onTables, Cond.keeps, Cond.steady])) hini)
  obtain ⟨hx, hb, hml, ho, -⟩ := S
  obtain ⟨-, ⟨cellB, hcB, hoB, hclB⟩, hPc⟩ := hp
  intro T hT X
  rcases vx_callVN X hx (C := C) (bytes := bytes) (maxL := maxL) (ret := ret) ho hl hx1 hx2 hcode hy hK (by rw [hT]; exact hcB) hoB hclB hg (hsize.trans hml.symm) (argsL := As) (rest := rest) (fun sig h => hn.trans (hlen sig h)) hstack hW (by rw [hb]; exact hdg)
    (fun vm₁ hW₁ => ⟨hf.1, hf.2, hPc (T.setVm vm₁) hT hW₁⟩) with ⟨v, vm₁, ⟨U', l2, c2, s2⟩, hW₁, X', ⟨g', mk, t, L, e1, e2, hq, h1, hL, h2, h3⟩, st⟩ | ⟨q, vm₁, ⟨U', l2, c2, s2⟩, hW₁, X', ⟨g', mk, t, L, E, ce, e1, e2, hq, hce, hcv, hcl, h1, hL, h2, h3⟩, st⟩
  · dsimp only [Pt.U, Pt.locs, Pt.cells, Pt.slots] at X' e1 e2 h1 h2 h3 st
    subst h1; subst h2; subst h3
    exact Or.inl ⟨v, (T.setVm vm₁).calling g' mk (Value.ref b :: As).toArray, t, U', L, hT, X', hL, e1, e2, hq, st⟩
  · dsimp only [Pt.U, Pt.locs, Pt.cells, Pt.slots] at X' e1 e2 h1 h2 h3 st hcl
    subst h1; subst h2; subst h3
    exact Or.inr ⟨q, (T.setVm vm₁).calling g' mk (Value.ref b :: As).toArray, t, U', L, E, ce, hT, X', hL, e1, e2, hq, hce, hcv, vx_cls hW₁ hcl, st⟩
theorem vx_runSN {y : MethodName} {bytes cc : ByteArray} {maxL nL mc ms n index : Nat} {ret : Option FieldType} {ws : List Cond} {rm : Room} {Pc : Array Value → State → Prop} {Qc : Array Value → State → Outcome → State → Prop} {XC : String → State → State → Prop} {free : Addr → Prop} {Ts : List Cond} {own host : String} {As rest : List Value} {g : JFrame}
    (S : CallFix p m c cc nL s args Ts own) (hM : vx_Met l y ws rm Pc Qc XC mc ms free) (cw : va_CN R s args own index y host bytes maxL ret ws rm mc ms n ∧ (Cond.static y).before args s = true ∧ True) (hp : PreS s H Pc As)
    (hg : g.method = m) (hn : As.length = n) (hsize : g.locals.size = nL) (hstack : g.stack = As.reverse ++ rest) (hW : 2 * g.monitorRoom + (rest.map fun v => v.category).sum ≤ 8) (hdg : decode cc g.pc = .ok (.invokestatic index, 3)) (hf : cells + mc ≤ R.cells ∧ slots + ms ≤ R.slots) :
    vx_Run p l e R s m args below meth c H locs cells slots mc ms g rest (Qc As.toArray) XC free := by
  obtain ⟨⟨⟨hrc, hrs, hfr, hlo, hws, hcw⟩, hcode, hini, hy, hlen, hl⟩, hx1, hx2⟩ := cw
  have hK : vx_Back l R p e below s args y 3 8 (PreOf R mc ms Pc) (PostOf Qc mc ms free) (vx_Post XC mc ms free) := vx_back (bytes := bytes) (maxL := maxL) (ret := ret) hM hp.1 hrc hrs hfr hlo hws hcw (fun a' U hW => word_at hW (Or.inl (by first | rfl | simp [Cond.onTables, Cond.keeps, Cond.steady])) hini)
  obtain ⟨hx, hb, hml, ho, -⟩ := S
  have hPc := hp.2
  intro T hT X
  rcases vx_callSN X hx (bytes := bytes) (maxL := maxL) (ret := ret) ho hl hx1 hini hcode hy hK hg (hsize.trans hml.symm) (argsL := As) (rest := rest) (fun sig h => hn.trans (hlen sig h)) hstack hW (by rw [hb]; exact hdg)
    (fun vm₁ hW₁ => ⟨hf.1, hf.2, hPc (T.setVm vm₁) hT hW₁⟩) with ⟨v, vm₁, ⟨U', l2, c2, s2⟩, hW₁, X', ⟨g', mk, t, L, e1, e2, hq, h1, hL, h2, h3⟩, st⟩ | ⟨q, vm₁, ⟨U', l2, c2, s2⟩, hW₁, X', ⟨g', mk, t, L, E, ce, e1, e2, hq, hce, hcv, hcl, h1, hL, h2, h3⟩, st⟩
  · dsimp only [Pt.U, Pt.locs, Pt.cells, Pt.slots] at X' e1 e2 h1 h2 h3 st
    subst h1; subst h2; subst h3
    exact Or.inl ⟨v, (T.setVm vm₁).calling g' mk As.toArray, t, U', L, hT, X', hL, e1, e2, hq, st⟩
  · dsimp only [Pt.U, Pt.locs, Pt.cells, Pt.slots] at X' e1 e2 h1 h2 h3 st hcl
    subst h1; subst h2; subst h3
    exact Or.inr ⟨q, (T.setVm vm₁).calling g' mk As.toArray, t, U', L, E, ce, hT, X', hL, e1, e2, hq, hce, hcv, vx_cls hW₁ hcl, st⟩
end
/-! ===== END ===== -/
end
section
/-! WHAT STANDS STILL, SEEN FROM A CALLEE; CALLS -/
theorem mv_En_to {z : Nat} {kad : Nat → Nat} {dC : Nat → ClassId} {dI : Nat → Nat → Nat} {cA : Nat → ClassId} {L : Nat} {xs : Nat → Int32} {s U : State} {H : Heap} {locs : List Loc}
    (h : mv_En z kad dC dI cA L xs s) (hW : s.WarmedH U.vm) (hS : va_S (fun q => z ≤ q) s.heap H locs) (hU : U.heap = H) : mv_En z kad dC dI cA L xs U := by
  subst hU
  have hvm := hW.alike
  obtain ⟨h1, h2, h3, h4, h5, h7, ⟨h8, h9, h10⟩, h11, h12, h13, h14, h16, h17, h18, h19⟩ := h
  refine ⟨va_K.moved hvm h1, Nat.le_trans h2 hS.1, fun a ha => (va_Z.moved hvm (h3 a ha)).kept hS.2.1, fun i hi => ⟨(va_O.moved hvm (h4 i hi).1).kept hS.2.1, (va_OF.moved hvm (h4 i hi).2).kept hS.2.1⟩, h5,
    (va_T.moved hvm h7).kept hS.2.1, ⟨h8, h9, (va_X.moved hvm h10).kept (hS.2.1 _ (Nat.lt_of_lt_of_le h9 h2) (Nat.not_le.mpr h9))⟩, (vk_S.moved hvm h11).kept hS.2.1, (vx_Zq.moved hvm h12).kept hS.2.1, (vx_Zq.moved hvm h13).kept hS.2.1, fun w hw hn => ?_, fun i j hi hj hij => va_Nc.moved hvm (h16 i j hi hj hij), fun o k tx hw => (h17 o k tx hw).imp fun a ha => vk_R.warm hW ha, (va_Z.moved hvm h18).kept hS.2.1, (va_Zq.moved hvm h19).kept hS.2.1⟩
  have h15 := h14 w hw hn
  unfold mv_nest at hn
  split at hn
  · exact va_Nw.warmF hW h15
  · exact va_Nw.warmM hW h15
  · exact va_Nw.warmC hW h15
  · exact va_Nw.warmD hW h15
  · next C => exact va_AO.moved (C := C) hvm h15
  · cases hn
section CALL
variable {z : Nat} {kad : Nat → Nat} {dC : Nat → ClassId} {dI : Nat → Nat → Nat} {cA : Nat → ClassId} {wx : va_W} {L : Nat} {xs : Nat → Int32}
variable {p : Program} {l : Launch} {e : Env} {R : Room} {s : State} {m : MethodId} {args : Array Value} {below : List Frame} {meth : Method} {c : Code} {Q : State → Prop} {c0 s0 M : Nat}
variable {pc pc' nx a b w : Nat} {ls ls' : mv_V} {st st' : List Value} {σ σ' : mv_S}
noncomputable def mv_hh (M : Nat) : List (Nat × Nat × Nat × Nat) := (mv_hl M mv_hs).map (fun q => (q.1, q.2.1, q.2.2.1, q.2.2.2.1))
noncomputable def mv_w1 (M : Nat) : Cond := if mv_nh M = true then .code (mv_mi M).2.1 (mv_mi M).1 (mv_mi M).2.2.1 (mv_mi M).2.2.2.1 else .codeWith (mv_mi M).2.1 (mv_mi M).1 (mv_mi M).2.2.1 (mv_mi M).2.2.2.1 (mv_hh M)
noncomputable def mv_ws (M : Nat) : List Cond := mv_w1 M :: mv_TS
def mv_rm (d mc ms : Nat) : Room := { frames := 20 + d, cells := mc, slots := ms, locals := 300 + 60 * d }
def mv_Pc (z : Nat) (kad : Nat → Nat) (dC : Nat → ClassId) (dI : Nat → Nat → Nat) (cA : Nat → ClassId) (wx : va_W) (L : Nat) (xs : Nat → Int32) (as : List Value) (σ : mv_S) : Array Value → State → Prop :=
  va_Pc (as.map (mv_cv (mv_ad z kad))) (fun U => mv_En z kad dC dI cA L xs U ∧ mv_Mo z kad dC dI cA wx σ U.heap)
def mv_Qc (z : Nat) (kad : Nat → Nat) (dC : Nat → ClassId) (dI : Nat → Nat → Nat) (cA : Nat → ClassId) (wx : va_W) (r : mv_R) : Array Value → State → Outcome → State → Prop := fun _ st o t =>
  ∃ v, r.1 = .inl v ∧ o = .returned (v.map (mv_cv (mv_ad z kad))) ∧ mv_Mo z kad dC dI cA wx r.2 t.heap ∧ va_F (fun q => z ≤ q) st t
def mv_XC (z : Nat) (kad : Nat → Nat) (dC : Nat → ClassId) (dI : Nat → Nat → Nat) (cA : Nat → ClassId) (wx : va_W) (r : mv_R) : String → State → State → Prop := fun E st t =>
  ∃ k, r.1 = .inr k ∧ mv_e6 k = true ∧ E = mv_ec k ∧ mv_Mo z kad dC dI cA wx r.2 t.heap ∧ va_F (fun q => z ≤ q) st t
/-- the contract of M at depth d, at these arguments, from σ -/
def mv_Ct (z : Nat) (kad : Nat → Nat) (dC : Nat → ClassId) (dI : Nat → Nat → Nat) (cA : Nat → ClassId) (wx : va_W) (L : Nat) (xs : Nat → Int32) (l : Launch) (d M : Nat) (as : List Value) (σ : mv_S) (r : mv_R) : Prop :=
  vx_Met l (mv_mi M).2.1 (mv_ws M) (mv_rm d (mv_cc r.2 - mv_cc σ) (mv_ss r.2 - mv_ss σ)) (mv_Pc z kad dC dI cA wx L xs as σ) (mv_Qc z kad dC dI cA wx r) (mv_XC z kad dC dI cA wx r) (mv_cc r.2 - mv_cc σ) (mv_ss r.2 - mv_ss σ) (fun q => z ≤ q)
theorem mv_blind {as : List Value} {σ : mv_S} : FrameBlind (mv_Pc z kad dC dI cA wx L xs as σ) := by
  intro a U g mk h
  obtain ⟨h1, h2, h3⟩ := h
  exact ⟨h1, mv_En_to h2 (by exact State.WarmedH.refl U) (va_S.rf (A := fun q => z ≤ q) (H0 := U.heap)) rfl, h3⟩
/-- a call that is run: the walk goes on behind it -/
theorem mv_after {r : mv_R} {H : Heap} {locs : List Loc} {cells slots : Nat} {lsA : Array Slot} {st0 rest : List Value} {aa : Array Value}
    (hr : vx_Run p l e R s m args below meth c H locs cells slots (mv_cc r.2 - mv_cc σ) (mv_ss r.2 - mv_ss σ) (F0 m pc lsA st0) rest (mv_Qc z kad dC dI cA wx r aa) (mv_XC z kad dC dI cA wx r) (fun q => z ≤ q))
    (hS : va_S (fun q => z ≤ q) s.heap H locs) (hl : lv_has lsA c.maxLocals (mv_lm (mv_ad z kad) ls)) (hc : cells + c0 = mv_cc σ) (hs : slots + s0 = mv_ss σ) (hm : mv_cc σ ≤ mv_cc r.2 ∧ mv_ss σ ≤ mv_ss r.2)
    (kv : ∀ v, r.1 = .inl v → ∀ (H1 : Heap) (locs1 : List Loc) (cells1 slots1 : Nat), mv_Mo z kad dC dI cA wx r.2 H1 → va_S (fun q => z ≤ q) s.heap H1 locs1 → cells1 + c0 = mv_cc r.2 → slots1 + s0 = mv_ss r.2 → W p l e R s m args below meth c H1 locs1 cells1 slots1 Q (F0 m (pc + 3) lsA ((v.map (mv_cv (mv_ad z kad))).toList ++ rest)))
    (kx : ∀ k, r.1 = .inr k → mv_e6 k = true → ∀ (H1 : Heap) (locs1 : List Loc) (cells1 slots1 : Nat) (q : Addr) (ce : Cell), mv_Mo z kad dC dI cA wx r.2 H1 → va_S (fun q => z ≤ q) s.heap H1 locs1 → cells1 + c0 = mv_cc r.2 → slots1 + s0 = mv_ss r.2 → H1[q]? = some ce → ce.vm = .none → s.vm.findClass (mv_ec k) = some ce.cls → vx_W p l e R s m args below meth c H1 locs1 cells1 slots1 Q (F0 m pc lsA rest) q) :
    W p l e R s m args below meth c H locs cells slots Q (F0 m pc lsA st0) := by
  intro T hT X
  rcases hr T hT X with ⟨v, st₀, t, T', L1, h0, X', hL, e1, e2, ⟨v', hv', ho, hMo, hF⟩, st⟩ | ⟨q, st₀, t, T', L1, E, ce, h0, X', hL, e1, e2, ⟨k, hk, hk6, rfl, hMo, hF⟩, hce, hcv, hcl, st⟩
  · have hv : v = v'.map (mv_cv (mv_ad z kad)) := by cases ho; rfl
    subst hv
    have hS1 : va_S (fun q => z ≤ q) s.heap T'.heap (locs ++ L1) := by
      refine ⟨Nat.le_trans hS.1 ?_, fun q h1 h2 => ?_, fun x hx => ?_⟩
      · rw [e1, ← h0]; exact hF.1
      · rw [e1, ← hS.2.1 q h1 h2, ← h0]
        exact hF.2 q (by rw [h0]; exact Nat.lt_of_lt_of_le h1 hS.1) h2
      · rcases List.mem_append.mp hx with h | h
        · exact hS.2.2 x h
        · exact hL x h
    obtain ⟨t2, a1, b1⟩ := kv v' hv' T'.heap (locs ++ L1) (cells + (mv_cc r.2 - mv_cc σ)) (slots + (mv_ss r.2 - mv_ss σ)) (by rw [e1]; exact hMo) hS1 (by omega) (by omega) T' rfl X'
    exact ⟨t2, st t2 a1, b1⟩
  · have hS1 : va_S (fun q => z ≤ q) s.heap T'.heap (locs ++ L1) := by
      refine ⟨Nat.le_trans hS.1 ?_, fun q h1 h2 => ?_, fun x hx => ?_⟩
      · rw [e1, ← h0]; exact hF.1
      · rw [e1, ← hS.2.1 q h1 h2, ← h0]
        exact hF.2 q (by rw [h0]; exact Nat.lt_of_lt_of_le h1 hS.1) h2
      · rcases List.mem_append.mp hx with h | h
        · exact hS.2.2 x h
        · exact hL x h
    obtain ⟨t2, a1, b1⟩ := kx k hk hk6 T'.heap (locs ++ L1) (cells + (mv_cc r.2 - mv_cc σ)) (slots + (mv_ss r.2 - mv_ss σ)) q ce (by rw [e1]; exact hMo) hS1 (by omega) (by omega) (by rw [e1]; exact hce) hcv hcl T' rfl X'
    exact ⟨t2, st.trans a1, b1⟩
end CALL
end
section
/-! A THROW OF AN EXCEPTION WHOSE CONSTRUCTOR LINKS THE ONE ABOVE AT ANY INDEX (follows the library's ctorThrowS and the kit's vx_throwS) -/
def mv_chainA (X : String) (ix : Nat) (rx : ByteArray) : List String → List Cond
  | [] => Bundle.passSAtoms X Bundle.tN ix rx
  | Y :: r => Bundle.passSAtoms X Y ix rx ++ Bundle.chainSAtoms Y r
theorem mv_chain {args : Array Value} {s : State} {pl : Platform} (hpl : pl.magicAccessors = ({} : Platform).magicAccessors) {top : MethodId} (htop : s.methodNamed? (Bundle.initS Bundle.tN) = some top)
    {ix : Nat} {rx : ByteArray} (x0 : decode rx 0 = .ok (.aload_n 0, 1)) (x1 : decode rx 1 = .ok (.aload_n 1, 1)) (x2 : decode rx 2 = .ok (.invokespecial ix, 3)) (x5 : decode rx 5 = .ok (.return_, 1)) :
    ∀ (names : List String) (X : String), Bundle.fit X = true → (∀ n ∈ names, Bundle.fit n = true) → (∀ c ∈ mv_chainA X ix rx names, c.before args s = true) →
      ∃ (P1 : PassC) (Ps : List PassC), Ps.length = names.length ∧ P1.LinksS pl s ∧ (∀ P, P ∈ Ps → P.LinksS pl s) ∧ s.methodNamed? (Bundle.initS X) = some P1.m ∧
        P1.sup = firstOf top (Ps.map (·.toPassT)) ∧ PassesOn top (Ps.map (·.toPassT)) := by
  intro names X hX hn h
  match names, hn, h with
  | [], _, h =>
    obtain ⟨P, hL, hm, hs⟩ := PassC.ofS_atoms (args := args) (s := s) hpl (X := X) (Y := Bundle.tN) (Bundle.fit_spec hX).1 (by decide) x0 x1 x2 x5 h
    exact ⟨P, [], rfl, hL, fun _ q => (by cases q), hm, Option.some.inj (hs.symm.trans htop), trivial⟩
  | Y :: r, hn, h =>
    have hY := hn Y List.mem_cons_self
    obtain ⟨P, hL, hm, hs⟩ := PassC.ofS_atoms (args := args) (s := s) hpl (X := X) (Y := Y) (Bundle.fit_spec hX).1 (Bundle.fit_spec hY).2 x0 x1 x2 x5 (fun c hc => h c (List.mem_append_left _ hc))
    obtain ⟨P2, Ps, h1, h2, h3, h4, h5, h6⟩ := Bundle.chainS (args := args) hpl htop r Y hY (fun n q => hn n (List.mem_cons_of_mem _ q)) (fun c hc => h c (List.mem_append_right _ hc))
    refine ⟨P, P2 :: Ps, by rw [List.length_cons, List.length_cons, h1], hL, fun Q q => ?_, hm, Option.some.inj (hs.symm.trans h4), h5, h6⟩
    rcases List.mem_cons.mp q with rfl | q
    · exact h2
    · exact h3 Q q
def mv_ownA (own : String) (ic : Nat) (X : String) (ix : Nat) (rx : ByteArray) (names : List String) : List Cond :=
  Bundle.throwableAtoms ++ Bundle.throwableSAtoms ++ mv_chainA X ix rx names ++
  [.methodLink own ic (Bundle.initS X), .instantiable X 6, .castable X X, .selects X Bundle.tFill0 Bundle.tFill0, .selects X Bundle.tFill Bundle.tFill,
   .lays X Bundle.tN "cause" "Ljava/lang/Throwable;", .lays X Bundle.tN "stackTrace" Bundle.steD, .lays X Bundle.tN "suppressedExceptions" Bundle.listD, .lays X Bundle.tN "detailMessage" "Ljava/lang/String;",
   .isRef (.static Bundle.tN "UNASSIGNED_STACK" Bundle.steD), .isRef (.static Bundle.tN "SUPPRESSED_SENTINEL" Bundle.listD),
   .fieldLink Bundle.tN 198 Bundle.tN "backtrace" "Ljava/lang/Object;", .lays Bundle.tN Bundle.tN "backtrace" "Ljava/lang/Object;", .lays X Bundle.tN "backtrace" "Ljava/lang/Object;"]
section CTORT
variable {p : Program} {l : Launch} {e : Env} {R : Room} {s : State} {m₀ : MethodId} {args : Array Value} {below : List Frame} {meth : Method} {c : Code} {W : State} {locs : List Loc} {cells slots : Nat}
set_option maxHeartbeats 4000000 in
theorem mv_ctorT (X : Stand p l e R s m₀ args below meth c W locs cells slots) (hexec : p.tables.exec = Jvm.exec) (htr : e.platform.stackTraces = false) {own cls : String} {names : List String} {ic : Nat} {ix : Nat} {rx : ByteArray} (x0 : decode rx 0 = .ok (.aload_n 0, 1)) (x1 : decode rx 1 = .ok (.aload_n 1, 1)) (x2 : decode rx 2 = .ok (.invokespecial ix, 3)) (x5 : decode rx 5 = .ok (.return_, 1))
    (hown : s.vm.findClass own = some m₀.cls) (hcls : Bundle.fit cls = true) (hnames : ∀ n ∈ names, Bundle.fit n = true)
    (h : ∀ a ∈ mv_ownA own ic cls ix rx names, a.before args s = true)
    (hlocs : ∀ x ∈ locs, ∀ cell, s.heap[x.base]? = some cell → cell.vm.isStatics = false)
    {a : Addr} {cX : ClassId} {kX : Class} (hfoundX : s.vm.findClass cls = some cX) (hkX : s.vm.classes[cX]? = some kX) (hcell : W.heap[a]? = some (freshCell cX kX)) (hnew : s.heap.size ≤ a)
    {msg : Value} (hmsg : msg.isRef = true)
    {g : JFrame} (hg : g.method = m₀) (hsize : g.locals.size = c.maxLocals) (hlocked : g.locked = none) (hentered : g.entered = []) {rest : List Value} (hstack : g.stack = msg :: .ref a :: .ref a :: rest)
    (hd6 : decode c.code g.pc = .ok (.invokespecial ic, 3)) (hd9 : decode c.code (g.pc + 3) = .ok (.athrow, 1)) (hout : ∀ x ∈ c.exceptionTable.toList, covers x (g.pc + 3) = false)
    (hRframes : names.length + 3 < R.frames) (hRlocals : 2 * g.monitorRoom + ((Value.ref a :: rest).map fun v => v.category).sum + (13 * (names.length + 1) + 42) ≤ R.locals) (hlocks : meth.locks = false := by first | assumption | exact BodyLoose.notSynchronized (by assumption) | exact Body.notSynchronized (by assumption)) :
    ∃ U : State, Steps p.tables e below (W.setTop g) U ∧ U.status = .running ∧ Ended U below (.threw a) ∧ s.WarmedH U.vm ∧ s.sameButNew ({ U with vm := s.vm } : State) locs cells slots ∧
      ∃ ce, U.heap[a]? = some ce ∧ (s.vm.findClass cls = some ce.cls ∧ ce.vm = .none) := by
  have howns : e.platform.frameOwnsMonitors = true := by rw [X.admits.platform]
  have hfin : e.platform.finalization = false := by rw [X.admits.platform]
  have hpl : e.platform.magicAccessors = ({} : Platform).magicAccessors := by rw [X.admits.platform]
  have a' : ∀ x, x ∈ mv_ownA own ic cls ix rx names → x.holds args s none s [] = true := fun x hx => h x hx
  obtain ⟨T, Z0, L, -, Y⟩ := ThrowableC.of_atoms (args := args) howns hfin hpl (fun x hx => h x (by simp [mv_ownA, hx]))
  obtain ⟨Z, M, LZ, LM, hnZ⟩ := Init0T.ofS_atoms (args := args) hpl L Y (fun x hx => h x (by simp [mv_ownA, hx]))
  obtain ⟨P1, Ps, hlen, L1, hL, hP1m, hlink1, hlink⟩ := mv_chain (args := args) hpl hnZ x0 x1 x2 x5 names cls hcls hnames (fun x hx => h x (by simp [mv_ownA, hx]))
  have hfound : s.vm.findClass cls = some P1.m.cls := findClass_of_methodNamed hP1m
  cases Option.some.inj (hfoundX.symm.trans hfound)
  obtain ⟨c1, kX', hc1, hk, hord, -, -, hn6⟩ := Cond.instantiable_spec (a' (.instantiable cls 6) (by simp [mv_ownA]))
  cases Option.some.inj (hc1.symm.trans hfound)
  cases Option.some.inj (hkX.symm.trans hk)
  have hsel0 : selectMethod e.platform s.vm P1.m.cls T.fill0 = .method T.fill0 := by
    obtain ⟨c2, r2, m2, q1, q2, q3, q4, -⟩ := Cond.selects_spec (a' (.selects cls Bundle.tFill0 Bundle.tFill0) (by simp [mv_ownA]))
    cases Option.some.inj (q1.symm.trans hfound)
    cases Option.some.inj (q2.symm.trans (State.methodFound?_of_named Y.fill0 (by decide)))
    cases Option.some.inj (q3.symm.trans Y.fill0)
    rw [Launch.admits_selectMethod X.admits]; exact q4
  have hselF : selectMethod e.platform s.vm P1.m.cls T.fill = .method T.fill := by
    obtain ⟨c2, r2, m2, q1, q2, q3, q4, -⟩ := Cond.selects_spec (a' (.selects cls Bundle.tFill Bundle.tFill) (by simp [mv_ownA]))
    cases Option.some.inj (q1.symm.trans hfound)
    cases Option.some.inj (q2.symm.trans (State.methodFound?_of_named Y.fill (by decide)))
    cases Option.some.inj (q3.symm.trans Y.fill)
    rw [Launch.admits_selectMethod X.admits]; exact q4
  obtain ⟨cellS0, hcS0, hiss⟩ := Y.statics
  obtain ⟨u0, hu0⟩ := Cond.staticRefV Y.unassigned L.unassignedStatic L.statics hcS0 hiss (a' (.isRef (.static Bundle.tN "UNASSIGNED_STACK" Bundle.steD)) (by simp [mv_ownA]))
  obtain ⟨sen, hsen⟩ := Cond.staticRefV Y.sentinel L.sentinelStatic L.statics hcS0 hiss (a' (.isRef (.static Bundle.tN "SUPPRESSED_SENTINEL" Bundle.listD)) (by simp [mv_ownA]))
  obtain ⟨ci198, i198, fB, hk198, hg198, ha198, hsB, -, hnB, htB, hffB⟩ := Cond.ownField (t := .object "java/lang/Object") Y.found L.cls (by decide +kernel) (a' (.fieldLink Bundle.tN 198 Bundle.tN "backtrace" "Ljava/lang/Object;") (by simp [mv_ownA])) (a' (.lays Bundle.tN Bundle.tN "backtrace" "Ljava/lang/Object;") (by simp [mv_ownA])) e.platform hpl
  obtain ⟨cellS, hcS', heS, -, hkeep⟩ := X.same.2.2.2.2.2 T.aS cellS0 hcS0
  have hcellS : W.heap[T.aS]? = some cellS := hcS'
  have hout' : ∀ i, (⟨T.aS, i⟩ : Loc) ∉ locs := fun i hmem => by
    have := hlocs _ hmem cellS0 hcS0
    rw [hiss] at this; cases this
  have hknownS : cellS.vm ≠ .unknown := by
    rw [heS]; intro hu
    rw [show cellS0.vm = .unknown from hu] at hiss
    cases hiss
  have hneS : T.aS ≠ a := Nat.ne_of_lt (Nat.lt_of_lt_of_le (Array.getElem?_eq_some_iff.mp hcS0).1 hnew)
  obtain ⟨iM, hffM⟩ := Y.msg
  obtain ⟨tyC, dC, hdC, hdnC⟩ := Cond.laysAt hfound hk Y.cause (a' (.lays cls Bundle.tN "cause" "Ljava/lang/Throwable;") (by simp [mv_ownA]))
  obtain ⟨tyS, dS, hdS, hdnS⟩ := Cond.laysAt hfound hk Y.stack (a' (.lays cls Bundle.tN "stackTrace" Bundle.steD) (by simp [mv_ownA]))
  obtain ⟨tyP, dP, hdP, hdnP⟩ := Cond.laysAt hfound hk Y.supp (a' (.lays cls Bundle.tN "suppressedExceptions" Bundle.listD) (by simp [mv_ownA]))
  obtain ⟨tyM, dM, hdM, hdnM⟩ := Cond.laysAt hfound hk hffM (a' (.lays cls Bundle.tN "detailMessage" "Ljava/lang/String;") (by simp [mv_ownA]))
  obtain ⟨tyB, dB, hdB, hdnB⟩ := Cond.laysAt hfound hk hffB (a' (.lays cls Bundle.tN "backtrace" "Ljava/lang/Object;") (by simp [mv_ownA]))
  have bC := Cond.laysApart hdB hdC hdnB hdnC (by rw [hnB, Y.causeName]; decide)
  have bS := Cond.laysApart hdB hdS hdnB hdnS (by rw [hnB, Y.stackName]; decide)
  have bP := Cond.laysApart hdB hdP hdnB hdnP (by rw [hnB, Y.suppName]; decide)
  have hskip : SkipFacts T e.platform s (fun u => u) u0 ((preparedCellV T.toThrowableT (freshCell P1.m.cls kX) a u0 sen).withEntry W.cur) :=
    ⟨{ ci198 := ci198, i198 := i198, fBack := fB }, ⟨hk198, hg198, ha198, hsB⟩, by
      have := fresh_default (c := P1.m.cls) tyB
      rw [htB] at this
      simpa [preparedCellV, Cell.setSlot, Cell.withEntry, Array.getElem?_setIfInBounds, bC, bS, bP, bC.symm, bS.symm, bP.symm, defaultValue] using this, fun _ _ => rfl⟩
  obtain ⟨tm, methC, cdC, kC, vm₁, hnC, -, -, -, -, -, -, -, hW₁, st1⟩ := Steps.initColdS (tb := p.tables) (e := e) (below := below) (s := s) (U := W) X.here hexec X.warmed hpl hown (t := Bundle.initS cls) rfl rfl (Bundle.fit_spec hcls).2
    (a' (.methodLink own ic (Bundle.initS cls)) (by simp [mv_ownA])) (h (.instanceMethod (Bundle.initS cls)) (by cases names <;> simp [mv_ownA, mv_chainA, Bundle.passSAtoms])) (bytes := rx) (maxL := 2) (h (.code (Bundle.initS cls) rx 2 none) (by cases names <;> simp [mv_ownA, mv_chainA, Bundle.passSAtoms]))
    (f := g) hg (a := a) (msg := msg) (rest := .ref a :: rest) hstack hd6
  cases Option.some.inj (hnC.symm.trans hP1m)
  have X₁ := X.noted hW₁
  obtain ⟨vm₂, X₂, st2⟩ := X₁.ctorMessageOffV hexec (g := { g with stack := .ref a :: rest }) hg hsize T L Z LZ M LM (P1 :: Ps)
    (fun P hP => by rcases List.mem_cons.mp hP with rfl | hP; exact L1; exact hL P hP) ⟨hlink1, hlink⟩ (u0 := u0) (sen := sen) (self := a) hmsg (cell := freshCell P1.m.cls kX) (cellS := cellS)
    hcell (fun _ => by simp) (by simp) rfl rfl hsel0 hselF hcellS hneS hknownS (by rw [hkeep _ (hout' _)]; exact hu0) (by rw [hkeep _ (hout' _)]; exact hsen)
    (Takes.of_laid hk hord tyC (by rw [Y.causeType]; rfl)) (Takes.of_laid hk hord tyS (by rw [Y.stackType]; exact fits_refV_array _ u0)) (Takes.of_laid hk hord tyP (by rw [Y.suppType]; exact fits_refV_object _ sen))
    (Takes.of_laid hk hord tyM (by rw [Y.msgType]; exact fits_refV_object _ ⟨msg, hmsg⟩)) Y.objLocals hskip htr [] hd6
    (by simp only [List.length_cons, hlen]; omega) (by simp only [List.length_cons, hlen]; exact hRlocals)
  obtain ⟨hwalk, hrun, hended, hWU, hsame⟩ := X₂.athrowLeaves hexec (g := { g with stack := .ref a :: rest, pc := g.pc + 3 }) hg hlocked hentered hout (a := a) (rest := rest) rfl hd9
  obtain ⟨c3, c4, hc3, hc4, hasg⟩ := Cond.castable_spec (a' (.castable cls cls) (by simp [mv_ownA]))
  cases Option.some.inj (hc3.symm.trans hfound)
  cases Option.some.inj (hc4.symm.trans hfound)
  have hlt : a < ((W.setVm vm₁).setVm vm₂).heap.size := (Array.getElem?_eq_some_iff.mp hcell).1
  have hU := heapAt_setCell_self (s := (W.setVm vm₁).setVm vm₂) (plainBareV T.toThrowableT (freshCell P1.m.cls kX) a u0 sen msg) hlt
  have hnM : T.fMsg.name = "detailMessage" := (State.fieldFound?_type hffM (t := .object "java/lang/String") (by decide +kernel)).1
  have nCS := Cond.laysApart hdC hdS hdnC hdnS (by rw [Y.causeName, Y.stackName]; decide)
  have nCP := Cond.laysApart hdC hdP hdnC hdnP (by rw [Y.causeName, Y.suppName]; decide)
  have nCM := Cond.laysApart hdC hdM hdnC hdnM (by rw [Y.causeName, hnM]; decide)
  have nSP := Cond.laysApart hdS hdP hdnS hdnP (by rw [Y.stackName, Y.suppName]; decide)
  have nSM := Cond.laysApart hdS hdM hdnS hdnM (by rw [Y.stackName, hnM]; decide)
  have nPM := Cond.laysApart hdP hdM hdnP hdnM (by rw [Y.suppName, hnM]; decide)
  have lC : T.fCause.slot < kX.instanceTypes.size := (Array.getElem?_eq_some_iff.mp tyC).1
  have lS : T.fStack.slot < kX.instanceTypes.size := (Array.getElem?_eq_some_iff.mp tyS).1
  have lP : T.fSupp.slot < kX.instanceTypes.size := (Array.getElem?_eq_some_iff.mp tyP).1
  have lM : T.fMsg.slot < kX.instanceTypes.size := (Array.getElem?_eq_some_iff.mp tyM).1
  have evU : ∀ o, (Term.static Bundle.tN "UNASSIGNED_STACK" Bundle.steD).eval args s o [] s = some u0.v := by
    intro o
    simp [Term.eval, State.fieldNamed?, Y.unassigned, L.unassignedStatic, L.statics, hcS0, hiss, hu0]
  have evS : ∀ o, (Term.static Bundle.tN "SUPPRESSED_SENTINEL" Bundle.listD).eval args s o [] s = some sen.v := by
    intro o
    simp [Term.eval, State.fieldNamed?, Y.sentinel, L.sentinelStatic, L.statics, hcS0, hiss, hsen]
  refine ⟨_, st1 _ (fun acts => ?_), hrun, hended, hWU, hsame.weaken (fun y hy hlt' => ?_) (Nat.le_refl _) (Nat.le_refl _), _, hU, ?_⟩
  · rw [doInvoke_state]
    exact st2 _ hwalk
  · rcases List.mem_append.mp hy with h1 | h1
    · exact h1
    · exfalso
      have hb : y.base = a := by
        simp only [List.mem_cons, List.not_mem_nil, or_false] at h1
        rcases h1 with rfl | rfl | rfl | rfl | rfl <;> rfl
      rw [hb] at hlt'
      exact Nat.not_lt.mpr hnew hlt'
  · exact ⟨hfound, rfl⟩
end CTORT
section ENDT
variable {p : Program} {l : Launch} {e : Env} {R : Room} {s : State} {m : MethodId} {args : Array Value} {below : List Frame} {meth : Method} {c : Code} {H : Heap} {locs : List Loc} {cells slots : Nat} {Q : State → Prop}
variable {mc ms : Nat} {free : Addr → Prop} {A0 A1 : Nat → Prop} {H0 : Heap} {a : Array Value} {ls : Array Slot} {st0 rest : List Value}
variable {Qc : Array Value → State → Outcome → State → Prop} {XC : String → State → State → Prop}
theorem mv_throwS {cc : ByteArray} {pc : Nat} (hexec : p.tables.exec = Jvm.exec) (hb : c.code = cc) (hl : l.stackTraces = false) {own cls text : String} {names : List String} {ik is ic mc ms sa : Nat} {A : Nat → Prop}
    {ix : Nat} {rx : ByteArray} (x0 : decode rx 0 = .ok (.aload_n 0, 1)) (x1 : decode rx 1 = .ok (.aload_n 1, 1)) (x2 : decode rx 2 = .ok (.invokespecial ix, 3)) (x5 : decode rx 5 = .ok (.return_, 1)) (hown : s.vm.findClass own = some m.cls) (hcls : Bundle.fit cls = true) (hnames : ∀ n ∈ names, Bundle.fit n = true)
    (hk : (Cond.classLink own ik cls).before args s = true) (hini : (Cond.initialized cls).before args s = true) (hstr : vk_R own is text sa s) (hat : ∀ w ∈ (mv_ownA own ic cls ix rx names).filter vx_no, w.before args s = true)
    (hgood : ∀ w ∈ Cond.classLink own ik cls :: Cond.initialized cls :: (mv_ownA own ic cls ix rx names).filter vx_no, vx_ot w = true)
    (hU : vx_Zq Bundle.tN "UNASSIGNED_STACK" Bundle.steD A s s.heap) (hN : vx_Zq Bundle.tN "SUPPRESSED_SENTINEL" Bundle.listD A s s.heap) (hS : va_S A s.heap H locs) (hsize : ls.size = c.maxLocals)
    (d0 : decode cc pc = .ok (.new ik, 3)) (d3 : decode cc (pc + 3) = .ok (.dup, 1)) (d4 : decode cc (pc + 4) = .ok (.ldc is, 2)) (d6 : decode cc (pc + 6) = .ok (.invokespecial ic, 3)) (d9 : decode cc (pc + 9) = .ok (.athrow, 1))
    (hout : ∀ x ∈ c.exceptionTable.toList, covers x (pc + 9) = false)
    (hRframes : names.length + 3 < R.frames) (hRlocals : (rest.map fun v => v.category).sum + (13 * (names.length + 1) + 43) ≤ R.locals) (hRcells : cells + 1 ≤ R.cells) (hRslots : slots + 6 ≤ R.slots) (hlocks : meth.locks = false)
    (hx : ∀ t : State, s.vm.Alike t.vm → H.size ≤ t.heap.size → (∀ q : Nat, q < H.size → t.heap[q]? = H[q]?) → XC cls s t)
    (hf : ∀ z ∈ locs, free z.base) (hc : cells + 1 ≤ mc) (hs : slots + 6 ≤ ms) :
    W p l e R s m args below meth c H locs cells slots (vx_MQ below Qc XC args s mc ms free) (F0 m pc ls rest) := by
  intro T hT X
  have htr : e.platform.stackTraces = false := (show e.platform.stackTraces = l.stackTraces by rw [X.admits.platform]).trans hl
  have Y := vx_rebase X (R' := { frames := R.frames, locals := R.locals, cells := 1, slots := 6 }) (Nat.le_refl _) (Nat.le_refl _) hRcells hRslots
  obtain ⟨s', hA⟩ : ∃ z, z = (T.setVm s.vm).setFrames (.invoking m args :: below) := ⟨_, rfl⟩
  rw [← hA] at Y
  have hvm : s'.vm = s.vm := by rw [hA]; rfl
  have hhp : s'.heap = H := by rw [hA]; exact hT
  have hW0 : s.WarmedH s'.vm := by rw [hvm]; exact State.WarmedH.refl s
  have hat' : ∀ w ∈ (mv_ownA own ic cls ix rx names).filter vx_no, w.before args s' = true := fun w hw => vx_ot_at hW0 hvm.symm (hgood w (List.mem_cons_of_mem _ (List.mem_cons_of_mem _ hw))) (hat w hw)
  have hk' : (Cond.classLink own ik cls).before args s' = true := vx_ot_at hW0 hvm.symm (hgood _ List.mem_cons_self) hk
  have hini' : (Cond.initialized cls).before args s' = true := vx_ot_at hW0 hvm.symm (hgood _ (List.mem_cons_of_mem _ List.mem_cons_self)) hini
  have hU' : vx_Zq Bundle.tN "UNASSIGNED_STACK" Bundle.steD A s' s'.heap := by rw [hhp]; exact vx_Zq.moved hW0.alike (hU.kept hS.2.1)
  have hN' : vx_Zq Bundle.tN "SUPPRESSED_SENTINEL" Bundle.listD A s' s'.heap := by rw [hhp]; exact vx_Zq.moved hW0.alike (hN.kept hS.2.1)
  have h : ∀ w ∈ mv_ownA own ic cls ix rx names, w.before args s' = true := vx_own hat' (vx_isRefq hU'.1) (vx_isRefq hN'.1) hU'.2.word hN'.2.word
  have hown' : s'.vm.findClass own = some m.cls := by rw [hvm]; exact hown
  have hins : (Cond.instantiable cls 6).before args s' = true := h _ (by simp [mv_ownA])
  obtain ⟨vm₁, cX, kX, hfX, hkX, -, -, X₁, st1⟩ := Y.newCold hexec (own := own) (C := cls) (index := ik) (n := 6) hown' hk' hins hini'
    (g := F0 m pc ls rest) rfl (by rw [hb]; exact d0) (Nat.le_refl _) (Nat.le_refl _)
  generalize hT1 : (T.setVm vm₁).pushCell { cls := cX, slots := kX.instanceTypes.map defaultValue, vm := .none } = T1 at X₁ st1
  have hcat : (Value.ref T.heap.size).category = 1 := rfl
  have hcellA : T1.heap[T.heap.size]? = some (freshCell cX kX) := by rw [← hT1]; exact State.heap_pushCell_size _ _
  have d3' : decode c.code (pc + 3) = .ok (.dup, 1) := by rw [hb]; exact d3
  have d4' : decode c.code (pc + 4) = .ok (.ldc is, 2) := by rw [hb]; exact d4
  have hstr' : vk_R own is text sa s' := vk_R.warm hW0 hstr
  obtain ⟨U, hsteps, hrun, hend, hW, hsame, ce, hce, hO⟩ := mv_ctorT X₁ hexec htr x0 x1 x2 x5 (own := own) (cls := cls) (names := names) (ic := ic) hown' hcls hnames h (fun x hx => nomatch hx) hfX hkX hcellA (by rw [hhp, hT]; exact Nat.le_refl _) (msg := .ref sa) rfl
    (g := { method := m, pc := pc + 6, locals := ls, stack := .ref sa :: .ref T.heap.size :: .ref T.heap.size :: rest, locked := none }) rfl hsize rfl rfl (rest := rest) rfl
    (by rw [hb]; exact d6) (by rw [hb]; exact d9) hout hRframes (by simp only [List.map_cons, List.sum_cons, hcat]; omega) hlocks
  obtain ⟨f1, f2⟩ := vx_frame hsame
  rw [hhp] at f1 f2
  have hWs : s.WarmedH U.vm := State.WarmedH.trans hW0 hW
  have hcl : s.vm.findClass cls = some ce.cls := by
    have h9 := hO.1
    rw [hvm] at h9
    exact h9
  have hall : s.sameButNew ({ U with vm := s.vm } : State) locs mc ms := by
    subst hA
    obtain ⟨e1, e2⟩ := hsame
    rw [State.setFrames_setFrames] at e1
    have h2 : (T.setVm s.vm).sameButNew ({ U with vm := s.vm } : State) [] (0 + 1) (0 + 6) := ⟨e1, e2⟩
    have h3 := X.same.trans h2
    rw [List.append_nil] at h3
    exact h3.mono hc hs
  refine ⟨U, ?_, .threw T.heap.size, hrun, hend, Or.inr ⟨T.heap.size, rfl, cls, ce, locs, hx U hWs.alike f1 (fun q hq => f2 q hq (fun z hz => nomatch hz)), hce, hO.2, hcl, hWs, hall, hf⟩⟩
  refine st1 _ ?_
  show Steps p.tables e below (T1.setTop { method := m, pc := pc + 3, locals := ls, stack := .ref T.heap.size :: rest, locked := none }) _
  jvm_step X₁.here [X₁.here.top, hexec, d3', Value.category]
  exact X₁.ldcString hexec (own := own) (text := text) (index := is) (a := sa) hown' hstr'.1 hstr'.2
    (g := { method := m, pc := pc + 4, locals := ls, stack := .ref T.heap.size :: .ref T.heap.size :: rest, locked := none }) rfl d4' _ hsteps
theorem mv_throwSW {cc : ByteArray} {pc : Nat} (hexec : p.tables.exec = Jvm.exec) (hb : c.code = cc) (hl : l.stackTraces = false) {own cls text : String} {names : List String} {ik is ic mc ms sa : Nat} {A : Nat → Prop}
    {ix : Nat} {rx : ByteArray} (x0 : decode rx 0 = .ok (.aload_n 0, 1)) (x1 : decode rx 1 = .ok (.aload_n 1, 1)) (x2 : decode rx 2 = .ok (.invokespecial ix, 3)) (x5 : decode rx 5 = .ok (.return_, 1)) (hown : s.vm.findClass own = some m.cls) (hcls : Bundle.fit cls = true) (hnames : ∀ n ∈ names, Bundle.fit n = true)
    (hk : (Cond.classLink own ik cls).before args s = true) (hini : (Cond.initialized cls).before args s = true) (hstr : vk_R own is text sa s) (hat : ∀ w ∈ (mv_ownA own ic cls ix rx names).filter vx_no, w.before args s = true)
    (hgood : ∀ w ∈ Cond.classLink own ik cls :: Cond.initialized cls :: (mv_ownA own ic cls ix rx names).filter vx_no, vx_ot w = true)
    (hU : vx_Zq Bundle.tN "UNASSIGNED_STACK" Bundle.steD A s s.heap) (hN : vx_Zq Bundle.tN "SUPPRESSED_SENTINEL" Bundle.listD A s s.heap) (hS : va_S A s.heap H locs) (hsize : ls.size = c.maxLocals)
    (d0 : decode cc pc = .ok (.new ik, 3)) (d3 : decode cc (pc + 3) = .ok (.dup, 1)) (d4 : decode cc (pc + 4) = .ok (.ldc_w is, 3)) (d7 : decode cc (pc + 7) = .ok (.invokespecial ic, 3)) (d10 : decode cc (pc + 10) = .ok (.athrow, 1))
    (hout : ∀ x ∈ c.exceptionTable.toList, covers x (pc + 10) = false)
    (hRframes : names.length + 3 < R.frames) (hRlocals : (rest.map fun v => v.category).sum + (13 * (names.length + 1) + 43) ≤ R.locals) (hRcells : cells + 1 ≤ R.cells) (hRslots : slots + 6 ≤ R.slots) (hlocks : meth.locks = false)
    (hx : ∀ t : State, s.vm.Alike t.vm → H.size ≤ t.heap.size → (∀ q : Nat, q < H.size → t.heap[q]? = H[q]?) → XC cls s t)
    (hf : ∀ z ∈ locs, free z.base) (hc : cells + 1 ≤ mc) (hs : slots + 6 ≤ ms) :
    W p l e R s m args below meth c H locs cells slots (vx_MQ below Qc XC args s mc ms free) (F0 m pc ls rest) := by
  intro T hT X
  have htr : e.platform.stackTraces = false := (show e.platform.stackTraces = l.stackTraces by rw [X.admits.platform]).trans hl
  have Y := vx_rebase X (R' := { frames := R.frames, locals := R.locals, cells := 1, slots := 6 }) (Nat.le_refl _) (Nat.le_refl _) hRcells hRslots
  obtain ⟨s', hA⟩ : ∃ z, z = (T.setVm s.vm).setFrames (.invoking m args :: below) := ⟨_, rfl⟩
  rw [← hA] at Y
  have hvm : s'.vm = s.vm := by rw [hA]; rfl
  have hhp : s'.heap = H := by rw [hA]; exact hT
  have hW0 : s.WarmedH s'.vm := by rw [hvm]; exact State.WarmedH.refl s
  have hat' : ∀ w ∈ (mv_ownA own ic cls ix rx names).filter vx_no, w.before args s' = true := fun w hw => vx_ot_at hW0 hvm.symm (hgood w (List.mem_cons_of_mem _ (List.mem_cons_of_mem _ hw))) (hat w hw)
  have hk' : (Cond.classLink own ik cls).before args s' = true := vx_ot_at hW0 hvm.symm (hgood _ List.mem_cons_self) hk
  have hini' : (Cond.initialized cls).before args s' = true := vx_ot_at hW0 hvm.symm (hgood _ (List.mem_cons_of_mem _ List.mem_cons_self)) hini
  have hU' : vx_Zq Bundle.tN "UNASSIGNED_STACK" Bundle.steD A s' s'.heap := by rw [hhp]; exact vx_Zq.moved hW0.alike (hU.kept hS.2.1)
  have hN' : vx_Zq Bundle.tN "SUPPRESSED_SENTINEL" Bundle.listD A s' s'.heap := by rw [hhp]; exact vx_Zq.moved hW0.alike (hN.kept hS.2.1)
  have h : ∀ w ∈ mv_ownA own ic cls ix rx names, w.before args s' = true := vx_own hat' (vx_isRefq hU'.1) (vx_isRefq hN'.1) hU'.2.word hN'.2.word
  have hown' : s'.vm.findClass own = some m.cls := by rw [hvm]; exact hown
  have hins : (Cond.instantiable cls 6).before args s' = true := h _ (by simp [mv_ownA])
  obtain ⟨vm₁, cX, kX, hfX, hkX, -, -, X₁, st1⟩ := Y.newCold hexec (own := own) (C := cls) (index := ik) (n := 6) hown' hk' hins hini'
    (g := F0 m pc ls rest) rfl (by rw [hb]; exact d0) (Nat.le_refl _) (Nat.le_refl _)
  generalize hT1 : (T.setVm vm₁).pushCell { cls := cX, slots := kX.instanceTypes.map defaultValue, vm := .none } = T1 at X₁ st1
  have hcat : (Value.ref T.heap.size).category = 1 := rfl
  have hcellA : T1.heap[T.heap.size]? = some (freshCell cX kX) := by rw [← hT1]; exact State.heap_pushCell_size _ _
  have d3' : decode c.code (pc + 3) = .ok (.dup, 1) := by rw [hb]; exact d3
  have d4' : decode c.code (pc + 4) = .ok (.ldc_w is, 3) := by rw [hb]; exact d4
  have hstr' : vk_R own is text sa s' := vk_R.warm hW0 hstr
  obtain ⟨U, hsteps, hrun, hend, hW, hsame, ce, hce, hO⟩ := mv_ctorT X₁ hexec htr x0 x1 x2 x5 (own := own) (cls := cls) (names := names) (ic := ic) hown' hcls hnames h (fun x hx => nomatch hx) hfX hkX hcellA (by rw [hhp, hT]; exact Nat.le_refl _) (msg := .ref sa) rfl
    (g := { method := m, pc := pc + 7, locals := ls, stack := .ref sa :: .ref T.heap.size :: .ref T.heap.size :: rest, locked := none }) rfl hsize rfl rfl (rest := rest) rfl
    (by rw [hb]; exact d7) (by rw [hb]; exact d10) hout hRframes (by simp only [List.map_cons, List.sum_cons, hcat]; omega) hlocks
  obtain ⟨f1, f2⟩ := vx_frame hsame
  rw [hhp] at f1 f2
  have hWs : s.WarmedH U.vm := State.WarmedH.trans hW0 hW
  have hcl : s.vm.findClass cls = some ce.cls := by
    have h9 := hO.1
    rw [hvm] at h9
    exact h9
  have hall : s.sameButNew ({ U with vm := s.vm } : State) locs mc ms := by
    subst hA
    obtain ⟨e1, e2⟩ := hsame
    rw [State.setFrames_setFrames] at e1
    have h2 : (T.setVm s.vm).sameButNew ({ U with vm := s.vm } : State) [] (0 + 1) (0 + 6) := ⟨e1, e2⟩
    have h3 := X.same.trans h2
    rw [List.append_nil] at h3
    exact h3.mono hc hs
  refine ⟨U, ?_, .threw T.heap.size, hrun, hend, Or.inr ⟨T.heap.size, rfl, cls, ce, locs, hx U hWs.alike f1 (fun q hq => f2 q hq (fun z hz => nomatch hz)), hce, hO.2, hcl, hWs, hall, hf⟩⟩
  refine st1 _ ?_
  show Steps p.tables e below (T1.setTop { method := m, pc := pc + 3, locals := ls, stack := .ref T.heap.size :: rest, locked := none }) _
  jvm_step X₁.here [X₁.here.top, hexec, d3', Value.category]
  exact X₁.ldcStringW hexec (own := own) (text := text) (index := is) (a := sa) hown' hstr'.1 hstr'.2
    (g := { method := m, pc := pc + 4, locals := ls, stack := .ref T.heap.size :: .ref T.heap.size :: rest, locked := none }) rfl d4' _ hsteps
end ENDT
def mv_nms : List String := ["java/lang/RuntimeException", "java/lang/Exception"]
def mv_rx (k : Nat) : ByteArray := match k with
  | 0 => prog_24_method_2_code
  | 1 => prog_25_method_2_code
  | 2 => prog_26_method_2_code
  | 3 => prog_17_method_2_code
  | 4 => prog_24_method_2_code
  | _ => prog_40_method_4_code
def mv_ixx (k : Nat) : Nat := if k = 5 then 13 else 7
def mv_ml0 (w : Cond) : Bool := match w with | .methodLink o _ _ => decide (o = "") | _ => false
theorem mv_tw_rx : ∀ k, mv_e6 k = true → decode (mv_rx k) 0 = .ok (.aload_n 0, 1) ∧ decode (mv_rx k) 1 = .ok (.aload_n 1, 1) ∧ decode (mv_rx k) 2 = .ok (.invokespecial (mv_ixx k), 3) ∧ decode (mv_rx k) 5 = .ok (.return_, 1) := fun k hk => (by decide +kernel : ∀ k, k < 6 → decode (mv_rx k) 0 = .ok (.aload_n 0, 1) ∧ decode (mv_rx k) 1 = .ok (.aload_n 1, 1) ∧ decode (mv_rx k) 2 = .ok (.invokespecial (mv_ixx k), 3) ∧ decode (mv_rx k) 5 = .ok (.return_, 1)) k (mv_e6_lt hk)
theorem mv_tw_fit : ∀ k, mv_e6 k = true → Bundle.fit (mv_ec k) = true := fun k hk => (by decide +kernel : ∀ k, k < 6 → Bundle.fit (mv_ec k) = true) k (mv_e6_lt hk)
theorem mv_tw_nms : ∀ n ∈ mv_nms, Bundle.fit n = true := by decide +kernel
/-- the words of a throw of E but the link of its constructor -/
theorem mv_tw : ∀ k, mv_e6 k = true → (((mv_ownA "" 0 (mv_ec k) (mv_ixx k) (mv_rx k) mv_nms).filter vx_no).all (fun w => mv_ml0 w || (lw_tbl.elem w && (goodWord w || mv_nest w) && vx_ot w))) = true := fun k hk => (by decide +kernel : ∀ k, k < 6 → mv_e6 k = true → (((mv_ownA "" 0 (mv_ec k) (mv_ixx k) (mv_rx k) mv_nms).filter vx_no).all (fun w => mv_ml0 w || (lw_tbl.elem w && (goodWord w || mv_nest w) && vx_ot w))) = true) k (mv_e6_lt hk) hk
end
section
/-! what is called and how: number of parameters; 0: by the receiver, 1: static, 2: constructor, 3: static with a table -/
noncomputable def mv_ci : List (Nat × Nat) := [(0, 2), (3, 0), (1, 0), (0, 0), (0, 0), (0, 0), (0, 2), (1, 0), (3, 0), (1, 0), (4, 0), (3, 0), (4, 0), (2, 0), (1, 0), (1, 0), (2, 0), (2, 0), (2, 0), (4, 0), (3, 0), (2, 0), (2, 0), (1, 0), (0, 0), (1, 0), (0, 0), (2, 0), (1, 0), (0, 0), (0, 0), (1, 0), (0, 0), (1, 0), (2, 0), (0, 0), (0, 0), (0, 0), (0, 0), (0, 2), (1, 0), (0, 2), (1, 0), (1, 0), (1, 0), (0, 2), (3, 0), (3, 0), (3, 0), (4, 1), (6, 1), (0, 2), (0, 2), (2, 0), (0, 0), (1, 0), (2, 0), (1, 0), (1, 0), (1, 0), (0, 2), (3, 0), (2, 0), (2, 0), (1, 0), (1, 0), (0, 0), (2, 0), (1, 0), (4, 0), (0, 0), (1, 0), (1, 0), (1, 0), (1, 0), (1, 0), (1, 0), (1, 0), (1, 0), (1, 0), (0, 0), (0, 0), (1, 0), (0, 0), (0, 0), (0, 0), (0, 0), (0, 0), (2, 0), (2, 0), (0, 0), (1, 0), (1, 0), (2, 0), (2, 0), (2, 0), (1, 0), (2, 0), (2, 0), (1, 0), (0, 0), (1, 0), (0, 0), (0, 0), (0, 0), (0, 0), (1, 0), (1, 0), (1, 0), (3, 1), (1, 1), (2, 1), (3, 1), (4, 3), (3, 3), (3, 3), (2, 3), (2, 3), (3, 3), (2, 3), (2, 3), (2, 3), (2, 3), (1, 3), (2, 1), (3, 1)]
noncomputable def mv_cif (M : Nat) : Nat × Nat := mv_ci.getD M (0, 9)
noncomputable def mv_cok (M : Nat) : Bool := mv_mok (mv_mi M) && decide ((parseMethodDescriptor (mv_mi M).2.1.desc).map (fun d => d.parameters.length) = some (mv_cif M).1) &&
  (match (mv_cif M).2 with
    | 0 => decide ((mv_mi M).2.2.2.2.2.2.2.2 = 0) && decide (lw_tbl[(mv_mi M).2.2.2.2.2.2.1]? = some (.selects (mv_mi M).2.1.cls (mv_mi M).2.1 (mv_mi M).2.1))
    | 1 => decide ((mv_mi M).2.2.2.2.2.2.2.2 = 1)
    | 2 => decide ((mv_mi M).2.2.2.2.2.2.2.2 = 0) && decide ((mv_mi M).2.1.name = "<init>") && decide ((mv_mi M).2.2.2.1 = none)
    | 3 => decide ((mv_mi M).2.2.2.2.2.2.2.2 = 3) && decide (lw_tbl[(mv_mi M).2.2.2.2.1]? = some (mv_w1 M))
    | _ => false) && decide ((mv_mi M).2.2.1 ≤ 20) && (mv_nh M == decide (¬ (mv_cif M).2 = 3))
theorem mv_cok0 : ((List.range 20).all (fun j => mv_cok (0 + j))) = true := by decide +kernel
theorem mv_cok1 : ((List.range 20).all (fun j => mv_cok (20 + j))) = true := by decide +kernel
theorem mv_cok2 : ((List.range 20).all (fun j => mv_cok (40 + j))) = true := by decide +kernel
theorem mv_cok3 : ((List.range 20).all (fun j => mv_cok (60 + j))) = true := by decide +kernel
theorem mv_cok4 : ((List.range 20).all (fun j => mv_cok (80 + j))) = true := by decide +kernel
theorem mv_cok5 : ((List.range 20).all (fun j => mv_cok (100 + j))) = true := by decide +kernel
theorem mv_cok6 : ((List.range 6).all (fun j => mv_cok (120 + j))) = true := by decide +kernel
theorem mv_cok_at {M : Nat} (h : M < 126) : mv_cok M = true := by
  have key : ∀ (b n : Nat), ((List.range n).all (fun j => mv_cok (b + j))) = true → b ≤ M → M < b + n → mv_cok M = true := by
    intro b n h1 h2 h3
    have := List.all_eq_true.mp h1 (M - b) (List.mem_range.mpr (by omega))
    rwa [show b + (M - b) = M by omega] at this
  rcases Nat.lt_or_ge M 20 with q | q
  · exact key 0 20 mv_cok0 (by omega) (by omega)
  rcases Nat.lt_or_ge M 40 with q1 | q1
  · exact key 20 20 mv_cok1 (by omega) (by omega)
  rcases Nat.lt_or_ge M 60 with q2 | q2
  · exact key 40 20 mv_cok2 (by omega) (by omega)
  rcases Nat.lt_or_ge M 80 with q3 | q3
  · exact key 60 20 mv_cok3 (by omega) (by omega)
  rcases Nat.lt_or_ge M 100 with q4 | q4
  · exact key 80 20 mv_cok4 (by omega) (by omega)
  rcases Nat.lt_or_ge M 120 with q5 | q5
  · exact key 100 20 mv_cok5 (by omega) (by omega)
  exact key 120 6 mv_cok6 (by omega) (by omega)
/-- a row that calls agrees with what is called -/
noncomputable def mv_crow (q : Nat × mv_I) : Bool := match q.2 with
  | (.invokevirtual _, _, a, b, _) => !decide (a < 900) || (decide (a < 126) && decide (mv_cif a = (b - 1, 0)) && decide (0 < b) && decide (mv_cn a < 8))
  | (.invokestatic _, _, a, b, w) => !decide (a < 900) || (decide (a < 126) && (decide (mv_cif a = (b, 1)) || (decide (mv_cif a = (b, 3)) && (match lw_tbl[w]? with | some (.methodLink _ _ _) => true | _ => false))))
  | (.invokespecial _, _, a, b, _) => !decide (a < 900) || (decide (a < 126) && decide (mv_cif a = (b - 1, 2)) && decide (0 < b))
  | (.new _, _, a, b, _) => !decide (a = 99) || decide (mv_e6 b = true)
  | _ => true
theorem cr_X1_init : t_X1_init.all mv_crow = true := by decide +kernel
theorem cr_X1_begin : t_X1_begin.all mv_crow = true := by decide +kernel
theorem cr_X1_copyFrom : t_X1_copyFrom.all mv_crow = true := by decide +kernel
theorem cr_X1_moveAutomaticGate : t_X1_moveAutomaticGate.all mv_crow = true := by decide +kernel
theorem cr_X1_letOut : t_X1_letOut.all mv_crow = true := by decide +kernel
theorem cr_X1_spillOver : t_X1_spillOver.all mv_crow = true := by decide +kernel
theorem cr_X2_init : t_X2_init.all mv_crow = true := by decide +kernel
theorem cr_X2_copyFrom : t_X2_copyFrom.all mv_crow = true := by decide +kernel
theorem cr_X2_copyWithOpening : t_X2_copyWithOpening.all mv_crow = true := by decide +kernel
theorem cr_X2_hasBasin : t_X2_hasBasin.all mv_crow = true := by decide +kernel
theorem cr_X2_faultOf : t_X2_faultOf.all mv_crow = true := by decide +kernel
theorem cr_X2_faultOfNewBasin : t_X2_faultOfNewBasin.all mv_crow = true := by decide +kernel
theorem cr_X2_faultAtBasin : t_X2_faultAtBasin.all mv_crow = true := by decide +kernel
theorem cr_X2_faultOfGate : t_X2_faultOfGate.all mv_crow = true := by decide +kernel
theorem cr_X2_faultOfHand : t_X2_faultOfHand.all mv_crow = true := by decide +kernel
theorem cr_X2_faultOfRain : t_X2_faultOfRain.all mv_crow = true := by decide +kernel
theorem cr_X2_faultOfPour : t_X2_faultOfPour.all mv_crow = true := by decide +kernel
theorem cr_X2_faultOfPrediction : t_X2_faultOfPrediction.all mv_crow = true := by decide +kernel
theorem cr_X2_faultOfPlan : t_X2_faultOfPlan.all mv_crow = true := by decide +kernel
theorem cr_X2_carryOut : t_X2_carryOut.all mv_crow = true := by decide +kernel
theorem cr_X2_useNextBasin : t_X2_useNextBasin.all mv_crow = true := by decide +kernel
theorem cr_X2_turnGate : t_X2_turnGate.all mv_crow = true := by decide +kernel
theorem cr_X2_makeAutomatic : t_X2_makeAutomatic.all mv_crow = true := by decide +kernel
theorem cr_X2_makeManual : t_X2_makeManual.all mv_crow = true := by decide +kernel
theorem cr_X2_countAutomatic : t_X2_countAutomatic.all mv_crow = true := by decide +kernel
theorem cr_X2_expectRain : t_X2_expectRain.all mv_crow = true := by decide +kernel
theorem cr_X2_dropForecast : t_X2_dropForecast.all mv_crow = true := by decide +kernel
theorem cr_X2_pourInto : t_X2_pourInto.all mv_crow = true := by decide +kernel
theorem cr_X2_passSteps : t_X2_passSteps.all mv_crow = true := by decide +kernel
theorem cr_X2_passStep : t_X2_passStep.all mv_crow = true := by decide +kernel
theorem cr_X2_takeRain : t_X2_takeRain.all mv_crow = true := by decide +kernel
theorem cr_X2_rainDown : t_X2_rainDown.all mv_crow = true := by decide +kernel
theorem cr_X2_flowDown : t_X2_flowDown.all mv_crow = true := by decide +kernel
theorem cr_X2_rankOf : t_X2_rankOf.all mv_crow = true := by decide +kernel
theorem cr_X2_isRankedBefore : t_X2_isRankedBefore.all mv_crow = true := by decide +kernel
theorem cr_X2_levelsFit : t_X2_levelsFit.all mv_crow = true := by decide +kernel
theorem cr_X2_sumOfLevels : t_X2_sumOfLevels.all mv_crow = true := by decide +kernel
theorem cr_X2_balanceOfAccounts : t_X2_balanceOfAccounts.all mv_crow = true := by decide +kernel
theorem cr_X2_sumOfFloodedSteps : t_X2_sumOfFloodedSteps.all mv_crow = true := by decide +kernel
theorem cr_X5_init : t_X5_init.all mv_crow = true := by decide +kernel
theorem cr_X5_remember : t_X5_remember.all mv_crow = true := by decide +kernel
theorem cr_X6_init : t_X6_init.all mv_crow = true := by decide +kernel
theorem cr_X6_put : t_X6_put.all mv_crow = true := by decide +kernel
theorem cr_X6_putNumber : t_X6_putNumber.all mv_crow = true := by decide +kernel
theorem cr_X6_putDigit : t_X6_putDigit.all mv_crow = true := by decide +kernel
theorem cr_X7_init : t_X7_init.all mv_crow = true := by decide +kernel
theorem cr_X7_leastOfAll : t_X7_leastOfAll.all mv_crow = true := by decide +kernel
theorem cr_X7_leastByCutting : t_X7_leastByCutting.all mv_crow = true := by decide +kernel
theorem cr_X7_lowestFirstOpening : t_X7_lowestFirstOpening.all mv_crow = true := by decide +kernel
theorem cr_X7_leastFrom : t_X7_leastFrom.all mv_crow = true := by decide +kernel
theorem cr_X7_leastBelow : t_X7_leastBelow.all mv_crow = true := by decide +kernel
theorem cr_X8_init : t_X8_init.all mv_crow = true := by decide +kernel
theorem cr_X9_init : t_X9_init.all mv_crow = true := by decide +kernel
theorem cr_X9_include : t_X9_include.all mv_crow = true := by decide +kernel
theorem cr_X9_sumOfBags : t_X9_sumOfBags.all mv_crow = true := by decide +kernel
theorem cr_X9_bestByTable : t_X9_bestByTable.all mv_crow = true := by decide +kernel
theorem cr_X9_improveTable : t_X9_improveTable.all mv_crow = true := by decide +kernel
theorem cr_X9_bestBySets : t_X9_bestBySets.all mv_crow = true := by decide +kernel
theorem cr_X9_bagsOfSet : t_X9_bagsOfSet.all mv_crow = true := by decide +kernel
theorem cr_X9_valueOfSet : t_X9_valueOfSet.all mv_crow = true := by decide +kernel
theorem cr_X10_init : t_X10_init.all mv_crow = true := by decide +kernel
theorem cr_X10_addBasin : t_X10_addBasin.all mv_crow = true := by decide +kernel
theorem cr_X10_setGate : t_X10_setGate.all mv_crow = true := by decide +kernel
theorem cr_X10_setAutomatic : t_X10_setAutomatic.all mv_crow = true := by decide +kernel
theorem cr_X10_setManual : t_X10_setManual.all mv_crow = true := by decide +kernel
theorem cr_X10_addRain : t_X10_addRain.all mv_crow = true := by decide +kernel
theorem cr_X10_clearForecast : t_X10_clearForecast.all mv_crow = true := by decide +kernel
theorem cr_X10_pour : t_X10_pour.all mv_crow = true := by decide +kernel
theorem cr_X10_advance : t_X10_advance.all mv_crow = true := by decide +kernel
theorem cr_X10_change : t_X10_change.all mv_crow = true := by decide +kernel
theorem cr_X10_basinCount : t_X10_basinCount.all mv_crow = true := by decide +kernel
theorem cr_X10_capacity : t_X10_capacity.all mv_crow = true := by decide +kernel
theorem cr_X10_level : t_X10_level.all mv_crow = true := by decide +kernel
theorem cr_X10_fieldValue : t_X10_fieldValue.all mv_crow = true := by decide +kernel
theorem cr_X10_opening : t_X10_opening.all mv_crow = true := by decide +kernel
theorem cr_X10_isAutomatic : t_X10_isAutomatic.all mv_crow = true := by decide +kernel
theorem cr_X10_threshold : t_X10_threshold.all mv_crow = true := by decide +kernel
theorem cr_X10_spilled : t_X10_spilled.all mv_crow = true := by decide +kernel
theorem cr_X10_floodedSteps : t_X10_floodedSteps.all mv_crow = true := by decide +kernel
theorem cr_X10_basinAtRank : t_X10_basinAtRank.all mv_crow = true := by decide +kernel
theorem cr_X10_time : t_X10_time.all mv_crow = true := by decide +kernel
theorem cr_X10_forecastLength : t_X10_forecastLength.all mv_crow = true := by decide +kernel
theorem cr_X10_rainAt : t_X10_rainAt.all mv_crow = true := by decide +kernel
theorem cr_X10_stored : t_X10_stored.all mv_crow = true := by decide +kernel
theorem cr_X10_storedByAccounts : t_X10_storedByAccounts.all mv_crow = true := by decide +kernel
theorem cr_X10_riverTotal : t_X10_riverTotal.all mv_crow = true := by decide +kernel
theorem cr_X10_meanFill : t_X10_meanFill.all mv_crow = true := by decide +kernel
theorem cr_X10_floodShare : t_X10_floodShare.all mv_crow = true := by decide +kernel
theorem cr_X10_levelAfter : t_X10_levelAfter.all mv_crow = true := by decide +kernel
theorem cr_X10_spillOf : t_X10_spillOf.all mv_crow = true := by decide +kernel
theorem cr_X10_stepsUntilFlood : t_X10_stepsUntilFlood.all mv_crow = true := by decide +kernel
theorem cr_X10_lookAhead : t_X10_lookAhead.all mv_crow = true := by decide +kernel
theorem cr_X10_expectedSpill : t_X10_expectedSpill.all mv_crow = true := by decide +kernel
theorem cr_X10_leastSpill : t_X10_leastSpill.all mv_crow = true := by decide +kernel
theorem cr_X10_leastSpillByPruning : t_X10_leastSpillByPruning.all mv_crow = true := by decide +kernel
theorem cr_X10_bestOpening : t_X10_bestOpening.all mv_crow = true := by decide +kernel
theorem cr_X10_endangered : t_X10_endangered.all mv_crow = true := by decide +kernel
theorem cr_X10_bestProtection : t_X10_bestProtection.all mv_crow = true := by decide +kernel
theorem cr_X10_bestProtectionBySets : t_X10_bestProtectionBySets.all mv_crow = true := by decide +kernel
theorem cr_X10_bagsForAll : t_X10_bagsForAll.all mv_crow = true := by decide +kernel
theorem cr_X10_isConsistent : t_X10_isConsistent.all mv_crow = true := by decide +kernel
theorem cr_X10_gatherEndangered : t_X10_gatherEndangered.all mv_crow = true := by decide +kernel
theorem cr_X10_leastSpillsAgree : t_X10_leastSpillsAgree.all mv_crow = true := by decide +kernel
theorem cr_X10_protectionsAgree : t_X10_protectionsAgree.all mv_crow = true := by decide +kernel
theorem cr_X10_writeChain : t_X10_writeChain.all mv_crow = true := by decide +kernel
theorem cr_X10_writeForecast : t_X10_writeForecast.all mv_crow = true := by decide +kernel
theorem cr_X10_outputAt : t_X10_outputAt.all mv_crow = true := by decide +kernel
theorem cr_X10_writeBasin : t_X10_writeBasin.all mv_crow = true := by decide +kernel
theorem cr_X10_existingBasin : t_X10_existingBasin.all mv_crow = true := by decide +kernel
theorem cr_X10_faultOfRange : t_X10_faultOfRange.all mv_crow = true := by decide +kernel
theorem cr_X10_throwFor : t_X10_throwFor.all mv_crow = true := by decide +kernel
theorem cr_L_cell : t_L_cell.all mv_crow = true := by decide +kernel
theorem cr_L_some : t_L_some.all mv_crow = true := by decide +kernel
theorem cr_L_addBasin : t_L_addBasin.all mv_crow = true := by decide +kernel
theorem cr_L_setGate : t_L_setGate.all mv_crow = true := by decide +kernel
theorem cr_L_setAutomatic : t_L_setAutomatic.all mv_crow = true := by decide +kernel
theorem cr_L_setManual : t_L_setManual.all mv_crow = true := by decide +kernel
theorem cr_L_addRain : t_L_addRain.all mv_crow = true := by decide +kernel
theorem cr_L_pour : t_L_pour.all mv_crow = true := by decide +kernel
theorem cr_L_advance : t_L_advance.all mv_crow = true := by decide +kernel
theorem cr_L_threshold : t_L_threshold.all mv_crow = true := by decide +kernel
theorem cr_L_basinAtRank : t_L_basinAtRank.all mv_crow = true := by decide +kernel
theorem cr_L_rainAt : t_L_rainAt.all mv_crow = true := by decide +kernel
theorem cr_L_stepsUntilFlood : t_L_stepsUntilFlood.all mv_crow = true := by decide +kernel
theorem cr_L_build : t_L_build.all mv_crow = true := by decide +kernel
theorem cr_L_acts : t_L_acts.all mv_crow = true := by decide +kernel
def mv_allc : List (List (Nat × mv_I)) → Prop
  | [] => True
  | t :: ts => t.all mv_crow = true ∧ mv_allc ts
theorem mv_allc_app : ∀ {a c : List (List (Nat × mv_I))}, mv_allc a → mv_allc c → mv_allc (a ++ c)
  | [], _, _, h => h
  | _ :: _, _, h, h' => ⟨h.1, mv_allc_app h.2 h'⟩
theorem mv_allc_0 : mv_allc mv_tb0 := ⟨cr_X1_init, ⟨cr_X1_begin, ⟨cr_X1_copyFrom, ⟨cr_X1_moveAutomaticGate, ⟨cr_X1_letOut, ⟨cr_X1_spillOver, ⟨cr_X2_init, ⟨cr_X2_copyFrom, ⟨cr_X2_copyWithOpening, ⟨cr_X2_hasBasin, ⟨cr_X2_faultOf, ⟨cr_X2_faultOfNewBasin, ⟨cr_X2_faultAtBasin, ⟨cr_X2_faultOfGate, ⟨cr_X2_faultOfHand, ⟨cr_X2_faultOfRain, ⟨cr_X2_faultOfPour, ⟨cr_X2_faultOfPrediction, ⟨cr_X2_faultOfPlan, ⟨cr_X2_carryOut, ⟨cr_X2_useNextBasin, ⟨cr_X2_turnGate, ⟨cr_X2_makeAutomatic, ⟨cr_X2_makeManual, ⟨cr_X2_countAutomatic, ⟨cr_X2_expectRain, ⟨cr_X2_dropForecast, ⟨cr_X2_pourInto, ⟨cr_X2_passSteps, ⟨cr_X2_passStep, ⟨cr_X2_takeRain, ⟨cr_X2_rainDown, ⟨cr_X2_flowDown, ⟨cr_X2_rankOf, ⟨cr_X2_isRankedBefore, ⟨cr_X2_levelsFit, ⟨cr_X2_sumOfLevels, ⟨cr_X2_balanceOfAccounts, ⟨cr_X2_sumOfFloodedSteps, ⟨cr_X5_init, trivial⟩⟩⟩⟩⟩⟩⟩⟩⟩⟩⟩⟩⟩⟩⟩⟩⟩⟩⟩⟩⟩⟩⟩⟩⟩⟩⟩⟩⟩⟩⟩⟩⟩⟩⟩⟩⟩⟩⟩⟩
theorem mv_allc_1 : mv_allc mv_tb1 := ⟨cr_X5_remember, ⟨cr_X6_init, ⟨cr_X6_put, ⟨cr_X6_putNumber, ⟨cr_X6_putDigit, ⟨cr_X7_init, ⟨cr_X7_leastOfAll, ⟨cr_X7_leastByCutting, ⟨cr_X7_lowestFirstOpening, ⟨cr_X7_leastFrom, ⟨cr_X7_leastBelow, ⟨cr_X8_init, ⟨cr_X9_init, ⟨cr_X9_include, ⟨cr_X9_sumOfBags, ⟨cr_X9_bestByTable, ⟨cr_X9_improveTable, ⟨cr_X9_bestBySets, ⟨cr_X9_bagsOfSet, ⟨cr_X9_valueOfSet, ⟨cr_X10_init, ⟨cr_X10_addBasin, ⟨cr_X10_setGate, ⟨cr_X10_setAutomatic, ⟨cr_X10_setManual, ⟨cr_X10_addRain, ⟨cr_X10_clearForecast, ⟨cr_X10_pour, ⟨cr_X10_advance, ⟨cr_X10_change, ⟨cr_X10_basinCount, ⟨cr_X10_capacity, ⟨cr_X10_level, ⟨cr_X10_fieldValue, ⟨cr_X10_opening, ⟨cr_X10_isAutomatic, ⟨cr_X10_threshold, ⟨cr_X10_spilled, ⟨cr_X10_floodedSteps, ⟨cr_X10_basinAtRank, trivial⟩⟩⟩⟩⟩⟩⟩⟩⟩⟩⟩⟩⟩⟩⟩⟩⟩⟩⟩⟩⟩⟩⟩⟩⟩⟩⟩⟩⟩⟩⟩⟩⟩⟩⟩⟩⟩⟩⟩⟩
theorem mv_allc_2 : mv_allc mv_tb2 := ⟨cr_X10_time, ⟨cr_X10_forecastLength, ⟨cr_X10_rainAt, ⟨cr_X10_stored, ⟨cr_X10_storedByAccounts, ⟨cr_X10_riverTotal, ⟨cr_X10_meanFill, ⟨cr_X10_floodShare, ⟨cr_X10_levelAfter, ⟨cr_X10_spillOf, ⟨cr_X10_stepsUntilFlood, ⟨cr_X10_lookAhead, ⟨cr_X10_expectedSpill, ⟨cr_X10_leastSpill, ⟨cr_X10_leastSpillByPruning, ⟨cr_X10_bestOpening, ⟨cr_X10_endangered, ⟨cr_X10_bestProtection, ⟨cr_X10_bestProtectionBySets, ⟨cr_X10_bagsForAll, ⟨cr_X10_isConsistent, ⟨cr_X10_gatherEndangered, ⟨cr_X10_leastSpillsAgree, ⟨cr_X10_protectionsAgree, ⟨cr_X10_writeChain, ⟨cr_X10_writeForecast, ⟨cr_X10_outputAt, ⟨cr_X10_writeBasin, ⟨cr_X10_existingBasin, ⟨cr_X10_faultOfRange, ⟨cr_X10_throwFor, ⟨cr_L_cell, ⟨cr_L_some, ⟨cr_L_addBasin, ⟨cr_L_setGate, ⟨cr_L_setAutomatic, ⟨cr_L_setManual, ⟨cr_L_addRain, ⟨cr_L_pour, ⟨cr_L_advance, trivial⟩⟩⟩⟩⟩⟩⟩⟩⟩⟩⟩⟩⟩⟩⟩⟩⟩⟩⟩⟩⟩⟩⟩⟩⟩⟩⟩⟩⟩⟩⟩⟩⟩⟩⟩⟩⟩⟩⟩⟩
theorem mv_allc_3 : mv_allc mv_tb3 := ⟨cr_L_threshold, ⟨cr_L_basinAtRank, ⟨cr_L_rainAt, ⟨cr_L_stepsUntilFlood, ⟨cr_L_build, ⟨cr_L_acts, trivial⟩⟩⟩⟩⟩⟩
theorem mv_allcs : mv_allc mv_tbs := mv_allc_app mv_allc_0 (mv_allc_app mv_allc_1 (mv_allc_app mv_allc_2 (mv_allc_3)))
theorem mv_allc_at : ∀ {a : List (List (Nat × mv_I))} {M : Nat} {t : List (Nat × mv_I)}, mv_allc a → a[M]? = some t → t.all mv_crow = true
  | [], _, _, _, h => by simp at h
  | _ :: _, 0, _, h, h2 => by
    simp only [List.getElem?_cons_zero, Option.some.injEq] at h2
    subst h2
    exact h.1
  | _ :: _, M + 1, _, h, h2 => by
    simp only [List.getElem?_cons_succ] at h2
    exact mv_allc_at h.2 h2
theorem mv_row3 {M pc : Nat} {r : mv_I} (h : mv_in M pc = some r) : mv_crow (pc, r) = true := by
  unfold mv_in mv_tb at h
  have hm := mv_find_mem h
  cases ht : mv_tbs[M]? with
  | none => rw [List.getD_eq_getElem?_getD, ht] at hm; simp at hm
  | some t =>
    have h1 := mv_allc_at mv_allcs ht
    rw [List.getD_eq_getElem?_getD, ht] at hm
    exact List.all_eq_true.mp h1 _ hm
end
section
/-! FRAMES: what a run of the small machine says of the JVM -/
theorem mv_pay {s : State} {args : Array Value} (hts : ∀ w ∈ mv_TS, w.before args s = true) : ∀ w ∈ mv_TS, ∀ (a' : Array Value) (U : State), s.WarmedH U.vm → w.before a' U = true :=
  fun w hw a' U hW => word_at hW (good_of_word (List.mem_filter.mp hw).2) (hts w hw)
theorem mv_cok_p {M : Nat} (h : mv_cok M = true) : mv_w1 M ∈ mv_TS ∧ plainName (mv_mi M).2.1.cls = true ∧ ((mv_mi M).2.1.cls ≠ "java/lang/invoke/MethodHandle" ∧ (mv_mi M).2.1.cls ≠ "java/lang/invoke/VarHandle") ∧ Cond.initialized (mv_mi M).2.1.cls ∈ mv_TS ∧
    (∀ sig, parseMethodDescriptor (mv_mi M).2.1.desc = some sig → (mv_cif M).1 = sig.parameters.length) ∧ (mv_mi M).2.2.1 ≤ 20 ∧ mv_nh M = decide (¬ (mv_cif M).2 = 3) ∧
    ((mv_cif M).2 = 0 → Cond.instanceMethod (mv_mi M).2.1 ∈ mv_TS ∧ Cond.selects (mv_mi M).2.1.cls (mv_mi M).2.1 (mv_mi M).2.1 ∈ mv_TS) ∧ ((mv_cif M).2 = 1 ∨ (mv_cif M).2 = 3 → Cond.static (mv_mi M).2.1 ∈ mv_TS) ∧
    ((mv_cif M).2 = 2 → Cond.instanceMethod (mv_mi M).2.1 ∈ mv_TS ∧ (mv_mi M).2.1.name = "<init>" ∧ (mv_mi M).2.2.2.1 = none) := by
  unfold mv_cok at h
  simp only [Bool.and_eq_true, decide_eq_true_eq] at h
  obtain ⟨⟨⟨⟨hm, hn⟩, hk⟩, hl⟩, hnh⟩ := h
  have hnh : mv_nh M = decide (¬ (mv_cif M).2 = 3) := by simpa using hnh
  generalize hJ : mv_mi M = J at *
  obtain ⟨bs, y, ml, rt, cw, iw, sl, ini, fl⟩ := J
  simp only [mv_mok, Bool.and_eq_true, decide_eq_true_eq] at hm
  obtain ⟨⟨⟨⟨⟨⟨m1, m2⟩, m3⟩, m4⟩, m5⟩, m6⟩, m7⟩ := hm
  have hpar : ∀ sig, parseMethodDescriptor y.desc = some sig → (mv_cif M).1 = sig.parameters.length := by
    intro sig hs
    have hn : (parseMethodDescriptor y.desc).map (fun d => d.parameters.length) = some (mv_cif M).1 := hn
    rw [hs] at hn
    exact (Option.some.inj hn).symm
  have hini : Cond.initialized y.cls ∈ mv_TS := mv_TS_of m4 rfl
  generalize hc9 : mv_cif M = ci9 at *
  obtain ⟨np, kd⟩ := ci9
  have hw1 : mv_w1 M = if mv_nh M = true then .code y bs ml rt else .codeWith y bs ml rt (mv_hh M) := by unfold mv_w1; rw [hJ]
  match kd, hk with
  | 0, hk =>
    simp only [Bool.and_eq_true, decide_eq_true_eq] at hk
    obtain ⟨rfl, hsl⟩ := hk
    refine ⟨?_, m5, ⟨m6, m7⟩, hini, hpar, hl, hnh, fun _ => ⟨mv_TS_of (of_decide_eq_true (show decide (lw_tbl[iw]? = some (Cond.instanceMethod y)) = true from m2)) rfl, mv_TS_of hsl rfl⟩, fun q => (by rcases q with q | q <;> cases q), fun q => by cases q⟩
    rw [hw1, hnh]
    exact mv_TS_of (of_decide_eq_true (show decide (lw_tbl[cw]? = some (Cond.code y bs ml rt)) = true from m1)) rfl
  | 1, hk =>
    have hk : fl = 1 := of_decide_eq_true hk
    subst hk
    refine ⟨?_, m5, ⟨m6, m7⟩, hini, hpar, hl, hnh, fun q => (by cases q), fun _ => mv_TS_of (of_decide_eq_true (show decide (lw_tbl[iw]? = some (Cond.static y)) = true from m2)) rfl, fun q => by cases q⟩
    rw [hw1, hnh]
    exact mv_TS_of (of_decide_eq_true (show decide (lw_tbl[cw]? = some (Cond.code y bs ml rt)) = true from m1)) rfl
  | 2, hk =>
    simp only [Bool.and_eq_true, decide_eq_true_eq] at hk
    obtain ⟨⟨rfl, hname⟩, hrt⟩ := hk
    refine ⟨?_, m5, ⟨m6, m7⟩, hini, hpar, hl, hnh, fun q => (by cases q), fun q => (by rcases q with q | q <;> cases q), fun _ => ⟨mv_TS_of (of_decide_eq_true (show decide (lw_tbl[iw]? = some (Cond.instanceMethod y)) = true from m2)) rfl, hname, hrt⟩⟩
    rw [hw1, hnh]
    exact mv_TS_of (of_decide_eq_true (show decide (lw_tbl[cw]? = some (Cond.code y bs ml rt)) = true from m1)) rfl
  | 3, hk =>
    simp only [Bool.and_eq_true, decide_eq_true_eq] at hk
    obtain ⟨rfl, hcw⟩ := hk
    refine ⟨?_, m5, ⟨m6, m7⟩, hini, hpar, hl, hnh, fun q => (by cases q), fun _ => mv_TS_of (of_decide_eq_true (show decide (lw_tbl[iw]? = some (Cond.static y)) = true from m2)) rfl, fun q => by cases q⟩
    refine mv_TS_of hcw ?_
    rw [hw1, hnh]
    rfl
  | n + 4, hk => cases hk
theorem mv_mwk2 {own : String} {i a w : Nat} (h : mv_mw own i a w = true) (ha : a < 900) : lw_tbl[w]? = some (.methodLink own i (mv_mi a).2.1) ∨ ∃ hh, lw_tbl[w]? = some (.methodLinkNest own i (mv_mi a).2.1 hh) := by
  unfold mv_mw at h
  split at h
  · next o j y e =>
    simp only [Bool.and_eq_true, decide_eq_true_eq] at h
    obtain ⟨⟨rfl, rfl⟩, h3⟩ := h
    rw [if_pos ha] at h3
    rw [← h3]; exact Or.inl e
  · next o j y hh e =>
    simp only [Bool.and_eq_true, decide_eq_true_eq] at h
    obtain ⟨⟨⟨rfl, rfl⟩, -⟩, h3⟩ := h
    rw [← h3]; exact Or.inr ⟨hh, e⟩
  · cases h
section FRAME
variable {z : Nat} {kad : Nat → Nat} {dC : Nat → ClassId} {dI : Nat → Nat → Nat} {cA : Nat → ClassId} {wx : va_W} {L : Nat} {xs : Nat → Int32}
variable {p : Program} {l : Launch} {e : Env} {R : Room} {s : State} {m : MethodId} {args : Array Value} {below : List Frame} {meth : Method} {c : Code} {Q : State → Prop} {c0 s0 M : Nat}
variable {pc pc' nx a b w d : Nat} {ls ls' : mv_V} {st st' : List Value} {σ σ' : mv_S}
/-- room for a callee at depth d -/
def mv_room (d : Nat) (R : Room) : Prop := 21 + d ≤ R.frames ∧ 345 + 60 * d ≤ R.locals
theorem mv_catsum {b : Nat} {st : List Value} (h : b ≤ st.length) (h2 : ((st.take b).all (fun v => decide (v.category = 1))) = true) : (((st.take b).reverse).map (fun v => v.category)).sum = b := by
  have h3 : ∀ v ∈ (st.take b).reverse, v.category = 1 := fun v hv => of_decide_eq_true (List.all_eq_true.mp h2 v (List.mem_reverse.mp hv))
  have h4 : ((st.take b).reverse).map (fun v => v.category) = ((st.take b).reverse).map (fun _ => 1) := List.map_congr_left h3
  rw [h4, List.map_const', List.sum_replicate_nat]
  simp [h]
theorem mv_callk {kk : Nat} {M' : Nat} {as rest : List Value} (h : mv_call kk a b nx ls st σ = some (.inr (.inr (M', as, rest)))) : a < 900 ∧ M' = a ∧ as = (st.take b).reverse ∧ rest = st.drop b ∧ b ≤ st.length ∧ ((st.drop b).map (fun v => v.category)).sum ≤ 8 ∧ (kk = 0 ∨ mv_rcv as σ.2.1 a = true) ∧ (as.map (fun v => v.category)).sum = b := by
  unfold mv_call at h
  split at h
  · next ha =>
    split at h
    · next hg =>
      cases h
      exact ⟨ha, rfl, rfl, rfl, hg.1, hg.2.1, hg.2.2.2, mv_catsum hg.1 hg.2.2.1⟩
    · cases h
  · exfalso
    split at h
    all_goals first | (split at h <;> cases h) | cases h
theorem mv_stack (ad : Nat → Nat) (b : Nat) (st : List Value) : st.map (mv_cv ad) = (((st.take b).reverse).map (mv_cv ad)).reverse ++ (st.drop b).map (mv_cv ad) := by
  rw [List.map_reverse, List.reverse_reverse, ← List.map_append, List.take_append_drop]
/-- a call by a receiver -/
theorem mv_c_virt {i M' : Nat} {as rest : List Value} {r : mv_R} (hF : mv_Fx z kad dC dI cA L xs p R s m args meth c M) (hin : mv_in M pc = some (.invokevirtual i, nx, a, b, w)) (h : mv_call 1 a b nx ls st σ = some (.inr (.inr (M', as, rest))))
    (hCt : mv_Ct z kad dC dI cA wx L xs l d M' as σ r) (hr : mv_room d R) {H : Heap} {locs : List Loc} {cells slots : Nat} {lsA : Array Slot} (hM : mv_Mo z kad dC dI cA wx σ H) (hS : va_S (fun q => z ≤ q) s.heap H locs) (hl : lv_has lsA c.maxLocals (mv_lm (mv_ad z kad) ls))
    (hf : cells + (mv_cc r.2 - mv_cc σ) ≤ R.cells ∧ slots + (mv_ss r.2 - mv_ss σ) ≤ R.slots) :
    ∃ aa, vx_Run p l e R s m args below meth c H locs cells slots (mv_cc r.2 - mv_cc σ) (mv_ss r.2 - mv_ss σ) (F0 m pc lsA (st.map (mv_cv (mv_ad z kad)))) (rest.map (mv_cv (mv_ad z kad))) (mv_Qc z kad dC dI cA wx r aa) (mv_XC z kad dC dI cA wx r) (fun q => z ≤ q) := by
  obtain ⟨hok, hlen⟩ := mv_row hin
  have hcr := mv_row3 hin
  obtain ⟨hx, hb, hml, hown, hts, hE, -, hRf, hRl⟩ := id hF
  obtain ⟨ha, rfl, rfl, rfl, hbl, hcat, hrc, -⟩ := mv_callk h
  obtain ⟨hd, -⟩ := mv_dec (mv_okd hok) hlen (Nat.succ_ne_zero _)
  have hmw : mv_mw (mv_mi M).2.1.cls i M' w = true := by
    unfold mv_ok at hok
    simp only [Bool.and_eq_true] at hok
    exact hok.2
  simp only [mv_crow, Bool.or_eq_true, Bool.and_eq_true, Bool.not_eq_true', decide_eq_false_iff_not, decide_eq_true_eq] at hcr
  rcases hcr with hcr | ⟨⟨⟨h259, hci⟩, hb0⟩, hcn⟩
  · exact absurd ha hcr
  obtain ⟨p1, p2, p3, p4, p5, p6, p7, p8, -, -⟩ := mv_cok_p (mv_cok_at h259)
  rw [hci] at p5 p7 p8
  obtain ⟨p8, p9⟩ := p8 rfl
  have hw1 : mv_w1 M' = .code (mv_mi M').2.1 (mv_mi M').1 (mv_mi M').2.2.1 (mv_mi M').2.2.2.1 := by
    unfold mv_w1
    rw [if_pos (by rw [p7]; rfl)]
  rw [hw1] at p1
  -- the receiver
  have hrc : mv_rcv ((st.take b).reverse) σ.2.1 M' = true := by rcases hrc with h9 | h9; exact absurd h9 (by decide); exact h9
  generalize has : (st.take b).reverse = as at *
  unfold mv_rcv at hrc
  cases as with
  | nil => cases hrc
  | cons v As =>
    cases v <;> first | (simp at hrc; done) | skip
    rename_i o _
    obtain ⟨o, rfl⟩ : ∃ q : Nat, q = o := ⟨o, rfl⟩
    obtain ⟨ho, hk⟩ := mv_isk hrc
    have hcls : ∃ T N, mv_cls[mv_cn M']? = some ((mv_mi M').2.1.cls, T, N) := by
      have h1 := List.all_eq_true.mp mv_cn_ok M' (List.mem_range.mpr (by omega))
      simp only [Bool.or_eq_true, decide_eq_true_eq] at h1
      rcases h1 with h1 | h1
      · omega
      · cases h2 : mv_cls[mv_cn M']? with
        | none => rw [h2] at h1; cases h1
        | some q =>
          obtain ⟨C, T, N⟩ := q
          rw [h2] at h1
          cases h1
          exact ⟨T, N, rfl⟩
    obtain ⟨T, N, hcl⟩ := hcls
    have hn : o < 142 := Nat.lt_of_lt_of_le ho hM.2.2.1
    have hkd : mv_kd o = (mv_cn M', N) := by
      have h1 := mv_kN o hn (by rw [hk]; exact hcn)
      rw [hk, hcl] at h1
      exact Prod.ext hk (Option.some.inj h1).symm
    have he := mv_wl_get (ad := mv_ad z kad) (cA := cA) (wx := wx) (h := σ.2.2) ho
    rw [mv_ce_o hkd hcn] at he
    have hlenA : As.length = b - 1 := by
      have : (st.take b).reverse.length = b := by simp [hbl]
      rw [has] at this
      simp at this
      omega
    have hst : st.map (mv_cv (mv_ad z kad)) = (As.map (mv_cv (mv_ad z kad))).reverse ++ .ref (mv_ad z kad o) :: (st.drop b).map (mv_cv (mv_ad z kad)) := by
      rw [mv_stack (mv_ad z kad) b st, has]
      simp [mv_cv]
    have hpre : PreV s H (mv_mi M').2.1.cls (mv_ad z kad o) (mv_Pc z kad dC dI cA wx L xs (.ref o :: As) σ) (As.map (mv_cv (mv_ad z kad))) :=
      ⟨mv_blind, va_recv hE.1 hM.1 hcl he, fun U hU hW => ⟨rfl, mv_En_to hE hW hS hU, by rw [hU]; exact hM⟩⟩
    have hfix : CallFix p m c (mv_mi M).1 c.maxLocals s args mv_TS (mv_mi M).2.1.cls := ⟨hx, hb, rfl, hown, hts⟩
    have hws : ∀ w ∈ mv_ws M', ∀ (a' : Array Value) (U : State), s.WarmedH U.vm → w.before a' U = true := by
      intro w hw
      rcases List.mem_cons.mp hw with rfl | hw
      · rw [hw1]; exact mv_pay hts _ p1
      · exact mv_pay hts _ hw
    have hcin : Cond.code (mv_mi M').2.1 (mv_mi M').1 (mv_mi M').2.2.1 (mv_mi M').2.2.2.1 ∈ mv_ws M' := by
      unfold mv_ws; rw [hw1]; exact List.mem_cons_self
    have hroom9 := lv_room (m := m) (pc := pc) (ls := lsA) (rest := st.map (mv_cv (mv_ad z kad))) (st := (st.drop b).map (mv_cv (mv_ad z kad))) (by rw [mv_cat]; exact hcat)
    rcases mv_mwk2 hmw ha with hw | ⟨hh, hw⟩
    · exact ⟨_, vx_runV (As := As.map (mv_cv (mv_ad z kad))) (b := mv_ad z kad o) hfix hCt ⟨⟨rfl, rfl, by show 20 + d + 1 ≤ _; have := hr.1; omega, by show 8 + (_ + 11) + (300 + 60 * d) ≤ _; have := hr.2; omega, hws, hcin, hts _ p1, hts _ p4, p3, p5, hts _ (mv_TS_of hw rfl)⟩, hts _ p8, hts _ p9⟩ hpre rfl (by rw [List.length_map]; exact hlenA) hl.1 hst hroom9 hd hf⟩
    · exact ⟨_, vx_runVN (As := As.map (mv_cv (mv_ad z kad))) (b := mv_ad z kad o) (host := hh) hfix hCt ⟨⟨⟨rfl, rfl, by show 20 + d + 1 ≤ _; have := hr.1; omega, by show 8 + (_ + 11) + (300 + 60 * d) ≤ _; have := hr.2; omega, hws, hcin⟩, hts _ p1, hts _ p4, p3, p5, va_Nw.use rfl (mv_EnN hE hw rfl)⟩, hts _ p8, hts _ p9⟩ hpre rfl (by rw [List.length_map]; exact hlenA) hl.1 hst hroom9 hd hf⟩
/-- a static call -/
theorem mv_c_stat {i M' : Nat} {as rest : List Value} {r : mv_R} (hF : mv_Fx z kad dC dI cA L xs p R s m args meth c M) (hin : mv_in M pc = some (.invokestatic i, nx, a, b, w)) (h : mv_call 0 a b nx ls st σ = some (.inr (.inr (M', as, rest))))
    (hCt : mv_Ct z kad dC dI cA wx L xs l d M' as σ r) (hr : mv_room d R) {H : Heap} {locs : List Loc} {cells slots : Nat} {lsA : Array Slot} (hM : mv_Mo z kad dC dI cA wx σ H) (hS : va_S (fun q => z ≤ q) s.heap H locs) (hl : lv_has lsA c.maxLocals (mv_lm (mv_ad z kad) ls))
    (hf : cells + (mv_cc r.2 - mv_cc σ) ≤ R.cells ∧ slots + (mv_ss r.2 - mv_ss σ) ≤ R.slots) :
    ∃ aa, vx_Run p l e R s m args below meth c H locs cells slots (mv_cc r.2 - mv_cc σ) (mv_ss r.2 - mv_ss σ) (F0 m pc lsA (st.map (mv_cv (mv_ad z kad)))) (rest.map (mv_cv (mv_ad z kad))) (mv_Qc z kad dC dI cA wx r aa) (mv_XC z kad dC dI cA wx r) (fun q => z ≤ q) := by
  obtain ⟨hok, hlen⟩ := mv_row hin
  have hcr := mv_row3 hin
  obtain ⟨hx, hb, hml, hown, hts, hE, -, hRf, hRl⟩ := id hF
  obtain ⟨ha, rfl, rfl, rfl, hbl, hcat, -, -⟩ := mv_callk h
  obtain ⟨hd, -⟩ := mv_dec (mv_okd hok) hlen (Nat.succ_ne_zero _)
  have hmw : mv_mw (mv_mi M).2.1.cls i M' w = true := by
    unfold mv_ok at hok
    simp only [Bool.and_eq_true] at hok
    exact hok.2
  simp only [mv_crow, Bool.or_eq_true, Bool.and_eq_true, Bool.not_eq_true', decide_eq_false_iff_not, decide_eq_true_eq] at hcr
  rcases hcr with hcr | ⟨h259, hci9⟩
  · exact absurd ha hcr
  have hci : mv_cif M' = (b, 1) ∨ mv_cif M' = (b, 3) := hci9.imp id (fun q => q.1)
  obtain ⟨p1, p2, p3, p4, p5, p6, p7, -, p8, -⟩ := mv_cok_p (mv_cok_at h259)
  have hkk : (mv_cif M').2 = 1 ∨ (mv_cif M').2 = 3 := by rcases hci with q | q <;> rw [q]; exact Or.inl rfl; exact Or.inr rfl
  have hnp : (mv_cif M').1 = b := by rcases hci with q | q <;> rw [q]
  have p8 := p8 hkk
  rw [hnp] at p5
  have hlenA : (((st.take b).reverse).map (mv_cv (mv_ad z kad))).length = b := by simp [hbl]
  have hpre : PreS s H (mv_Pc z kad dC dI cA wx L xs ((st.take b).reverse) σ) (((st.take b).reverse).map (mv_cv (mv_ad z kad))) :=
    ⟨mv_blind, fun U hU hW => ⟨rfl, mv_En_to hE hW hS hU, by rw [hU]; exact hM⟩⟩
  have hfix : CallFix p m c (mv_mi M).1 c.maxLocals s args mv_TS (mv_mi M).2.1.cls := ⟨hx, hb, rfl, hown, hts⟩
  have hws : ∀ w ∈ mv_ws M', ∀ (a' : Array Value) (U : State), s.WarmedH U.vm → w.before a' U = true := by
    intro w hw
    rcases List.mem_cons.mp hw with rfl | hw
    · exact mv_pay hts _ p1
    · exact mv_pay hts _ hw
  have hroom9 := lv_room (m := m) (pc := pc) (ls := lsA) (rest := st.map (mv_cv (mv_ad z kad))) (st := (st.drop b).map (mv_cv (mv_ad z kad))) (by rw [mv_cat]; exact hcat)
  have hst := mv_stack (mv_ad z kad) b st
  rcases hkk with hkk | hkk
  · have hw1 : mv_w1 M' = .code (mv_mi M').2.1 (mv_mi M').1 (mv_mi M').2.2.1 (mv_mi M').2.2.2.1 := by
      unfold mv_w1
      rw [if_pos (by rw [p7, hkk]; rfl)]
    have hcin : Cond.code (mv_mi M').2.1 (mv_mi M').1 (mv_mi M').2.2.1 (mv_mi M').2.2.2.1 ∈ mv_ws M' := by
      unfold mv_ws; rw [hw1]; exact List.mem_cons_self
    rw [hw1] at p1
    rcases mv_mwk2 hmw ha with hw | ⟨hh, hw⟩
    · exact ⟨_, vx_runS (As := ((st.take b).reverse).map (mv_cv (mv_ad z kad))) hfix hCt ⟨⟨rfl, rfl, by show 20 + d + 1 ≤ _; have := hr.1; omega, by show 8 + (_ + 11) + (300 + 60 * d) ≤ _; have := hr.2; omega, hws, hcin, hts _ p1, hts _ p4, p3, p5, hts _ (mv_TS_of hw rfl)⟩, hts _ p8⟩ hpre rfl hlenA hl.1 hst hroom9 hd hf⟩
    · exact ⟨_, vx_runSN (As := ((st.take b).reverse).map (mv_cv (mv_ad z kad))) (host := hh) hfix hCt ⟨⟨⟨rfl, rfl, by show 20 + d + 1 ≤ _; have := hr.1; omega, by show 8 + (_ + 11) + (300 + 60 * d) ≤ _; have := hr.2; omega, hws, hcin⟩, hts _ p1, hts _ p4, p3, p5, va_Nw.use rfl (mv_EnN hE hw rfl)⟩, hts _ p8, trivial⟩ hpre rfl hlenA hl.1 hst hroom9 hd hf⟩
  · have hw1 : mv_w1 M' = .codeWith (mv_mi M').2.1 (mv_mi M').1 (mv_mi M').2.2.1 (mv_mi M').2.2.2.1 (mv_hh M') := by
      unfold mv_w1
      rw [if_neg (by rw [p7, hkk]; decide)]
    have hcin : Cond.codeWith (mv_mi M').2.1 (mv_mi M').1 (mv_mi M').2.2.1 (mv_mi M').2.2.2.1 (mv_hh M') ∈ mv_ws M' := by
      unfold mv_ws; rw [hw1]; exact List.mem_cons_self
    rw [hw1] at p1
    rcases mv_mwk2 hmw ha with hw | ⟨hh, hw⟩
    · exact ⟨_, vx_runSX (As := ((st.take b).reverse).map (mv_cv (mv_ad z kad))) hfix hCt ⟨⟨rfl, rfl, by show 20 + d + 1 ≤ _; have := hr.1; omega, by show 8 + (_ + 11) + (300 + 60 * d) ≤ _; have := hr.2; omega, hws, hcin⟩, hts _ p1, hts _ p4, p3, p5, hts _ (mv_TS_of hw rfl), hts _ p8⟩ hpre rfl hlenA hl.1 hst hroom9 hd hf⟩
    · rcases hci9 with q | q
      · rw [q] at hkk; cases hkk
      · rw [hw] at q; cases q.2
/-- a constructor -/
theorem mv_c_spec {i M' : Nat} {as rest : List Value} {r : mv_R} (hF : mv_Fx z kad dC dI cA L xs p R s m args meth c M) (hin : mv_in M pc = some (.invokespecial i, nx, a, b, w)) (h : mv_call 2 a b nx ls st σ = some (.inr (.inr (M', as, rest))))
    (hCt : mv_Ct z kad dC dI cA wx L xs l d M' as σ r) (hr : mv_room d R) {H : Heap} {locs : List Loc} {cells slots : Nat} {lsA : Array Slot} (hM : mv_Mo z kad dC dI cA wx σ H) (hS : va_S (fun q => z ≤ q) s.heap H locs) (hl : lv_has lsA c.maxLocals (mv_lm (mv_ad z kad) ls))
    (hf : cells + (mv_cc r.2 - mv_cc σ) ≤ R.cells ∧ slots + (mv_ss r.2 - mv_ss σ) ≤ R.slots) :
    ∃ aa, vx_Run p l e R s m args below meth c H locs cells slots (mv_cc r.2 - mv_cc σ) (mv_ss r.2 - mv_ss σ) (F0 m pc lsA (st.map (mv_cv (mv_ad z kad)))) (rest.map (mv_cv (mv_ad z kad))) (mv_Qc z kad dC dI cA wx r aa) (mv_XC z kad dC dI cA wx r) (fun q => z ≤ q) := by
  obtain ⟨hok, hlen⟩ := mv_row hin
  have hcr := mv_row3 hin
  obtain ⟨hx, hb, hml, hown, hts, hE, -, hRf, hRl⟩ := id hF
  obtain ⟨ha, rfl, has, rfl, hbl, hcat, hrc, -⟩ := mv_callk h
  obtain ⟨hd, -⟩ := mv_dec (mv_okd hok) hlen (Nat.succ_ne_zero _)
  have hr1 : ∃ o As, as = .ref o :: As := by
    rcases hrc with h9 | h9
    · exact absurd h9 (by decide)
    · unfold mv_rcv at h9
      cases as with
      | nil => cases h9
      | cons v As => cases v <;> first | exact ⟨_, _, rfl⟩ | (simp at h9; done)
  obtain ⟨o, As, rfl⟩ := hr1
  have hmw : mv_mw (mv_mi M).2.1.cls i M' w = true := by
    unfold mv_ok at hok
    simp only [Bool.and_eq_true, Bool.or_eq_true] at hok
    rcases hok.2 with h0 | h0
    · have := of_decide_eq_true h0; omega
    · exact h0
  simp only [mv_crow, Bool.or_eq_true, Bool.and_eq_true, Bool.not_eq_true', decide_eq_false_iff_not, decide_eq_true_eq] at hcr
  rcases hcr with hcr | ⟨⟨h259, hci⟩, hb0⟩
  · exact absurd ha hcr
  obtain ⟨p1, p2, p3, p4, p5, p6, p7, -, -, p8⟩ := mv_cok_p (mv_cok_at h259)
  rw [hci] at p5 p7 p8
  obtain ⟨p8, p9, p10⟩ := p8 rfl
  have hw1 : mv_w1 M' = .code (mv_mi M').2.1 (mv_mi M').1 (mv_mi M').2.2.1 none := by
    unfold mv_w1
    rw [if_pos (by rw [p7]; rfl), p10]
  have hcin : Cond.code (mv_mi M').2.1 (mv_mi M').1 (mv_mi M').2.2.1 none ∈ mv_ws M' := by
    unfold mv_ws; rw [hw1]; exact List.mem_cons_self
  rw [hw1] at p1
  have hlenA : As.length = b - 1 := by
    have : (st.take b).reverse.length = b := by simp [hbl]
    rw [← has] at this
    simp at this
    omega
  have hst : st.map (mv_cv (mv_ad z kad)) = (As.map (mv_cv (mv_ad z kad))).reverse ++ .ref (mv_ad z kad o) :: (st.drop b).map (mv_cv (mv_ad z kad)) := by
    rw [mv_stack (mv_ad z kad) b st, ← has]
    simp [mv_cv]
  have hpre : PreS s H (mv_Pc z kad dC dI cA wx L xs (.ref o :: As) σ) (.ref (mv_ad z kad o) :: As.map (mv_cv (mv_ad z kad))) :=
    ⟨mv_blind, fun U hU hW => ⟨rfl, mv_En_to hE hW hS hU, by rw [hU]; exact hM⟩⟩
  have hfix : CallFix p m c (mv_mi M).1 c.maxLocals s args mv_TS (mv_mi M).2.1.cls := ⟨hx, hb, rfl, hown, hts⟩
  have hws : ∀ w ∈ mv_ws M', ∀ (a' : Array Value) (U : State), s.WarmedH U.vm → w.before a' U = true := by
    intro w hw
    rcases List.mem_cons.mp hw with rfl | hw
    · rw [hw1]; exact mv_pay hts _ p1
    · exact mv_pay hts _ hw
  have hroom9 := lv_room (m := m) (pc := pc) (ls := lsA) (rest := st.map (mv_cv (mv_ad z kad))) (st := (st.drop b).map (mv_cv (mv_ad z kad))) (by rw [mv_cat]; exact hcat)
  rcases mv_mwk2 hmw ha with hw | ⟨hh, hw⟩
  · exact ⟨_, vx_runI (As := As.map (mv_cv (mv_ad z kad))) (b := mv_ad z kad o) hfix hCt ⟨⟨rfl, rfl, by show 20 + d + 1 ≤ _; have := hr.1; omega, by show 8 + (_ + 11) + (300 + 60 * d) ≤ _; have := hr.2; omega, hws, hcin, hts _ p1, hts _ p4, p3, p5, hts _ (mv_TS_of hw rfl)⟩, p9, hts _ p8⟩ hpre rfl (by rw [List.length_map]; exact hlenA) hl.1 hst hroom9 hd hf⟩
  · exact ⟨_, vx_runIN (As := As.map (mv_cv (mv_ad z kad))) (b := mv_ad z kad o) (host := hh) hfix hCt ⟨⟨⟨rfl, rfl, by show 20 + d + 1 ≤ _; have := hr.1; omega, by show 8 + (_ + 11) + (300 + 60 * d) ≤ _; have := hr.2; omega, hws, hcin⟩, hts _ p1, hts _ p4, p3, p5, va_Nw.use rfl (mv_EnN hE hw rfl)⟩, p9, hts _ p8⟩ hpre rfl (by rw [List.length_map]; exact hlenA) hl.1 hst hroom9 hd hf⟩
end FRAME
end
section
/-! HOW EACH METHOD RETURNS; THE TABLES OF HANDLERS -/
def mv_rck (j : mv_J) (q : Nat × mv_I) : Bool := match q.2 with
  | (.ireturn, _, a, _, _) => decide (j.2.2.2.1 = some (if a = 0 then .int else if a = 1 then .boolean else .char))
  | (.lreturn, _) => decide (j.2.2.2.1 = some .long)
  | (.freturn, _) => decide (j.2.2.2.1 = some .float)
  | (.dreturn, _) => decide (j.2.2.2.1 = some .double)
  | (.areturn, _) => (match j.2.2.2.1 with | some (.object _) => true | _ => false)
  | (.return_, _) => decide (j.2.2.2.1 = none)
  | _ => true
def mv_allR : List (List (Nat × mv_I)) → List mv_J → Prop
  | t :: ts, j :: js => t.all (mv_rck j) = true ∧ mv_allR ts js
  | [], [] => True
  | _, _ => False
theorem mv_allR_app : ∀ {a : List (List (Nat × mv_I))} {b : List mv_J} {c : List (List (Nat × mv_I))} {d : List mv_J}, mv_allR a b → mv_allR c d → mv_allR (a ++ c) (b ++ d)
  | [], [], _, _, _, h => h
  | [], _ :: _, _, _, h, _ => h.elim
  | _ :: _, [], _, _, h, _ => h.elim
  | _ :: _, _ :: _, _, _, h, h' => ⟨h.1, mv_allR_app h.2 h'⟩
theorem mv_allR_0 : mv_allR mv_tb0 mv_ms0 := ⟨(by decide +kernel), ⟨(by decide +kernel), ⟨(by decide +kernel), ⟨(by decide +kernel), ⟨(by decide +kernel), ⟨(by decide +kernel), ⟨(by decide +kernel), ⟨(by decide +kernel), ⟨(by decide +kernel), ⟨(by decide +kernel), ⟨(by decide +kernel), ⟨(by decide +kernel), ⟨(by decide +kernel), ⟨(by decide +kernel), ⟨(by decide +kernel), ⟨(by decide +kernel), ⟨(by decide +kernel), ⟨(by decide +kernel), ⟨(by decide +kernel), ⟨(by decide +kernel), ⟨(by decide +kernel), ⟨(by decide +kernel), ⟨(by decide +kernel), ⟨(by decide +kernel), ⟨(by decide +kernel), ⟨(by decide +kernel), ⟨(by decide +kernel), ⟨(by decide +kernel), ⟨(by decide +kernel), ⟨(by decide +kernel), ⟨(by decide +kernel), ⟨(by decide +kernel), ⟨(by decide +kernel), ⟨(by decide +kernel), ⟨(by decide +kernel), ⟨(by decide +kernel), ⟨(by decide +kernel), ⟨(by decide +kernel), ⟨(by decide +kernel), ⟨(by decide +kernel), trivial⟩⟩⟩⟩⟩⟩⟩⟩⟩⟩⟩⟩⟩⟩⟩⟩⟩⟩⟩⟩⟩⟩⟩⟩⟩⟩⟩⟩⟩⟩⟩⟩⟩⟩⟩⟩⟩⟩⟩⟩
theorem mv_allR_1 : mv_allR mv_tb1 mv_ms1 := ⟨(by decide +kernel), ⟨(by decide +kernel), ⟨(by decide +kernel), ⟨(by decide +kernel), ⟨(by decide +kernel), ⟨(by decide +kernel), ⟨(by decide +kernel), ⟨(by decide +kernel), ⟨(by decide +kernel), ⟨(by decide +kernel), ⟨(by decide +kernel), ⟨(by decide +kernel), ⟨(by decide +kernel), ⟨(by decide +kernel), ⟨(by decide +kernel), ⟨(by decide +kernel), ⟨(by decide +kernel), ⟨(by decide +kernel), ⟨(by decide +kernel), ⟨(by decide +kernel), ⟨(by decide +kernel), ⟨(by decide +kernel), ⟨(by decide +kernel), ⟨(by decide +kernel), ⟨(by decide +kernel), ⟨(by decide +kernel), ⟨(by decide +kernel), ⟨(by decide +kernel), ⟨(by decide +kernel), ⟨(by decide +kernel), ⟨(by decide +kernel), ⟨(by decide +kernel), ⟨(by decide +kernel), ⟨(by decide +kernel), ⟨(by decide +kernel), ⟨(by decide +kernel), ⟨(by decide +kernel), ⟨(by decide +kernel), ⟨(by decide +kernel), ⟨(by decide +kernel), trivial⟩⟩⟩⟩⟩⟩⟩⟩⟩⟩⟩⟩⟩⟩⟩⟩⟩⟩⟩⟩⟩⟩⟩⟩⟩⟩⟩⟩⟩⟩⟩⟩⟩⟩⟩⟩⟩⟩⟩⟩
theorem mv_allR_2 : mv_allR mv_tb2 mv_ms2 := ⟨(by decide +kernel), ⟨(by decide +kernel), ⟨(by decide +kernel), ⟨(by decide +kernel), ⟨(by decide +kernel), ⟨(by decide +kernel), ⟨(by decide +kernel), ⟨(by decide +kernel), ⟨(by decide +kernel), ⟨(by decide +kernel), ⟨(by decide +kernel), ⟨(by decide +kernel), ⟨(by decide +kernel), ⟨(by decide +kernel), ⟨(by decide +kernel), ⟨(by decide +kernel), ⟨(by decide +kernel), ⟨(by decide +kernel), ⟨(by decide +kernel), ⟨(by decide +kernel), ⟨(by decide +kernel), ⟨(by decide +kernel), ⟨(by decide +kernel), ⟨(by decide +kernel), ⟨(by decide +kernel), ⟨(by decide +kernel), ⟨(by decide +kernel), ⟨(by decide +kernel), ⟨(by decide +kernel), ⟨(by decide +kernel), ⟨(by decide +kernel), ⟨(by decide +kernel), ⟨(by decide +kernel), ⟨(by decide +kernel), ⟨(by decide +kernel), ⟨(by decide +kernel), ⟨(by decide +kernel), ⟨(by decide +kernel), ⟨(by decide +kernel), ⟨(by decide +kernel), trivial⟩⟩⟩⟩⟩⟩⟩⟩⟩⟩⟩⟩⟩⟩⟩⟩⟩⟩⟩⟩⟩⟩⟩⟩⟩⟩⟩⟩⟩⟩⟩⟩⟩⟩⟩⟩⟩⟩⟩⟩
theorem mv_allR_3 : mv_allR mv_tb3 mv_ms3 := ⟨(by decide +kernel), ⟨(by decide +kernel), ⟨(by decide +kernel), ⟨(by decide +kernel), ⟨(by decide +kernel), ⟨(by decide +kernel), trivial⟩⟩⟩⟩⟩⟩
theorem mv_allRs : mv_allR mv_tbs mv_ms := mv_allR_app mv_allR_0 (mv_allR_app mv_allR_1 (mv_allR_app mv_allR_2 (mv_allR_3)))
theorem mv_allR_at : ∀ {a : List (List (Nat × mv_I))} {b : List mv_J} {M : Nat} {t : List (Nat × mv_I)}, mv_allR a b → a[M]? = some t → ∃ j, b[M]? = some j ∧ t.all (mv_rck j) = true
  | [], [], _, _, _, h => by simp at h
  | [], _ :: _, _, _, h, _ => h.elim
  | _ :: _, [], _, _, h, _ => h.elim
  | _ :: _, j :: _, 0, _, h, h2 => by
    simp only [List.getElem?_cons_zero, Option.some.injEq] at h2
    subst h2
    exact ⟨j, rfl, h.1⟩
  | _ :: _, _ :: _, M + 1, _, h, h2 => by
    simp only [List.getElem?_cons_succ] at h2 ⊢
    exact mv_allR_at h.2 h2
theorem mv_row4 {M pc : Nat} {r : mv_I} (h : mv_in M pc = some r) : mv_rck (mv_mi M) (pc, r) = true := by
  unfold mv_in mv_tb at h
  have hm := mv_find_mem h
  cases ht : mv_tbs[M]? with
  | none => rw [List.getD_eq_getElem?_getD, ht] at hm; simp at hm
  | some t =>
    obtain ⟨j, hj, h1⟩ := mv_allR_at mv_allRs ht
    rw [List.getD_eq_getElem?_getD, ht] at hm
    have e : mv_mi M = j := by unfold mv_mi; rw [List.getD_eq_getElem?_getD, hj]; rfl
    rw [e]
    exact List.all_eq_true.mp h1 _ hm
theorem mv_hs_ok : (mv_hs.all (fun kh => decide ((mv_mi kh.1).2.1.cls = "SluiceChainLaw") && kh.2.all (fun q => match q with | (_, _, _, ct, e, w) => decide (mv_e6 e = true) && !decide (ct = 0) && decide (lw_tbl[w]? = some (.classLink "SluiceChainLaw" ct (mv_ec e)))))) = true := by decide +kernel
theorem mv_castw : ∀ k, mv_e6 k = true → lw_tbl.elem (Cond.castable (mv_ec k) (mv_ec k)) = true := fun k hk => (by decide +kernel : ∀ k, k < 6 → mv_e6 k = true → lw_tbl.elem (Cond.castable (mv_ec k) (mv_ec k)) = true) k (mv_e6_lt hk) hk
theorem mv_hl_mem : ∀ {l : List (Nat × List (Nat × Nat × Nat × Nat × Nat × Nat))} {M : Nat}, mv_hl M l ≠ [] → (M, mv_hl M l) ∈ l
  | [], _, h => absurd rfl h
  | (k, hh) :: l, M, h => by
    unfold mv_hl at h ⊢
    split
    · next e => subst e; exact List.mem_cons_self
    · next e => rw [if_neg e] at h; exact List.mem_cons_of_mem _ (mv_hl_mem h)
theorem mv_hd1_split : ∀ {l : List (Nat × Nat × Nat × Nat × Nat × Nat)} {pc E g : Nat}, mv_hd1 pc E l = some g → ∃ pre x suf, l = pre ++ x :: suf ∧ x.2.2.1 = g ∧ x.1 ≤ pc ∧ pc < x.2.1 ∧ x.2.2.2.2.1 = E ∧ ∀ y ∈ pre, ¬ (y.1 ≤ pc ∧ pc < y.2.1 ∧ y.2.2.2.2.1 = E)
  | [], _, _, _, h => by cases h
  | (f, t, g', ct, e, w) :: l, pc, E, g, h => by
    unfold mv_hd1 at h
    split at h
    · next hc =>
      cases h
      exact ⟨[], _, l, rfl, rfl, hc.1, hc.2.1, hc.2.2, fun y hy => by cases hy⟩
    · next hc =>
      obtain ⟨pre, x, suf, h1, h2, h3, h4, h5, h6⟩ := mv_hd1_split h
      refine ⟨(f, t, g', ct, e, w) :: pre, x, suf, by rw [h1]; rfl, h2, h3, h4, h5, fun y hy => ?_⟩
      rcases List.mem_cons.mp hy with rfl | hy
      · exact hc
      · exact h6 y hy
end
section
/-! A RUN OF THE SMALL MACHINE IS A RUN OF THE JVM -/
section RUN
variable {z : Nat} {kad : Nat → Nat} {dC : Nat → ClassId} {dI : Nat → Nat → Nat} {cA : Nat → ClassId} {wx : va_W} {L : Nat} {xs : Nat → Int32}
variable {p : Program} {l : Launch} {e : Env} {R : Room} {s : State} {m : MethodId} {args : Array Value} {below : List Frame} {meth : Method} {c : Code} {Q : State → Prop} {c0 s0 M : Nat}
theorem mv_sl_mono : ∀ {n k : Nat}, n ≤ k → mv_sl n ≤ mv_sl k := by
  intro n k h
  induction k with
  | zero => rw [Nat.le_zero.mp h]; exact Nat.le_refl _
  | succ k ih =>
    rcases Nat.lt_or_ge n (k + 1) with q | q
    · exact Nat.le_trans (ih (Nat.le_of_lt_succ q)) (Nat.le_add_right _ _)
    · rw [show n = k + 1 by omega]; exact Nat.le_refl _
/-- what is made only grows -/
def mv_le (σ τ : mv_S) : Prop := σ.1 ≤ τ.1 ∧ σ.2.1 ≤ τ.2.1
theorem mv_le_rf (σ : mv_S) : mv_le σ σ := ⟨Nat.le_refl _, Nat.le_refl _⟩
theorem mv_le_tr {σ τ υ : mv_S} (h : mv_le σ τ) (h2 : mv_le τ υ) : mv_le σ υ := ⟨Nat.le_trans h.1 h2.1, Nat.le_trans h.2 h2.2⟩
theorem mv_le_c {σ τ : mv_S} (h : mv_le σ τ) : mv_cc σ ≤ mv_cc τ ∧ mv_ss σ ≤ mv_ss τ := by
  have := mv_sl_mono h.2
  have := h.1
  have := h.2
  unfold mv_cc mv_ss
  omega
set_option maxHeartbeats 8000000 in
/-- how a frame ends -/
theorem mv_fin_inv {r : mv_I} {ls : mv_V} {st : List Value} {σ : mv_S} {q : mv_R} (h : mv_stp L xs r ls st σ = some (.inr (.inl q))) :
    (∃ v, q = (.inl v, σ)) ∨ ∃ i nx k w, r = (.new i, nx, 99, k, w) ∧ σ.2.1 = 142 ∧ (st.map (fun v => v.category)).sum ≤ 8 ∧ q = (.inr k, (σ.1 + 1, σ.2)) := by
  obtain ⟨i, nx, a, b, w⟩ := r
  simp only [mv_stp] at h
  split at h
  all_goals (try unfold mv_ld at h) <;> (try unfold mv_so at h) <;> (try unfold mv_get at h) <;> (try unfold mv_put at h) <;> (try unfold mv_aa at h) <;> (try unfold mv_al at h) <;> (try unfold mv_as at h) <;> (try unfold mv_aas at h) <;> (try unfold mv_len at h) <;> (try unfold mv_new at h) <;> (try unfold mv_nwa at h) <;> (try unfold mv_sw2 at h) <;> (try unfold mv_call at h) <;> (try unfold mv_r1 at h) <;> (try unfold mv_rt at h) <;> (try unfold mv_nx at h)
  all_goals repeat' split at h
  all_goals first
    | (cases h; done)
    | (cases h; exact Or.inl ⟨_, rfl⟩)
    | (next h99 hg => subst h99; cases h; exact Or.inr ⟨_, _, _, _, rfl, hg.1, hg.2, rfl⟩)
set_option maxHeartbeats 8000000 in
theorem mv_call_inv {r : mv_I} {ls : mv_V} {st as rest : List Value} {σ : mv_S} {M' : Nat} (h : mv_stp L xs r ls st σ = some (.inr (.inr (M', as, rest)))) :
    ∃ i nx a b w, (r = (.invokevirtual i, nx, a, b, w) ∧ mv_call 1 a b nx ls st σ = some (.inr (.inr (M', as, rest)))) ∨ (r = (.invokestatic i, nx, a, b, w) ∧ mv_call 0 a b nx ls st σ = some (.inr (.inr (M', as, rest)))) ∨ (r = (.invokespecial i, nx, a, b, w) ∧ mv_call 2 a b nx ls st σ = some (.inr (.inr (M', as, rest)))) := by
  obtain ⟨i, nx, a, b, w⟩ := r
  simp only [mv_stp] at h
  split at h
  all_goals first
    | exact ⟨_, _, _, _, _, Or.inl ⟨rfl, h⟩⟩
    | exact ⟨_, _, _, _, _, Or.inr (Or.inl ⟨rfl, h⟩)⟩
    | exact ⟨_, _, _, _, _, Or.inr (Or.inr ⟨rfl, h⟩)⟩
    | skip
  all_goals exfalso
  all_goals (try unfold mv_ld at h) <;> (try unfold mv_so at h) <;> (try unfold mv_get at h) <;> (try unfold mv_put at h) <;> (try unfold mv_aa at h) <;> (try unfold mv_al at h) <;> (try unfold mv_as at h) <;> (try unfold mv_aas at h) <;> (try unfold mv_len at h) <;> (try unfold mv_new at h) <;> (try unfold mv_nwa at h) <;> (try unfold mv_sw2 at h) <;> (try unfold mv_r1 at h) <;> (try unfold mv_rt at h) <;> (try unfold mv_nx at h)
  all_goals repeat' split at h
  all_goals cases h
theorem mv_ex_mono {C : Nat → List Value → mv_S → Option mv_R} (hCm : ∀ M' as σ r, C M' as σ = some r → mv_le σ r.2) {res : mv_R} : ∀ (f pc : Nat) (ls : mv_V) (st : List Value) (σ : mv_S), mv_ex L xs C f M pc ls st σ = some res → mv_le σ res.2 := by
  intro f
  induction f with
  | zero => intro pc ls st σ h; cases h
  | succ f ih =>
    intro pc ls st σ h
    unfold mv_ex at h
    split at h
    · cases h
    · next r hr =>
      split at h
      · cases h
      · next pc' ls' st' σ' hs => exact mv_le_tr (mv_stp_mono hs) (ih _ _ _ _ h)
      · next q hs =>
        cases h
        rcases mv_fin_inv hs with ⟨v, rfl⟩ | ⟨i, nx, k, w, -, -, -, rfl⟩
        · exact mv_le_rf σ
        · exact ⟨Nat.le_succ _, Nat.le_refl _⟩
      · next M' as rest hs =>
        cases hc : C M' as σ with
        | none => rw [hc] at h; cases h
        | some q =>
          obtain ⟨q1, σ'⟩ := q
          have h1 := hCm _ _ _ _ hc
          rw [hc] at h
          cases q1 with
          | inl v => exact mv_le_tr h1 (ih _ _ _ _ h)
          | inr E =>
            simp only [mv_af] at h
            split at h
            · cases h; exact h1
            · split at h
              · exact mv_le_tr h1 (ih _ _ _ _ h)
              · cases h
end RUN
end
section
/-! THE FRAME THEOREM -/
section FR
variable {z : Nat} {kad : Nat → Nat} {dC : Nat → ClassId} {dI : Nat → Nat → Nat} {cA : Nat → ClassId} {wx : va_W} {L : Nat} {xs : Nat → Int32}
variable {p : Program} {l : Launch} {e : Env} {R : Room} {s : State} {m : MethodId} {args : Array Value} {below : List Frame} {meth : Method} {c : Code} {Q : State → Prop} {c0 s0 M d : Nat}
theorem mv_tl (ad : Nat → Nat) (v : Option Value) (rest : List Value) : (v.toList ++ rest).map (mv_cv ad) = (v.map (mv_cv ad)).toList ++ rest.map (mv_cv ad) := by cases v <;> rfl
/-- a caught throw: behind the store of the thrown thing -/
theorem mv_caught {k pc g i : Nat} {ls : mv_V} {σ : mv_S} (hF : mv_Fx z kad dC dI cA L xs p R s m args meth c M) (htab : mv_nh M = false → c.exceptionTable.toList = tableOf (mv_hh M)) (hnh : ¬ mv_nh M = true) (hk6 : mv_e6 k = true) (hg : mv_hd M pc k = some (g, i))
    (kk : mv_W z kad dC dI cA wx p l e R s m args below meth c Q c0 s0 g (mv_f1 i ls) [] σ)
    {H : Heap} {locs : List Loc} {cells slots : Nat} {lsA : Array Slot} {q : Addr} {ce : Cell} {rest : List Value} (hM : mv_Mo z kad dC dI cA wx σ H) (hS : va_S (fun q => z ≤ q) s.heap H locs) (hl : lv_has lsA c.maxLocals (mv_lm (mv_ad z kad) ls)) (hc : cells + c0 = mv_cc σ) (hs : slots + s0 = mv_ss σ)
    (hcell : H[q]? = some ce) (hv : ce.vm = .none) (hcl : s.vm.findClass (mv_ec k) = some ce.cls) : vx_W p l e R s m args below meth c H locs cells slots Q (F0 m pc lsA rest) q := by
  obtain ⟨hx, hb, hml, hown, hts, hE, -, hRf, hRl⟩ := id hF
  have hnf : mv_nh M = false := by cases h : mv_nh M; rfl; exact absurd h hnh
  have htab := htab hnf
  have hne : mv_hl M mv_hs ≠ [] := by
    intro h
    unfold mv_nh at hnf
    rw [h] at hnf; cases hnf
  have hok := List.all_eq_true.mp mv_hs_ok _ (mv_hl_mem hne)
  simp only [Bool.and_eq_true, decide_eq_true_eq] at hok
  obtain ⟨hcls, hrows⟩ := hok
  rw [hcls] at hown
  unfold mv_hd at hg
  split at hg
  · cases hg
  · next g9 hg9 =>
    obtain ⟨pre, x, suf, h1, h2, h3, h4, h5, h6⟩ := mv_hd1_split hg9
    obtain ⟨xf, xt, xg, xc, xe, xw⟩ := x
    have hx9 := List.all_eq_true.mp hrows (xf, xt, xg, xc, xe, xw) (by rw [h1]; simp)
    simp only [Bool.and_eq_true, decide_eq_true_eq, Bool.not_eq_true', decide_eq_false_iff_not] at hx9
    obtain ⟨⟨-, hct⟩, hcw⟩ := hx9
    have h5 : xe = k := h5
    have h2 : xg = g9 := h2
    subst h5; subst h2
    have hsplit : c.exceptionTable.toList = (tableOf (pre.map (fun q => (q.1, q.2.1, q.2.2.1, q.2.2.2.1)))) ++ ⟨xf, xt, xg, xc⟩ :: tableOf (suf.map (fun q => (q.1, q.2.1, q.2.2.1, q.2.2.2.1))) := by
      rw [htab]
      unfold mv_hh
      rw [h1]
      simp [tableOf]
    refine vx_catch (E := mv_ec xe) (ce := ce) hown _ ⟨xf, xt, xg, xc⟩ _ hsplit ?_ ?_ hct (hts _ (mv_TS_of hcw rfl)) (va_Nw.use rfl ?_) hcell hv hcl ?_
    · intro y hy
      simp only [tableOf, List.map_map, List.mem_map, Function.comp] at hy
      obtain ⟨y9, hy9, rfl⟩ := hy
      have hn := h6 y9 hy9
      have hy8 := List.all_eq_true.mp hrows y9 (by rw [h1]; simp [hy9])
      obtain ⟨yf, yt, yg, yc, ye, yw⟩ := y9
      simp only [Bool.and_eq_true, decide_eq_true_eq, Bool.not_eq_true', decide_eq_false_iff_not] at hy8
      obtain ⟨⟨hye, hyc⟩, hyw⟩ := hy8
      by_cases he : ye = xe
      · refine Or.inl ?_
        show (decide (yf ≤ pc) && decide (pc < yt)) = false
        by_cases q1 : yf ≤ pc
        · by_cases q2 : pc < yt
          · exact absurd ⟨q1, q2, he⟩ hn
          · rw [decide_eq_false q2, Bool.and_false]
        · rw [decide_eq_false q1, Bool.false_and]
      · exact Or.inr ⟨hyc, mv_ec ye, hts _ (mv_TS_of hyw rfl), by
          obtain ⟨-, -, -, -, -, -, -, -, -, -, -, h9, -⟩ := hE
          exact h9 xe ye hk6 hye (fun q => he q.symm)⟩
    · show (decide (xf ≤ pc) && decide (pc < xt)) = true
      rw [decide_eq_true (show xf ≤ pc from h3), decide_eq_true (show pc < xt from h4)]; rfl
    · obtain ⟨-, -, -, -, -, -, -, -, -, -, h9, -, -⟩ := hE
      exact h9 _ (List.elem_iff.mp (mv_castw xe hk6)) rfl
    · -- the store of the thrown thing
      split at hg
      · next i9 nx9 q9 hin =>
        cases hg
        obtain ⟨a9, b9, w9⟩ := q9
        obtain ⟨hok, hlen⟩ := mv_row hin
        obtain ⟨hd, rfl⟩ := mv_dec (mv_okd hok) hlen (Nat.succ_ne_zero _)
        refine lv_astore hx hb hd hl (mv_side hin hml) rfl (fun ls1 hl1 => ?_)
        refine kk _ _ _ _ _ hM hS ?_ hc hs
        rw [mv_f1_map] at hl1
        exact ⟨hl1.1, hl1.2.1, fun q hq => hl1.2.2 q (List.mem_cons_of_mem _ hq)⟩
      · next i9 nx9 q9 hin =>
        cases hg
        obtain ⟨a9, b9, w9⟩ := q9
        obtain ⟨hok, hlen⟩ := mv_row hin
        obtain ⟨hd, rfl⟩ := mv_dec (mv_okd hok) hlen (Nat.succ_ne_zero _)
        refine lv_astore_n hx hb hd rfl hl (mv_side hin hml) rfl (fun ls1 hl1 => ?_)
        refine kk _ _ _ _ _ hM hS ?_ hc hs
        rw [mv_f1_map] at hl1
        exact ⟨hl1.1, hl1.2.1, fun q hq => hl1.2.2 q (List.mem_cons_of_mem _ hq)⟩
      · cases hg
/-- words of the arguments -/
noncomputable def mv_asf (M : Nat) (as : List Value) : Prop := M < 126 ∧ (as.map (fun v => v.category)).sum ≤ (mv_mi M).2.2.1
theorem mv_argw : ((List.range 126).all (fun M => decide ((mv_cif M).1 + (if (mv_cif M).2 = 0 ∨ (mv_cif M).2 = 2 then 1 else 0) ≤ (mv_mi M).2.2.1))) = true := by decide +kernel
theorem mv_call_as {r : mv_I} {pc : Nat} {ls : mv_V} {st as rest : List Value} {σ : mv_S} {M' : Nat} (hin : mv_in M pc = some r) (h : mv_stp L xs r ls st σ = some (.inr (.inr (M', as, rest)))) : mv_asf M' as := by
  have hcr := mv_row3 hin
  obtain ⟨i, nx, a, b, w, ⟨rfl, h9⟩ | ⟨rfl, h9⟩ | ⟨rfl, h9⟩⟩ := mv_call_inv h
  all_goals
    obtain ⟨ha, rfl, -, -, -, -, -, hsum⟩ := mv_callk h9
    simp only [mv_crow, Bool.or_eq_true, Bool.and_eq_true, Bool.not_eq_true', decide_eq_false_iff_not, decide_eq_true_eq] at hcr
  · rcases hcr with hcr | ⟨⟨⟨h259, hci⟩, hb0⟩, -⟩
    · exact absurd ha hcr
    have hw := of_decide_eq_true (List.all_eq_true.mp mv_argw _ (List.mem_range.mpr h259))
    rw [hci] at hw
    simp at hw
    exact ⟨h259, by omega⟩
  · rcases hcr with hcr | ⟨h259, hci⟩
    · exact absurd ha hcr
    have hw := of_decide_eq_true (List.all_eq_true.mp mv_argw _ (List.mem_range.mpr h259))
    rcases hci with hci | ⟨hci, -⟩ <;> (rw [hci] at hw; simp at hw; exact ⟨h259, by omega⟩)
  · rcases hcr with hcr | ⟨⟨h259, hci⟩, hb0⟩
    · exact absurd ha hcr
    have hw := of_decide_eq_true (List.all_eq_true.mp mv_argw _ (List.mem_range.mpr h259))
    rw [hci] at hw
    simp at hw
    exact ⟨h259, by omega⟩
theorem mv_frame {C : Nat → List Value → mv_S → Option mv_R} (hC : ∀ M' as σ r, mv_asf M' as → C M' as σ = some r → mv_Ct z kad dC dI cA wx L xs l d M' as σ r) (hCm : ∀ M' as σ r, C M' as σ = some r → mv_le σ r.2)
    (hF : mv_Fx z kad dC dI cA L xs p R s m args meth c M) (hr : mv_room d R) (htab : mv_nh M = false → c.exceptionTable.toList = tableOf (mv_hh M)) {res : mv_R} (hRc : mv_cc res.2 ≤ R.cells + c0 ∧ mv_ss res.2 ≤ R.slots + s0)
    (hRet : ∀ (v : Option Value) (pc : Nat) (ls : mv_V) (st : List Value) (σ : mv_S) (r : mv_I), mv_in M pc = some r → mv_stp L xs r ls st σ = some (.inr (.inl (.inl v, σ))) → res = (.inl v, σ) → mv_W z kad dC dI cA wx p l e R s m args below meth c Q c0 s0 pc ls st σ)
    (hNew : ∀ (k i nx w pc : Nat) (ls : mv_V) (st : List Value) (σ : mv_S), mv_in M pc = some (.new i, nx, 99, k, w) → σ.2.1 = 142 → (st.map (fun v => v.category)).sum ≤ 8 → res = (.inr k, (σ.1 + 1, σ.2)) → mv_W z kad dC dI cA wx p l e R s m args below meth c Q c0 s0 pc ls st σ)
    (hThr : ∀ (k : Nat), mv_nh M = true → res.1 = .inr k → mv_e6 k = true → ∀ (pc : Nat) (H1 : Heap) (locs1 : List Loc) (cells1 slots1 : Nat) (lsA : Array Slot) (rest : List Value) (q : Addr) (ce : Cell), mv_Mo z kad dC dI cA wx res.2 H1 → va_S (fun q => z ≤ q) s.heap H1 locs1 → cells1 + c0 = mv_cc res.2 → slots1 + s0 = mv_ss res.2 → H1[q]? = some ce → ce.vm = .none → s.vm.findClass (mv_ec k) = some ce.cls → vx_W p l e R s m args below meth c H1 locs1 cells1 slots1 Q (F0 m pc lsA rest) q) :
    ∀ (f pc : Nat) (ls : mv_V) (st : List Value) (σ : mv_S), mv_ex L xs C f M pc ls st σ = some res → mv_W z kad dC dI cA wx p l e R s m args below meth c Q c0 s0 pc ls st σ := by
  intro f
  induction f with
  | zero => intro pc ls st σ h; cases h
  | succ f ih =>
    intro pc ls st σ h
    have hmono := mv_ex_mono (L := L) (xs := xs) hCm (f + 1) pc ls st σ h
    unfold mv_ex at h
    split at h
    · cases h
    · next r hin =>
      split at h
      · cases h
      · next pc' ls' st' σ' hs =>
        have h2 := mv_le_c (mv_ex_mono (L := L) (xs := xs) hCm f pc' ls' st' σ' h)
        exact mv_step hF hin hs ⟨by omega, by omega⟩ (ih _ _ _ _ h)
      · next q hs =>
        cases h
        rcases mv_fin_inv hs with ⟨v, hq⟩ | ⟨i, nx, k, w, rfl, h149, hcat, hq⟩
        · rw [hq] at hs
          exact hRet v pc ls st σ r hin hs hq
        · exact hNew k i nx w pc ls st σ hin h149 hcat hq
      · next M' as rest hs =>
        cases hc9 : C M' as σ with
        | none => rw [hc9] at h; cases h
        | some q =>
          obtain ⟨q1, σ'⟩ := q
          have hCt := hC _ _ _ _ (mv_call_as hin hs) hc9
          have hle := hCm _ _ _ _ hc9
          have hlec := mv_le_c hle
          -- the end of the call
          have hend : mv_cc σ' ≤ mv_cc res.2 ∧ mv_ss σ' ≤ mv_ss res.2 := by
            rw [hc9] at h
            cases q1 with
            | inl v => exact mv_le_c (mv_ex_mono (L := L) (xs := xs) hCm f _ _ _ _ h)
            | inr E =>
              simp only [mv_af] at h
              split at h
              · cases h; exact ⟨Nat.le_refl _, Nat.le_refl _⟩
              · split at h
                · exact mv_le_c (mv_ex_mono (L := L) (xs := xs) hCm f _ _ _ _ h)
                · cases h
          intro H locs cells slots lsA hM hS hl hc hs9
          have hf : cells + (mv_cc σ' - mv_cc σ) ≤ R.cells ∧ slots + (mv_ss σ' - mv_ss σ) ≤ R.slots := by
            have h1 : mv_cc σ ≤ mv_cc σ' := hlec.1
            have h2 : mv_ss σ ≤ mv_ss σ' := hlec.2
            omega
          have hnx : r.2.1 = pc + 3 := by
            obtain ⟨i, nx, a, b, w, ⟨rfl, -⟩ | ⟨rfl, -⟩ | ⟨rfl, -⟩⟩ := mv_call_inv hs <;>
              (obtain ⟨hok, hlen⟩ := mv_row hin; obtain ⟨-, e9⟩ := mv_dec (mv_okd hok) hlen (Nat.succ_ne_zero _); exact e9)
          have hrun : ∃ aa, vx_Run p l e R s m args below meth c H locs cells slots (mv_cc σ' - mv_cc σ) (mv_ss σ' - mv_ss σ) (F0 m pc lsA (st.map (mv_cv (mv_ad z kad)))) (rest.map (mv_cv (mv_ad z kad))) (mv_Qc z kad dC dI cA wx (q1, σ') aa) (mv_XC z kad dC dI cA wx (q1, σ')) (fun q => z ≤ q) := by
            obtain ⟨i, nx, a, b, w, ⟨rfl, h9⟩ | ⟨rfl, h9⟩ | ⟨rfl, h9⟩⟩ := mv_call_inv hs
            · exact mv_c_virt hF hin h9 hCt hr hM hS hl hf
            · exact mv_c_stat hF hin h9 hCt hr hM hS hl hf
            · exact mv_c_spec hF hin h9 hCt hr hM hS hl hf
          obtain ⟨aa, hrun⟩ := hrun
          refine mv_after (r := (q1, σ')) hrun hS hl hc hs9 hlec ?_ ?_
          · intro v hv H1 locs1 cells1 slots1 hM1 hS1 hc1 hs1
            have hv : q1 = .inl v := hv
            subst hv
            rw [hc9] at h
            have h : mv_ex L xs C f M r.2.1 ls (v.toList ++ rest) σ' = some res := h
            have k9 := ih _ _ _ _ h H1 locs1 cells1 slots1 lsA hM1 hS1 hl hc1 hs1
            rw [hnx, mv_tl] at k9
            exact k9
          · intro k hk hk6 H1 locs1 cells1 slots1 q ce hM1 hS1 hc1 hs1 hce hcv hcl
            have hk : q1 = .inr k := hk
            subst hk
            rw [hc9] at h
            simp only [mv_af] at h
            split at h
            · next hnh =>
              cases h
              exact hThr k hnh rfl hk6 pc H1 locs1 cells1 slots1 lsA _ q ce hM1 hS1 hc1 hs1 hce hcv hcl
            · next hnh =>
              split at h
              · next g i hg => exact mv_caught hF htab hnh hk6 hg (ih _ _ _ _ h) hM1 hS1 hl hc1 hs1 hce hcv hcl
              · cases h
end FR
end
section
/-! WHOLE CALLS: mv_cl is what the methods do -/
section CL
variable {z : Nat} {kad : Nat → Nat} {dC : Nat → ClassId} {dI : Nat → Nat → Nat} {cA : Nat → ClassId} {wx : va_W} {L : Nat} {xs : Nat → Int32}
theorem mv_cl_ex {d M : Nat} {as : List Value} {σ : mv_S} {r : mv_R} (h : mv_cl L xs (d + 1) M as σ = some r) : ∃ f, mv_ex L xs (mv_cl L xs d) f M 0 (mv_il 0 as) [] σ = some r := by
  unfold mv_cl at h
  by_cases hx : ∃ r, ∃ f, mv_ex L xs (mv_cl L xs d) f M 0 (mv_il 0 as) [] σ = some r
  · rw [dif_pos hx] at h
    have h2 := Classical.choose_spec hx
    rw [Option.some.inj h] at h2
    exact h2
  · rw [dif_neg hx] at h
    cases h
theorem mv_cl_mono : ∀ (d M : Nat) (as : List Value) (σ : mv_S) (r : mv_R), mv_cl L xs d M as σ = some r → mv_le σ r.2 := by
  intro d
  induction d with
  | zero => intro M as σ r h; cases h
  | succ d ih =>
    intro M as σ r h
    obtain ⟨f, hf⟩ := mv_cl_ex h
    exact mv_ex_mono (L := L) (xs := xs) ih f _ _ _ _ hf
theorem mv_il_args (ad : Nat → Nat) : ∀ (i : Nat) (as : List Value), mv_lm ad (mv_il i as) = lv_args i (as.map (mv_cv ad))
  | _, [] => rfl
  | i, v :: as => by
    have e : (if (mv_cv ad v).category = 2 then i + 2 else i + 1) = i + v.category := by
      rw [mv_cv_cat]
      cases v <;> rfl
    show (i, mv_cv ad v) :: mv_lm ad (mv_il (i + v.category) as) = (i, mv_cv ad v) :: lv_args (if (mv_cv ad v).category = 2 then i + 2 else i + 1) (as.map (mv_cv ad))
    rw [mv_il_args ad _ as, e]
theorem mv_sl_len (ad : Nat → Nat) : ∀ (as : List Value), (lg_sl (as.map (mv_cv ad))).length = (as.map (fun v => v.category)).sum
  | [] => rfl
  | v :: as => by
    have ih := mv_sl_len ad as
    show ((if (mv_cv ad v).category = 2 then [Slot.val (mv_cv ad v), .second] else [.val (mv_cv ad v)]) ++ lg_sl (as.map (mv_cv ad))).length = v.category + (as.map (fun v => v.category)).sum
    rw [List.length_append, ih, mv_cv_cat]
    cases v <;> rfl
end CL
end
section
/-! THE CONTRACT OF EVERY CALL -/
def mv_ownB (X : String) (ix : Nat) (rx : ByteArray) (names : List String) : List Cond :=
  Bundle.throwableAtoms ++ Bundle.throwableSAtoms ++ mv_chainA X ix rx names ++
  [.instantiable X 6, .castable X X, .selects X Bundle.tFill0 Bundle.tFill0, .selects X Bundle.tFill Bundle.tFill,
   .lays X Bundle.tN "cause" "Ljava/lang/Throwable;", .lays X Bundle.tN "stackTrace" Bundle.steD, .lays X Bundle.tN "suppressedExceptions" Bundle.listD, .lays X Bundle.tN "detailMessage" "Ljava/lang/String;",
   .isRef (.static Bundle.tN "UNASSIGNED_STACK" Bundle.steD), .isRef (.static Bundle.tN "SUPPRESSED_SENTINEL" Bundle.listD),
   .fieldLink Bundle.tN 198 Bundle.tN "backtrace" "Ljava/lang/Object;", .lays Bundle.tN Bundle.tN "backtrace" "Ljava/lang/Object;", .lays X Bundle.tN "backtrace" "Ljava/lang/Object;"]
theorem mv_own_mem {own X : String} {ic ix : Nat} {rx : ByteArray} {names : List String} {w : Cond} (h : w ∈ mv_ownA own ic X ix rx names) : w = .methodLink own ic (Bundle.initS X) ∨ w ∈ mv_ownB X ix rx names := by
  unfold mv_ownA at h
  unfold mv_ownB
  rcases List.mem_append.mp h with h | h
  · exact Or.inr (List.mem_append_left _ h)
  · rcases List.mem_cons.mp h with h | h
    · exact Or.inl h
    · exact Or.inr (List.mem_append_right _ h)
theorem mv_twB : ∀ k, mv_e6 k = true → (((mv_ownB (mv_ec k) (mv_ixx k) (mv_rx k) mv_nms).filter vx_no).all (fun w => lw_tbl.elem w && (goodWord w || mv_nest w) && vx_ot w)) = true := fun k hk => (by decide +kernel : ∀ k, k < 6 → mv_e6 k = true → (((mv_ownB (mv_ec k) (mv_ixx k) (mv_rx k) mv_nms).filter vx_no).all (fun w => lw_tbl.elem w && (goodWord w || mv_nest w) && vx_ot w)) = true) k (mv_e6_lt hk) hk
theorem mv_twI : ∀ k, mv_e6 k = true → lw_tbl.elem (Cond.initialized (mv_ec k)) = true := fun k hk => (by decide +kernel : ∀ k, k < 6 → mv_e6 k = true → lw_tbl.elem (Cond.initialized (mv_ec k)) = true) k (mv_e6_lt hk) hk
/-- a throw's rows: new, dup, ldc or ldc_w, invokespecial, athrow; its words -/
noncomputable def mv_tck (M : Nat) (q : Nat × mv_I) : Bool := match q with
  | (pc, (.new i, _, a, k, w)) => !decide (a = 99) || (mv_nh M && decide (mv_e6 k = true) && decide (lw_tbl[w]? = some (.classLink (mv_mi M).2.1.cls i (mv_ec k))) &&
      (match mv_in M (pc + 3), mv_in M (pc + 4) with
        | some (.dup, _), some (.ldc _, _, _, _, w2) => (match lw_tbl[w2]?, mv_in M (pc + 4), mv_in M (pc + 6), mv_in M (pc + 9) with
          | some (.stringRef o j _), some (.ldc is, _), some (.invokespecial ic, _, _, _, w3), some (.athrow, _) => decide (o = (mv_mi M).2.1.cls) && decide (j = is) && decide (lw_tbl[w3]? = some (.methodLink (mv_mi M).2.1.cls ic (Bundle.initS (mv_ec k))))
          | _, _, _, _ => false)
        | some (.dup, _), some (.ldc_w _, _, _, _, w2) => (match lw_tbl[w2]?, mv_in M (pc + 4), mv_in M (pc + 7), mv_in M (pc + 10) with
          | some (.stringRef o j _), some (.ldc_w is, _), some (.invokespecial ic, _, _, _, w3), some (.athrow, _) => decide (o = (mv_mi M).2.1.cls) && decide (j = is) && decide (lw_tbl[w3]? = some (.methodLink (mv_mi M).2.1.cls ic (Bundle.initS (mv_ec k))))
          | _, _, _, _ => false)
        | _, _ => false))
  | _ => true
theorem mv_tck_all : ((List.range 126).all (fun M => (mv_tb M).all (mv_tck M))) = true := by decide +kernel
theorem mv_tck_at {M pc : Nat} {r : mv_I} (hM : M < 126) (h : mv_in M pc = some r) : mv_tck M (pc, r) = true := by
  unfold mv_in at h
  exact List.all_eq_true.mp (List.all_eq_true.mp mv_tck_all M (List.mem_range.mpr hM)) _ (mv_find_mem h)
section CT
variable {z : Nat} {kad : Nat → Nat} {dC : Nat → ClassId} {dI : Nat → Nat → Nat} {cA : Nat → ClassId} {wx : va_W} {L : Nat} {xs : Nat → Int32}
variable {p : Program} {l : Launch} {e : Env} {R : Room} {s : State} {m : MethodId} {args : Array Value} {below : List Frame} {meth : Method} {c : Code} {Q : State → Prop} {c0 s0 M d : Nat}
set_option maxHeartbeats 8000000 in
theorem mv_ret_inv {i : Instr} {nx a b w : Nat} {ls : mv_V} {st : List Value} {σ σ' : mv_S} {v : Option Value} (h : mv_stp L xs (i, nx, a, b, w) ls st σ = some (.inr (.inl (.inl v, σ')))) :
    σ' = σ ∧ ((i = .ireturn ∧ ∃ x, st = [.int x] ∧ v = some (.int x) ∧ (a = 0 ∨ (a = 1 ∧ (x = 0 ∨ x = 1)) ∨ (a = 2 ∧ mv_ch x = x))) ∨ (i = .lreturn ∧ ∃ x, st = [.long x] ∧ v = some (.long x)) ∨ (i = .freturn ∧ ∃ x, st = [.float x] ∧ v = some (.float x)) ∨
      (i = .dreturn ∧ ∃ x, st = [.double x] ∧ v = some (.double x)) ∨ (i = .areturn ∧ ∃ x, st = [.ref x] ∧ v = some (.ref x)) ∨ (i = .areturn ∧ st = [.null] ∧ v = some .null) ∨ (i = .return_ ∧ st = [] ∧ v = none)) := by
  simp only [mv_stp] at h
  split at h
  all_goals (try unfold mv_ld at h) <;> (try unfold mv_so at h) <;> (try unfold mv_get at h) <;> (try unfold mv_put at h) <;> (try unfold mv_aa at h) <;> (try unfold mv_al at h) <;> (try unfold mv_as at h) <;> (try unfold mv_aas at h) <;> (try unfold mv_len at h) <;> (try unfold mv_new at h) <;> (try unfold mv_nwa at h) <;> (try unfold mv_sw2 at h) <;> (try unfold mv_call at h) <;> (try unfold mv_r1 at h) <;> (try unfold mv_rt at h) <;> (try unfold mv_nx at h)
  all_goals repeat' split at h
  all_goals first
    | (cases h; done)
    | (next hg => cases h; exact ⟨rfl, Or.inl ⟨rfl, _, rfl, rfl, hg⟩⟩)
    | (cases h; exact ⟨rfl, Or.inr (Or.inl ⟨rfl, _, rfl, rfl⟩)⟩)
    | (cases h; exact ⟨rfl, Or.inr (Or.inr (Or.inl ⟨rfl, _, rfl, rfl⟩))⟩)
    | (cases h; exact ⟨rfl, Or.inr (Or.inr (Or.inr (Or.inl ⟨rfl, _, rfl, rfl⟩)))⟩)
    | (cases h; exact ⟨rfl, Or.inr (Or.inr (Or.inr (Or.inr (Or.inl ⟨rfl, _, rfl, rfl⟩))))⟩)
    | (cases h; exact ⟨rfl, Or.inr (Or.inr (Or.inr (Or.inr (Or.inr (Or.inl ⟨rfl, rfl, rfl⟩)))))⟩)
    | (cases h; exact ⟨rfl, Or.inr (Or.inr (Or.inr (Or.inr (Or.inr (Or.inr ⟨rfl, rfl, rfl⟩)))))⟩)
/-- a method's own return -/
theorem mv_end {pc : Nat} {ls : mv_V} {st : List Value} {σ : mv_S} {v : Option Value} {r : mv_I} {mc ms : Nat} (hF : mv_Fx z kad dC dI cA L xs p R s m args meth c M) (hr : meth.sig.returnType = (mv_mi M).2.2.2.1) (hlocks : meth.locks = false)
    (hin : mv_in M pc = some r) (hs : mv_stp L xs r ls st σ = some (.inr (.inl (.inl v, σ)))) {XC : String → State → State → Prop} (hmc : mc + c0 = mv_cc σ) (hms : ms + s0 = mv_ss σ) :
    mv_W z kad dC dI cA wx p l e R s m args below meth c (vx_MQ below (mv_Qc z kad dC dI cA wx (.inl v, σ)) XC args s mc ms (fun q => z ≤ q)) c0 s0 pc ls st σ := by
  obtain ⟨hok, hlen⟩ := mv_row hin
  have hrt := mv_row4 hin
  obtain ⟨hx, hb, hml, hown, hts, hE, -, hRf, hRl⟩ := id hF
  obtain ⟨i, nx, a, b, w⟩ := r
  have hdec := mv_okd hok
  intro H locs cells slots lsA hM hS hl hc hs9
  have e1 : cells = mc := by omega
  have e2 : slots = ms := by omega
  subst e1; subst e2
  refine vx_ret ?_
  obtain ⟨-, ⟨rfl, x, rfl, rfl, ha⟩ | ⟨rfl, x, rfl, rfl⟩ | ⟨rfl, x, rfl, rfl⟩ | ⟨rfl, x, rfl, rfl⟩ | ⟨rfl, x, rfl, rfl⟩ | ⟨rfl, rfl, rfl⟩ | ⟨rfl, rfl, rfl⟩⟩ := mv_ret_inv hs
  · obtain ⟨hd, -⟩ := mv_dec hdec hlen (Nat.succ_ne_zero _)
    have hrt : (mv_mi M).2.2.2.1 = some (if a = 0 then .int else if a = 1 then .boolean else .char) := of_decide_eq_true hrt
    rcases ha with rfl | ⟨rfl, ha⟩ | ⟨rfl, ha⟩
    · exact W.iret hx hb (hr.trans hrt) (fun t ht hW => ⟨_, rfl, rfl, by rw [ht]; exact hM, hS.F ht⟩) hS.2.2 hd hlocks
    · exact W.zret hx hb (hr.trans hrt) (by rcases ha with rfl | rfl <;> rfl) (fun t ht hW => ⟨_, rfl, rfl, by rw [ht]; exact hM, hS.F ht⟩) hS.2.2 hd hlocks
    · exact W.zret hx hb (hr.trans hrt) (by show narrow .char (.int x) = .int x; rw [← ha]; exact pk_nc x) (fun t ht hW => ⟨_, rfl, rfl, by rw [ht]; exact hM, hS.F ht⟩) hS.2.2 hd hlocks
  · obtain ⟨hd, -⟩ := mv_dec hdec hlen (Nat.succ_ne_zero _)
    exact W.lret hx hb (hr.trans (of_decide_eq_true hrt)) (fun t ht hW => ⟨_, rfl, rfl, by rw [ht]; exact hM, hS.F ht⟩) hS.2.2 hd hlocks
  · obtain ⟨hd, -⟩ := mv_dec hdec hlen (Nat.succ_ne_zero _)
    exact W.fret hx hb (hr.trans (of_decide_eq_true hrt)) (fun t ht hW => ⟨_, rfl, rfl, by rw [ht]; exact hM, hS.F ht⟩) hS.2.2 hd hlocks
  · obtain ⟨hd, -⟩ := mv_dec hdec hlen (Nat.succ_ne_zero _)
    exact W.dret hx hb (hr.trans (of_decide_eq_true hrt)) (fun t ht hW => ⟨_, rfl, rfl, by rw [ht]; exact hM, hS.F ht⟩) hS.2.2 hd hlocks
  · obtain ⟨hd, -⟩ := mv_dec hdec hlen (Nat.succ_ne_zero _)
    have hrt : ∃ n, (mv_mi M).2.2.2.1 = some (.object n) := by
      simp only [mv_rck] at hrt
      split at hrt
      · next n e9 => exact ⟨n, e9⟩
      · cases hrt
    obtain ⟨n, hrt⟩ := hrt
    exact W.aret hx hb (hr.trans hrt) (Or.inl ⟨n, rfl⟩) (Or.inr ⟨_, rfl⟩) (fun t ht hW => ⟨_, rfl, rfl, by rw [ht]; exact hM, hS.F ht⟩) hS.2.2 hd hlocks
  · obtain ⟨hd, -⟩ := mv_dec hdec hlen (Nat.succ_ne_zero _)
    have hrt : ∃ n, (mv_mi M).2.2.2.1 = some (.object n) := by
      simp only [mv_rck] at hrt
      split at hrt
      · next n e9 => exact ⟨n, e9⟩
      · cases hrt
    obtain ⟨n, hrt⟩ := hrt
    exact W.aret hx hb (hr.trans hrt) (Or.inl ⟨n, rfl⟩) (Or.inl rfl) (fun t ht hW => ⟨_, rfl, rfl, by rw [ht]; exact hM, hS.F ht⟩) hS.2.2 hd hlocks
  · obtain ⟨hd, -⟩ := mv_dec hdec hlen (Nat.succ_ne_zero _)
    exact W.vret hx hb (hr.trans (of_decide_eq_true hrt)) (fun t ht hW => ⟨_, rfl, rfl, by rw [ht]; exact hM, hS.F ht⟩) hS.2.2 hd hlocks
end CT
end
section
/-! THROWS, AND THE CONTRACT -/
section SOUND
variable {z : Nat} {kad : Nat → Nat} {dC : Nat → ClassId} {dI : Nat → Nat → Nat} {cA : Nat → ClassId} {wx : va_W} {L : Nat} {xs : Nat → Int32}
variable {p : Program} {l : Launch} {e : Env} {R : Room} {s : State} {m : MethodId} {args : Array Value} {below : List Frame} {meth : Method} {c : Code} {Q : State → Prop} {c0 s0 M d : Nat}
/-- the world with one throw more -/
theorem mv_Mo_thr {σ : mv_S} {H H1 : Heap} (hM : mv_Mo z kad dC dI cA wx σ H) (hn : σ.2.1 = 142) (ho : ∀ q : Nat, q < H.size → H1[q]? = H[q]?) : mv_Mo z kad dC dI cA wx (σ.1 + 1, σ.2) H1 :=
  ⟨hM.1.kept (fun k q hk => ho q.1 ((hM.1 k q hk).lt)), fun q => absurd hn (Nat.ne_of_lt q), hM.2.2⟩
set_option maxHeartbeats 4000000 in
/-- a method's own throw -/
theorem mv_thrown {k i nx w pc : Nat} {ls : mv_V} {st : List Value} {σ : mv_S} {mc ms : Nat} (hlt : l.stackTraces = false) (hM9 : M < 126) (hF : mv_Fx z kad dC dI cA L xs p R s m args meth c M) (hlocks : meth.locks = false) (htab : mv_nh M = true → ∀ x ∈ c.exceptionTable.toList, False)
    (hin : mv_in M pc = some (.new i, nx, 99, k, w)) (h149 : σ.2.1 = 142) (hcat : (st.map (fun v => v.category)).sum ≤ 8) {Qc : Array Value → State → Outcome → State → Prop} (hmc : mc + c0 = mv_cc (σ.1 + 1, σ.2)) (hms : ms + s0 = mv_ss (σ.1 + 1, σ.2))
    (hR : mv_cc (σ.1 + 1, σ.2) ≤ R.cells + c0 ∧ mv_ss (σ.1 + 1, σ.2) ≤ R.slots + s0) (hRl : 300 ≤ R.locals) :
    mv_W z kad dC dI cA wx p l e R s m args below meth c (vx_MQ below Qc (mv_XC z kad dC dI cA wx (.inr k, (σ.1 + 1, σ.2))) args s mc ms (fun q => z ≤ q)) c0 s0 pc ls st σ := by
  have hck := mv_tck_at hM9 hin
  obtain ⟨hok, hlen⟩ := mv_row hin
  obtain ⟨hx, hb, hml, hown, hts, hE, -, hRf, -⟩ := id hF
  obtain ⟨hd0, -⟩ := mv_dec (mv_okd hok) hlen (Nat.succ_ne_zero _)
  simp only [mv_tck, Bool.or_eq_true, Bool.and_eq_true, Bool.not_eq_true', decide_eq_false_iff_not, decide_eq_true_eq] at hck
  rcases hck with hck | ⟨⟨⟨hnh, hk6⟩, hcw⟩, hck⟩
  · exact absurd trivial hck
  obtain ⟨x0, x1, x2, x5⟩ := mv_tw_rx k hk6
  have hIni : Cond.initialized (mv_ec k) ∈ lw_tbl := List.elem_iff.mp (mv_twI k hk6)
  have hIniS : Cond.initialized (mv_ec k) ∈ mv_TS := List.mem_filter.mpr ⟨hIni, rfl⟩
  have hB := fun w (hw : w ∈ (mv_ownB (mv_ec k) (mv_ixx k) (mv_rx k) mv_nms).filter vx_no) => List.all_eq_true.mp (mv_twB k hk6) w hw
  intro H locs cells slots lsA hM hS hl hc hs9
  have hcc : mv_cc (σ.1 + 1, σ.2) = mv_cc σ + 1 := rfl
  have hss : mv_ss (σ.1 + 1, σ.2) = mv_ss σ + 6 := by show mv_sl σ.2.1 + 6 * (σ.1 + 1) = mv_sl σ.2.1 + 6 * σ.1 + 6; omega
  rw [hcc] at hR hmc
  rw [hss] at hR hms
  obtain ⟨-, -, -, -, -, -, -, -, hU, hN, hNest, -, hStr, -⟩ := id hE
  have key : ∀ (ic w3 : Nat), lw_tbl[w3]? = some (.methodLink (mv_mi M).2.1.cls ic (Bundle.initS (mv_ec k))) →
      (∀ w ∈ (mv_ownA (mv_mi M).2.1.cls ic (mv_ec k) (mv_ixx k) (mv_rx k) mv_nms).filter vx_no, w.before args s = true) ∧ (∀ w ∈ Cond.classLink (mv_mi M).2.1.cls i (mv_ec k) :: Cond.initialized (mv_ec k) :: (mv_ownA (mv_mi M).2.1.cls ic (mv_ec k) (mv_ixx k) (mv_rx k) mv_nms).filter vx_no, vx_ot w = true) := by
    intro ic w3 hw3
    have one : ∀ w ∈ (mv_ownA (mv_mi M).2.1.cls ic (mv_ec k) (mv_ixx k) (mv_rx k) mv_nms).filter vx_no, w.before args s = true ∧ vx_ot w = true := by
      intro w hw
      obtain ⟨hw1, hw2⟩ := List.mem_filter.mp hw
      rcases mv_own_mem hw1 with rfl | hw1
      · exact ⟨hts _ (mv_TS_of hw3 rfl), rfl⟩
      · have h9 := hB w (List.mem_filter.mpr ⟨hw1, hw2⟩)
        simp only [Bool.and_eq_true, Bool.or_eq_true] at h9
        obtain ⟨⟨h8, h7⟩, h6⟩ := h9
        have hmem : w ∈ lw_tbl := List.elem_iff.mp h8
        refine ⟨?_, h6⟩
        rcases h7 with h7 | h7
        · exact hts _ (List.mem_filter.mpr ⟨hmem, h7⟩)
        · have h5 := hNest w hmem h7
          unfold mv_nest at h7
          split at h7
          · exact va_Nw.use rfl h5
          · exact va_Nw.use rfl h5
          · exact va_Nw.use rfl h5
          · exact va_Nw.use rfl h5
          · exact va_AO.use h5
          · cases h7
    refine ⟨fun w hw => (one w hw).1, fun w hw => ?_⟩
    rcases List.mem_cons.mp hw with rfl | hw
    · rfl
    · rcases List.mem_cons.mp hw with rfl | hw
      · rfl
      · exact (one w hw).2
  have hXC : ∀ t : State, s.vm.Alike t.vm → H.size ≤ t.heap.size → (∀ q : Nat, q < H.size → t.heap[q]? = H[q]?) → mv_XC z kad dC dI cA wx (.inr k, (σ.1 + 1, σ.2)) (mv_ec k) s t := by
    intro t ha hsz ho
    exact ⟨k, rfl, hk6, rfl, mv_Mo_thr hM h149 ho, Nat.le_trans hS.1 hsz, fun q hq hqA => (ho q (Nat.lt_of_lt_of_le hq hS.1)).trans (hS.2.1 q hq hqA)⟩
  have hcatA : ((st.map (mv_cv (mv_ad z kad))).map fun v => v.category).sum + (13 * (mv_nms.length + 1) + 43) ≤ R.locals := by
    rw [mv_cat]
    have : mv_nms.length = 2 := rfl
    omega
  have hfr : mv_nms.length + 3 < R.frames := by have : mv_nms.length = 2 := rfl; omega
  split at hck
  · next q3 is4 q4 w2 e3 e4 =>
    split at hck
    · next o j tx is nx4 ic nx6 a6 b6 w3 nx9 e5 e6 e7 e8 =>
      simp only [Bool.and_eq_true, decide_eq_true_eq] at hck
      obtain ⟨⟨rfl, rfl⟩, hw3⟩ := hck
      obtain ⟨ok3, len3⟩ := mv_row e3
      obtain ⟨ok4, len4⟩ := mv_row e6
      obtain ⟨ok6, len6⟩ := mv_row e7
      obtain ⟨ok9, len9⟩ := mv_row e8
      obtain ⟨hd3, -⟩ := mv_dec (mv_okd ok3) len3 (Nat.succ_ne_zero _)
      obtain ⟨hd4, -⟩ := mv_dec (mv_okd ok4) len4 (Nat.succ_ne_zero _)
      obtain ⟨hd6, -⟩ := mv_dec (mv_okd ok6) len6 (Nat.succ_ne_zero _)
      obtain ⟨hd9, -⟩ := mv_dec (mv_okd ok9) len9 (Nat.succ_ne_zero _)
      obtain ⟨sa, hsa⟩ := hStr _ _ _ (List.mem_of_getElem? e5)
      obtain ⟨k1, k2⟩ := key ic w3 hw3
      exact mv_throwS hx hb hlt x0 x1 x2 x5 hown (mv_tw_fit k hk6) mv_tw_nms (hts _ (mv_TS_of hcw rfl)) (hts _ hIniS) hsa k1 k2 hU hN hS hl.1 hd0 hd3 hd4 hd6 hd9 (fun x hx => (htab hnh x hx).elim) hfr hcatA (by omega) (by omega) hlocks hXC hS.2.2 (by omega) (by omega)
    · cases hck
  · next q3 is4 q4 w2 e3 e4 =>
    split at hck
    · next o j tx is nx4 ic nx6 a6 b6 w3 nx9 e5 e6 e7 e8 =>
      simp only [Bool.and_eq_true, decide_eq_true_eq] at hck
      obtain ⟨⟨rfl, rfl⟩, hw3⟩ := hck
      obtain ⟨ok3, len3⟩ := mv_row e3
      obtain ⟨ok4, len4⟩ := mv_row e6
      obtain ⟨ok6, len6⟩ := mv_row e7
      obtain ⟨ok9, len9⟩ := mv_row e8
      obtain ⟨hd3, -⟩ := mv_dec (mv_okd ok3) len3 (Nat.succ_ne_zero _)
      obtain ⟨hd4, -⟩ := mv_dec (mv_okd ok4) len4 (Nat.succ_ne_zero _)
      obtain ⟨hd6, -⟩ := mv_dec (mv_okd ok6) len6 (Nat.succ_ne_zero _)
      obtain ⟨hd9, -⟩ := mv_dec (mv_okd ok9) len9 (Nat.succ_ne_zero _)
      obtain ⟨sa, hsa⟩ := hStr _ _ _ (List.mem_of_getElem? e5)
      obtain ⟨k1, k2⟩ := key ic w3 hw3
      exact mv_throwSW hx hb hlt x0 x1 x2 x5 hown (mv_tw_fit k hk6) mv_tw_nms (hts _ (mv_TS_of hcw rfl)) (hts _ hIniS) hsa k1 k2 hU hN hS hl.1 hd0 hd3 hd4 hd6 hd9 (fun x hx => (htab hnh x hx).elim) hfr hcatA (by omega) (by omega) hlocks hXC hS.2.2 (by omega) (by omega)
    · cases hck
  · cases hck
/-- THE CONTRACT: what mv_cl says of a call, the JVM does -/
theorem mv_sound (hlt : l.stackTraces = false) : ∀ (d M : Nat) (as : List Value) (σ : mv_S) (r : mv_R), mv_asf M as → mv_cl L xs d M as σ = some r → mv_Ct z kad dC dI cA wx L xs l d M as σ r := by
  intro d
  induction d with
  | zero => intro M as σ r _ h; cases h
  | succ d ih =>
    intro M as σ r has h
    obtain ⟨f, hf⟩ := mv_cl_ex h
    have hmono := mv_le_c (mv_cl_mono (L := L) (xs := xs) (d + 1) M as σ r h)
    have hM9 := has.1
    obtain ⟨p1, p2, p3, p4, p5, p6, p7, -, -, -⟩ := mv_cok_p (mv_cok_at hM9)
    have body : ∀ (p : Program) (e : Env) (s : State) (m : MethodId) (args : Array Value) (below : List Frame) (meth : Method) (c : Code) (s₁ : State), BodyLoose p l (mv_mi M).2.1 (headSpec (mv_ws M) (mv_rm (d + 1) (mv_cc r.2 - mv_cc σ) (mv_ss r.2 - mv_ss σ))) (mv_mi M).1 (mv_mi M).2.2.1 (mv_mi M).2.2.2.1 e s m args below meth c s₁ → c.maxLocals = (mv_mi M).2.2.1 →
        (mv_nh M = true → ∀ x ∈ c.exceptionTable.toList, False) → (mv_nh M = false → c.exceptionTable.toList = tableOf (mv_hh M)) → mv_Pc z kad dC dI cA wx L xs as σ args s →
        W p l e (headSpec (mv_ws M) (mv_rm (d + 1) (mv_cc r.2 - mv_cc σ) (mv_ss r.2 - mv_ss σ))).room s m args below meth c s.heap [] 0 0 (vx_MQ below (mv_Qc z kad dC dI cA wx r) (mv_XC z kad dC dI cA wx r) args s (mv_cc r.2 - mv_cc σ) (mv_ss r.2 - mv_ss σ) (fun q => z ≤ q)) (entryFrame m args (mv_mi M).2.2.1) := by
      intro p e s m args below meth c s₁ B hml ht0 ht1 hv
      obtain ⟨rfl, hE, hMo⟩ := hv
      have hF : mv_Fx z kad dC dI cA L xs p (headSpec (mv_ws M) (mv_rm (d + 1) (mv_cc r.2 - mv_cc σ) (mv_ss r.2 - mv_ss σ))).room s m (as.map (mv_cv (mv_ad z kad))).toArray meth c M :=
        ⟨B.exec, B.bytes, hml, findClass_of_methodNamed B.named, fun w hw => atoms_spec (ws := mv_ws M) B.pre w (List.mem_cons_of_mem _ hw), hE, fun hn => (name_of_methodNamed B.named B.method).1.trans hn, by show 12 ≤ 20 + (d + 1); omega, by show 200 ≤ 300 + 60 * (d + 1); omega⟩
      have hlocks := B.notSynchronized
      rw [lg_entry_eq]
      have hl := lv_entry (as.map (mv_cv (mv_ad z kad))) (n := (mv_mi M).2.2.1) (by rw [mv_sl_len]; exact has.2)
      rw [← mv_il_args, ← hml] at hl
      have hfr := mv_frame (Q := vx_MQ below (mv_Qc z kad dC dI cA wx r) (mv_XC z kad dC dI cA wx r) (as.map (mv_cv (mv_ad z kad))).toArray s (mv_cc r.2 - mv_cc σ) (mv_ss r.2 - mv_ss σ) (fun q => z ≤ q)) (below := below) (l := l) (e := e) (c0 := mv_cc σ) (s0 := mv_ss σ) (d := d) (res := r) ih (mv_cl_mono (L := L) (xs := xs) d) hF
        ⟨by show 21 + d ≤ 20 + (d + 1); omega, by show 345 + 60 * d ≤ 300 + 60 * (d + 1); omega⟩ ht1 ⟨by show mv_cc r.2 ≤ mv_cc r.2 - mv_cc σ + mv_cc σ; omega, by show mv_ss r.2 ≤ mv_ss r.2 - mv_ss σ + mv_ss σ; omega⟩ ?_ ?_ ?_ f 0 (mv_il 0 as) [] σ hf
      · rw [← hml]
        exact hfr s.heap [] 0 0 _ hMo va_S.rf hl (by omega) (by omega)
      · intro v pc ls st σ1 row hin hs hres
        subst hres
        exact mv_end hF B.returns hlocks hin hs (by have := hmono.1; show mv_cc σ1 - mv_cc σ + mv_cc σ = mv_cc σ1; have : mv_cc σ ≤ mv_cc σ1 := hmono.1; omega) (by have : mv_ss σ ≤ mv_ss σ1 := hmono.2; show mv_ss σ1 - mv_ss σ + mv_ss σ = mv_ss σ1; omega)
      · intro k i nx w pc ls st σ1 hin h149 hcat hres
        subst hres
        have m1 : mv_cc σ ≤ mv_cc (σ1.1 + 1, σ1.2) := hmono.1
        have m2 : mv_ss σ ≤ mv_ss (σ1.1 + 1, σ1.2) := hmono.2
        exact mv_thrown hlt hM9 hF hlocks ht0 hin h149 hcat (by show mv_cc (σ1.1 + 1, σ1.2) - mv_cc σ + mv_cc σ = _; omega) (by show mv_ss (σ1.1 + 1, σ1.2) - mv_ss σ + mv_ss σ = _; omega) ⟨by show _ ≤ mv_cc (σ1.1 + 1, σ1.2) - mv_cc σ + mv_cc σ; omega, by show _ ≤ mv_ss (σ1.1 + 1, σ1.2) - mv_ss σ + mv_ss σ; omega⟩ (by show 300 ≤ 300 + 60 * (d + 1); omega)
      · intro k hnh hk hk6 pc H1 locs1 cells1 slots1 lsA rest q ce hM1 hS1 hc1 hs1 hce hcv hcl
        obtain ⟨r1, σ1⟩ := r
        have hk : r1 = .inr k := hk
        subst hk
        have hc1 : cells1 + mv_cc σ = mv_cc σ1 := hc1
        have hs1 : slots1 + mv_ss σ = mv_ss σ1 := hs1
        exact vx_out (fun x hx => (ht0 hnh x hx).elim) hlocks hce hcv hcl (fun t ht ha => ⟨k, rfl, hk6, rfl, by rw [ht]; exact hM1, hS1.F ht⟩) hS1.2.2 (by show cells1 ≤ mv_cc σ1 - mv_cc σ; omega) (by show slots1 ≤ mv_ss σ1 - mv_ss σ; omega)
    unfold mv_Ct
    by_cases hnh : mv_nh M = true
    · have hw1 : mv_w1 M = .code (mv_mi M).2.1 (mv_mi M).1 (mv_mi M).2.2.1 (mv_mi M).2.2.2.1 := by unfold mv_w1; rw [if_pos hnh]
      refine vx_ofW (cc := (mv_mi M).1) (maxL := (mv_mi M).2.2.1) (ret := (mv_mi M).2.2.2.1) (ws' := mv_TS) p2 (by unfold mv_ws; rw [hw1]) ?_
      intro p e s m args below meth c s₁ B hml ht hv
      exact body p e s m args below meth c s₁ B hml (fun _ => ht) (fun h9 => by rw [hnh] at h9; cases h9) hv
    · have hnf : mv_nh M = false := by cases h9 : mv_nh M; rfl; exact absurd h9 hnh
      have hw1 : mv_w1 M = .codeWith (mv_mi M).2.1 (mv_mi M).1 (mv_mi M).2.2.1 (mv_mi M).2.2.2.1 (mv_hh M) := by unfold mv_w1; rw [if_neg hnh]
      refine vx_ofWH (cc := (mv_mi M).1) (maxL := (mv_mi M).2.2.1) (ret := (mv_mi M).2.2.2.1) (hh := mv_hh M) (ws' := mv_TS) p2 (by unfold mv_ws; rw [hw1]) ?_
      intro p e s m args below meth c s₁ B hml hv
      have hcw : (Cond.codeWith (mv_mi M).2.1 (mv_mi M).1 (mv_mi M).2.2.1 (mv_mi M).2.2.2.1 (mv_hh M)).before args s = true := by
        rw [← hw1]
        exact atoms_spec (ws := mv_ws M) B.pre _ List.mem_cons_self
      exact body p e s m args below meth c s₁ B hml (fun h9 => absurd h9 hnh) (fun _ => vx_table (x := (mv_mi M).2.1) B hcw) hv
end SOUND
end
